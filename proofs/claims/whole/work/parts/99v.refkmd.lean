/-! The reference: what keep copies. -/
def rm_mv (x : Int32) (f t : Nat) : Int32 := if x < Int32.ofNat 0 then -1 else x - Int32.ofNat f + Int32.ofNat t
theorem rm_mv_i {f t : Nat} {o : Option Nat} (h : ∀ i, o = some i → f + i < 1000) (ht : t < 1000) : rm_mv (rm_i f o) f t = rm_i t o := by
  rcases o with _ | i
  · rfl
  · have h1 := h i rfl
    unfold rm_mv rm_i
    dsimp only
    rw [if_neg (by rw [i32_lt (by omega) (by omega)]; omega), i32_sub (by omega), i32_add, show f + i - f + t = t + i by omega]
def rk_P6 (j : Nat) : Bool := decide (6 ≤ j) && decide (j ≤ 8)
def rk_P9 (j : Nat) : Bool := decide (9 ≤ j) && decide (j ≤ 12)
def rk_P13 (j : Nat) : Bool := decide (13 ≤ j) && decide (j ≤ 16)
def rv7 (x6 x7 : Nat → Int32) (a i : Nat) : Int32 := if x6 i = 2 then rm_mv (x7 i) 128 a else x7 i
def rv6 (x6 x7 x8 : Nat → Int32) (p a j i : Nat) : Value := if j = 6 then .int (x6 i) else if j = 7 then .int (rv7 x6 x7 a i) else .int (rm_mv (x8 i) 256 p)
def rv9 (x9 x10 x11 x12 : Nat → Int32) (a j i : Nat) : Value := if j = 9 then .int (x9 i) else if j = 10 then .int (x10 i) else if j = 11 then .int (x11 i) else .int (rm_mv (x12 i) 128 a)
def rv13 (b13 : Nat → Bool) (y14 : Nat → Int64) (x15 x16 : Nat → Int32) (p a j i : Nat) : Value := if j = 13 then .int (sb_i (b13 i)) else if j = 14 then .long (y14 i) else if j = 15 then .int (rm_mv (x15 i) 256 p) else .int (rm_mv (x16 i) 128 a)
theorem rk_step6 {s u : rf_S} {x6 x7 x8 : Nat → Int32} {p a k : Nat} {v7 : Int32} (hv : v7 = rv7 x6 x7 a k) (hu : u = rk s rk_P6 (rv6 x6 x7 x8 p a) p k) : rf_u (rf_u (rf_u u 6 (p + k) (.int (x6 k))) 7 (p + k) (.int v7)) 8 (p + k) (.int (rm_mv (x8 k) 256 p)) = rk s rk_P6 (rv6 x6 x7 x8 p a) p (k + 1) := by
  subst hu
  subst hv
  funext j i
  rw [rk_s, rf_u_if, rf_u_if, rf_u_if]
  unfold rk_P6 rv6
  by_cases h2 : i = p + k
  · subst h2
    by_cases h : 6 ≤ j ∧ j ≤ 8
    · rcases (show j = 6 ∨ j = 7 ∨ j = 8 by omega) with e | e | e <;> subst e <;> simp
    · repeat rw [if_neg (by omega)]
      rw [if_neg (by simp; omega)]
  · simp [h2]
theorem rk_step9 {s u : rf_S} {x9 x10 x11 x12 : Nat → Int32} {a k : Nat} (hu : u = rk s rk_P9 (rv9 x9 x10 x11 x12 a) a k) : rf_u (rf_u (rf_u (rf_u u 9 (a + k) (.int (x9 k))) 10 (a + k) (.int (x10 k))) 11 (a + k) (.int (x11 k))) 12 (a + k) (.int (rm_mv (x12 k) 128 a)) = rk s rk_P9 (rv9 x9 x10 x11 x12 a) a (k + 1) := by
  subst hu
  funext j i
  rw [rk_s, rf_u_if, rf_u_if, rf_u_if, rf_u_if]
  unfold rk_P9 rv9
  by_cases h2 : i = a + k
  · subst h2
    by_cases h : 9 ≤ j ∧ j ≤ 12
    · rcases (show j = 9 ∨ j = 10 ∨ j = 11 ∨ j = 12 by omega) with e | e | e | e <;> subst e <;> simp
    · repeat rw [if_neg (by omega)]
      rw [if_neg (by simp; omega)]
  · simp [h2]
theorem rk_step13 {s u : rf_S} {b13 : Nat → Bool} {y14 : Nat → Int64} {x15 x16 : Nat → Int32} {p a k : Nat} (hu : u = rk s rk_P13 (rv13 b13 y14 x15 x16 p a) a k) : rf_u (rf_u (rf_u (rf_u u 13 (a + k) (.int (sb_i (b13 k)))) 14 (a + k) (.long (y14 k))) 15 (a + k) (.int (rm_mv (x15 k) 256 p))) 16 (a + k) (.int (rm_mv (x16 k) 128 a)) = rk s rk_P13 (rv13 b13 y14 x15 x16 p a) a (k + 1) := by
  subst hu
  funext j i
  rw [rk_s, rf_u_if, rf_u_if, rf_u_if, rf_u_if]
  unfold rk_P13 rv13
  by_cases h2 : i = a + k
  · subst h2
    by_cases h : 13 ≤ j ∧ j ≤ 16
    · rcases (show j = 13 ∨ j = 14 ∨ j = 15 ∨ j = 16 by omega) with e | e | e | e <;> subst e <;> simp
    · repeat rw [if_neg (by omega)]
      rw [if_neg (by simp; omega)]
  · simp [h2]
