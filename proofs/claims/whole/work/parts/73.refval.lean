/-! The reference's values. -/
def rf_fs (w b : Nat) : Nat := 32 * w + (b - 96)
def rf_fb (w : Nat) (l : List Nat) : Nat := l.foldl rf_fs w
theorem rf_fb_n (w : Nat) : rf_fb w [] = w := rfl
theorem rf_fb_c (w b : Nat) (r : List Nat) : rf_fb w (b :: r) = rf_fb (32 * w + (b - 96)) r := by
  unfold rf_fb
  rw [List.foldl_cons, rf_fs]
/-- a name as the reference has it, -1 when it is none -/
def rf_nm (w : Int32) : Int32 := if sb_all 97 122 (sb_bl w 4) = true then (if rf_fb 0 (sb_bl w 4) = 0 then -1 else Int32.ofNat (rf_fb 0 (sb_bl w 4))) else -1
/-- the values' rows: how many, names, words or numbers, contents, scales -/
def rf_vs (s : rf_S) (nv : Nat) (nf : Nat → Int32) (bf : Nat → Bool) (lf : Nat → Int64) (cf : Nat → Int32) : Prop := s 42 0 = .int (Int32.ofNat nv) ∧ nv ≤ 6 ∧ ∀ i, i < 6 → s 43 i = .int (nf i) ∧ s 44 i = .int (sb_i (bf i)) ∧ s 45 i = .long (lf i) ∧ s 46 i = .int (cf i)
def rf_fd (nf : Nat → Int32) (x : Int32) : Nat → Nat → Option Nat
  | 0, _ => none
  | k + 1, j => if nf j = x then some j else rf_fd nf x k (j + 1)
theorem rf_fd_lt {nf : Nat → Int32} {x : Int32} : ∀ {k j i}, rf_fd nf x k j = some i → j ≤ i ∧ i < j + k ∧ nf i = x
  | 0, j, i, h => by cases h
  | k + 1, j, i, h => by
    rw [rf_fd] at h
    split at h
    · next q => cases h; exact ⟨Nat.le_refl _, by omega, q⟩
    · obtain ⟨h1, h2, h3⟩ := rf_fd_lt h
      exact ⟨by omega, by omega, h3⟩
/-- the fields of the values, and the code -/
def rf_vj (j : Nat) : Prop := j = 0 ∨ j = 42 ∨ j = 43 ∨ j = 44 ∨ j = 45 ∨ j = 46
theorem rf_vs.set {s : rf_S} {nv nv' k : Nat} {nf : Nat → Int32} {bf : Nat → Bool} {lf : Nat → Int64} {cf : Nat → Int32} {x c : Int32} {b : Bool} {y : Int64} {t : rf_S} (h : rf_vs s nv nf bf lf cf) (h42 : t 42 0 = .int (Int32.ofNat nv')) (hn : nv' ≤ 6) (ht : ∀ j i, 43 ≤ j → j ≤ 46 → t j i = s j i) : rf_vs (rf_u (rf_u (rf_u (rf_u t 43 k (.int x)) 44 k (.int (sb_i b))) 45 k (.long y)) 46 k (.int c)) nv' (up_ nf k x) (up_ bf k b) (up_ lf k y) (up_ cf k c) := by
  refine ⟨h42, hn, fun i hi => ?_⟩
  obtain ⟨h1, h2, h3, h4⟩ := h.2.2 i hi
  simp only [rf_u_if, up_]
  by_cases hk : i = k
  · simp [hk]
  · simp [hk, ht, h1, h2, h3, h4]
