/-! Offsets, types, arguments: as the reference reads them. -/
theorem sb_re_nx {lo hi : Nat} {cs : List Nat} {n q : Nat} (h : ¬ sb_re lo hi cs n q = q) : q < n ∧ sb_re lo hi cs n q = sb_re lo hi cs n (q + 1) ∧ lo ≤ sb_lk cs n q ∧ sb_lk cs n q ≤ hi := by
  have h1 : lo ≤ sb_lk cs n q ∧ sb_lk cs n q ≤ hi := Decidable.byContradiction (fun z => h (sb_re_self z))
  have h2 := sb_re_le (lo := lo) (hi := hi) (cs := cs) (n := n) (a := q)
  have h3 : q < n := Decidable.byContradiction (fun z => h (h2.2.2 (by omega)))
  refine ⟨h3, ?_, h1⟩
  unfold sb_re
  rw [show n - q = n - (q + 1) + 1 by omega, sb_end, if_pos]
  unfold sb_lk at h1
  rw [if_pos h3] at h1
  exact h1
theorem rf_offw {cs : List Nat} {p k : Nat} (h : sb_ltr cs p k) (h1 : 1 ≤ k) : rf_rw cs p k = Int64.ofNat 509824180 ↔ rd_is cs rd_W9 p (p + k) = true := by
  by_cases h6 : k = 6
  · subst h6
    have e1 : rf_rw cs p 6 = Int64.ofNat (rf_b32 cs 6 p 0) := by unfold rf_rw; rw [if_pos (by omega)]
    have hlt := (rf_b32_ge h).2.2
    rw [e1, i64_eq (by omega) (by omega)]
    exact (rf_six h (by omega) (by omega) (by omega) (by omega) (by omega) (by omega) (v0 := 111) (v1 := 102) (v2 := 102) (v3 := 115) (v4 := 101) (v5 := 116)).trans rd_is6.symm
  · rw [rd_is_k (w := rd_W9) (by simp [rd_W9]; omega)]
    refine ⟨fun e => ?_, fun e => Bool.noConfusion e⟩
    exfalso
    by_cases h12 : k ≤ 12
    · have e1 : rf_rw cs p k = Int64.ofNat (rf_b32 cs k p 0) := by unfold rf_rw; rw [if_pos h12]
      have hlt := (rf_b32_ge h).2.2
      have hp12 : 32 ^ k ≤ 32 ^ 12 := Nat.pow_le_pow_right (by omega) h12
      rw [e1, i64_eq (by omega) (by omega)] at e
      by_cases h5 : k < 6
      · have : 32 ^ k ≤ 32 ^ 5 := Nat.pow_le_pow_right (by omega) (by omega)
        omega
      · obtain ⟨k', rfl⟩ : ∃ k', k = k' + 1 := ⟨k - 1, by omega⟩
        have hlo := rf_b32_lo h
        have : 32 ^ 6 ≤ 32 ^ k' := Nat.pow_le_pow_right (by omega) (by omega)
        omega
    · have e1 : rf_rw cs p k = -1 := by unfold rf_rw; rw [if_neg h12]
      rw [e1] at e
      exact absurd e (by decide)
/-- an offset, at most two digits of it -/
def rd_o2 (cs : List Nat) (n p : Nat) : Option (Except Nat (Nat × Nat)) :=
  if rd_is cs rd_W9 p (sb_re 97 122 cs n p) = true ∧ sb_lk cs n (sb_re 97 122 cs n p) = 58 then
    (if sb_re 48 57 cs n (sb_re 97 122 cs n p + 1) = sb_re 97 122 cs n p + 1 then some (.error (sb_re 97 122 cs n p + 1))
    else if sb_re 48 57 cs n (sb_re 97 122 cs n p + 1 + 1) = sb_re 97 122 cs n p + 1 + 1 then some (.ok (sb_re 97 122 cs n p + 1 + 1, sb_lk cs n (sb_re 97 122 cs n p + 1) - 48))
    else some (.ok (sb_re 97 122 cs n p + 1 + 1 + 1, 10 * (sb_lk cs n (sb_re 97 122 cs n p + 1) - 48) + sb_lk cs n (sb_re 97 122 cs n p + 1 + 1) - 48)))
  else none
theorem rd_off_o2 {cs : List Nat} {n p i : Nat} {M : mg} : rd_off cs n i p M = match rd_o2 cs n p with
    | none => .ok (p, M)
    | some (.error e) => .error e
    | some (.ok (a, v)) => if sb_re 48 57 cs n a = a then .ok (a, mg_off M i v) else .error a := by
  unfold rd_off rd_o2
  by_cases h : rd_is cs rd_W9 p (sb_re 97 122 cs n p) = true ∧ sb_lk cs n (sb_re 97 122 cs n p) = 58
  · rw [if_pos h, if_pos h]
    generalize sb_re 97 122 cs n p + 1 = q
    by_cases h0 : sb_re 48 57 cs n q = q
    · rw [if_pos h0]
      unfold rd_num
      rw [if_pos h0]
    · rw [if_neg h0]
      have e0 := sb_re_nx h0
      unfold rd_num
      rw [if_neg h0]
      have c0 : sb_lk cs n q = cs.getD q 0 := by unfold sb_lk; rw [if_pos e0.1]
      by_cases h1 : sb_re 48 57 cs n (q + 1) = q + 1
      · rw [if_pos h1, e0.2.1, h1, if_neg (by omega)]
        dsimp only
        rw [if_pos h1, show q + 1 - q = 1 by omega, c0]
        simp [sb_num]
      · rw [if_neg h1]
        have e1 := sb_re_nx h1
        have c1 : sb_lk cs n (q + 1) = cs.getD (q + 1) 0 := by unfold sb_lk; rw [if_pos e1.1]
        dsimp only
        by_cases h2 : sb_re 48 57 cs n (q + 1 + 1) = q + 1 + 1
        · rw [if_pos h2, e0.2.1, e1.2.1, h2, if_neg (by omega)]
          dsimp only
          rw [show q + 1 + 1 - q = 2 by omega, c0, c1]
          simp only [sb_num]
          congr 4
          omega
        · rw [if_neg h2]
          have e2 := sb_re_nx h2
          have := sb_re_le (lo := 48) (hi := 57) (cs := cs) (n := n) (a := q + 1 + 1)
          rw [e0.2.1, e1.2.1, if_pos (by omega)]
  · rw [if_neg h, if_neg h]
def mo_Q (A : am_H) (b : Nat) (s : rf_S) (ci p : Nat) (x : Option (Except Nat (Nat × Nat))) (q : am_O × am_H) : Prop := match x with
  | none => q.1 = .inl none ∧ ∃ r g, rf q.2 b (rf_c s p (-1) r g) ∧ sb_fr A q.2 b (b + 38)
  | some (.error e) => q.1 = .inl none ∧ ∃ r g, rf q.2 b (rf_c s e (Int32.ofNat e) r g) ∧ sb_fr A q.2 b (b + 38)
  | some (.ok y) => q.1 = .inl none ∧ ∃ r g, rf q.2 b (rf_c (rf_u s 11 (128 + ci) (.int (Int32.ofNat y.2))) y.1 (-1) r g) ∧ sb_fr A q.2 b (b + 38)
