/-! Ranges of a relation. -/
def sb_ir (W : Nat) (lo hi : List Nat) : Nat → Nat → Bool → Bool
  | 0, _, f => f
  | k + 1, j, f => sb_ir W lo hi k (j + 1) (f || (decide (lo.getD j 0 ≤ W) && decide (W ≤ hi.getD j 0)))
theorem sb_in_f {a b W : Nat} (h : W < a ∨ b < W) : (decide (a ≤ W) && decide (W ≤ b)) = false := by simp; omega
theorem sb_in_t {a b W : Nat} (h : ¬ W < a) (k : ¬ b < W) : (decide (a ≤ W) && decide (W ≤ b)) = true := by simp; omega
