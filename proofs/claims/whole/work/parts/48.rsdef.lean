/-! The class RuleSet: its cell at s, its rows behind it, its operands at s + 11. -/
def sb_rc (s r g : Nat) : am_C := (5, [.ref (s + 1), .ref (s + 2), .ref (s + 3), .ref (s + 4), .ref (s + 5), .ref (s + 6), .ref (s + 7), .ref (s + 8), .int (Int32.ofNat r), .ref (s + 9), .ref (s + 10), .int (Int32.ofNat g), .ref (s + 11)])
/-- firsts, ends; operands, moduli, negated, opening, first ranges, range ends, how many relations; lows, highs, how many ranges -/
def sb_R (A : am_H) (s : Nat) (fi en op mo : List Nat) (ng og : List Bool) (fr re : List Nat) (r : Nat) (lo hi : List Nat) (g : Nat) : Prop :=
  A[s]? = some (sb_rc s r g) ∧ A[s + 1]? = some (100, fi.map sb_c) ∧ A[s + 2]? = some (100, en.map sb_c) ∧ A[s + 3]? = some (100, op.map sb_c) ∧ A[s + 4]? = some (100, mo.map sb_c) ∧ A[s + 5]? = some (103, ng.map sb_z) ∧ A[s + 6]? = some (103, og.map sb_z) ∧
  A[s + 7]? = some (100, fr.map sb_c) ∧ A[s + 8]? = some (100, re.map sb_c) ∧ A[s + 9]? = some (100, lo.map sb_c) ∧ A[s + 10]? = some (100, hi.map sb_c) ∧
  (fi.length = 5 ∧ en.length = 5) ∧ (op.length = 40 ∧ mo.length = 40 ∧ ng.length = 40 ∧ og.length = 40 ∧ fr.length = 40 ∧ re.length = 40) ∧ (lo.length = 60 ∧ hi.length = 60) ∧ r ≤ 40 ∧ g ≤ 60 ∧ 45 ≤ s
def sb_hr (fi en : List Nat) (c : Nat) : Bool := if fi.getD c 0 < en.getD c 0 then true else false
theorem sb_five {l : List Nat} (h : l.length = 5) : ((((l.set 0 0).set (0 + 1) 0).set (0 + 1 + 1) 0).set (0 + 1 + 1 + 1) 0).set (0 + 1 + 1 + 1 + 1) 0 = [0, 0, 0, 0, 0] := by
  match l, h with
  | [_, _, _, _, _], _ => rfl
