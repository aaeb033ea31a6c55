/-! The class Values: its cell at v, its row at v + 1, the six values behind it, in any order. -/
abbrev sb_vt : Type := Int32 × Bool × Int64 × Int32
def sb_v0 : sb_vt := (0, false, 0, 0)
def sb_vc (x : sb_vt) : am_C := (3, [.int x.1, .int (sb_i x.2.1), .long x.2.2.1, .int x.2.2.2])
def sb_V (A : am_H) (v : Nat) (rs : List Nat) (xs : List sb_vt) (n : Nat) : Prop :=
  A[v]? = some (2, [.ref (v + 1), .int (Int32.ofNat n)]) ∧ A[v + 1]? = some (110, rs.map Value.ref) ∧ rs.length = 6 ∧ xs.length = 6 ∧ n ≤ 6 ∧ 45 ≤ v ∧
  (∀ j, j < 6 → A[rs.getD j 0]? = some (sb_vc (xs.getD j sb_v0)) ∧ v + 2 ≤ rs.getD j 0 ∧ rs.getD j 0 < v + 8) ∧ ∀ i j, i < 6 → j < 6 → rs.getD i 0 = rs.getD j 0 → i = j
/-- the place of a name among the first values, -1 when it has none -/
def sb_pl (xs : List sb_vt) (nm : Int32) : Nat → Nat → Int32
  | 0, _ => -1
  | k + 1, j => if (xs.getD j sb_v0).1 = nm then Int32.ofNat j else sb_pl xs nm k (j + 1)
