/-! The class Operands: its cell at o, its amounts at o + 1. -/
def sb_sfr : Nat → Nat → Nat
  | 0, f => f
  | k + 1, f => if f % 10 = 0 then sb_sfr k (f / 10) else f
def sb_sfw : Nat → Nat → Nat
  | 0, _ => 0
  | k + 1, f => if f % 10 = 0 then sb_sfw k (f / 10) else k + 1
theorem sb_sfr_le : ∀ k f, sb_sfr k f ≤ f ∧ sb_sfw k f ≤ k
  | 0, f => ⟨Nat.le_refl _, Nat.le_refl _⟩
  | k + 1, f => by
    unfold sb_sfr sb_sfw
    have h := sb_sfr_le k (f / 10)
    split <;> omega
def sb_am (v k : Nat) : List Int64 := [Int64.ofNat v, Int64.ofNat (v / 10 ^ k), Int64.ofNat k, Int64.ofNat (sb_sfw k (v % 10 ^ k)), Int64.ofNat (v % 10 ^ k), Int64.ofNat (sb_sfr k (v % 10 ^ k))]
theorem sb_six {am : List Int64} (h : am.length = 6) (a b c d e f : Int64) : (((((am.set 0 a).set 1 b).set 2 c).set 3 d).set 4 e).set 5 f = [a, b, c, d, e, f] := by
  match am, h with
  | [_, _, _, _, _, _], _ => rfl
def sb_P (A : am_H) (o : Nat) (am : List Int64) (un : Int64) : Prop := A[o]? = some (6, [.ref (o + 1), .long un]) ∧ A[o + 1]? = some (101, am.map Value.long) ∧ am.length = 6 ∧ 45 ≤ o
