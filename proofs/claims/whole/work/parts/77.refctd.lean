/-! The reference: whether a relation holds. -/
def ct_ig (l h : Nat → Nat) (W U : Nat) : Nat → Nat → Bool → Bool
  | 0, _, f => f
  | k + 1, j, f => ct_ig l h W U k (j + 1) (f || (decide (W % U = 0) && (decide (l j ≤ W / U) && decide (W / U ≤ h j))))
theorem ct_ig_0 {l h : Nat → Nat} {W U : Nat} (hz : ¬ W % U = 0) : ∀ k j f, ct_ig l h W U k j f = f
  | 0, j, f => rfl
  | k + 1, j, f => by rw [ct_ig, decide_eq_false hz, Bool.false_and, Bool.or_false, ct_ig_0 hz k]
theorem ct_ig_1 {l h : Nat → Nat} {W U : Nat} (hz : W % U = 0) : ∀ k j f, ct_ig l h W U k j f = ct_ir l h (W / U) k j f
  | 0, j, f => rfl
  | k + 1, j, f => by rw [ct_ig, ct_ir, decide_eq_true hz, Bool.true_and, ct_ig_1 hz k]
theorem ct_ig_in {l h : Nat → Nat} {v k o m j e : Nat} : ct_ig l h (ct_A v k o m) (ct_U k o) (e - j) j false = ct_in v k o m l h j e := by
  unfold ct_in
  split
  · next hz => rw [ct_ig_1 hz]
  · next hz => rw [ct_ig_0 hz]
theorem ct_am_g {v k o : Nat} (ho : o < 6) : (ct_am v k).getD o 0 = if o = 0 then v else if o = 1 then v / 10 ^ k else if o = 2 then k else if o = 3 then sb_sfw k (v % 10 ^ k) else if o = 4 then v % 10 ^ k else sb_sfr k (v % 10 ^ k) := by
  match o with
  | 0 => rfl
  | 1 => rfl
  | 2 => rfl
  | 3 => rfl
  | 4 => rfl
  | 5 => rfl
  | o + 6 => omega
