/-! The class Values: its cell at v, its row at v + 1, the six values behind it, in any order. -/
abbrev sb_vt : Type := Int32 × Bool × Int64 × Int32
def sb_v0 : sb_vt := (0, false, 0, 0)
def sb_vc (x : sb_vt) : am_C := (3, [.int x.1, .int (sb_i x.2.1), .long x.2.2.1, .int x.2.2.2])
def sb_V (A : am_H) (v : Nat) (rs : List Nat) (xs : List sb_vt) (n : Nat) : Prop :=
  A[v]? = some (2, [.ref (v + 1), .int (Int32.ofNat n)]) ∧ A[v + 1]? = some (110, rs.map Value.ref) ∧ rs.length = 6 ∧ xs.length = 6 ∧ n ≤ 6 ∧ 45 ≤ v ∧
  (∀ j, j < 6 → A[rs.getD j 0]? = some (sb_vc (xs.getD j sb_v0)) ∧ v + 2 ≤ rs.getD j 0 ∧ rs.getD j 0 < v + 8) ∧ ∀ i j, i < 6 → j < 6 → rs.getD i 0 = rs.getD j 0 → i = j
/-- the place of a name among the first values, -1 when it has none -/
def sb_pl (xs : List sb_vt) (nm : Int32) : Nat → Nat → Int32
  | 0, _ => -1
  | k + 1, j => if (xs.getD j sb_v0).1 = nm then Int32.ofNat j else sb_pl xs nm k (j + 1)
def sb_sw {α : Type} (l : List α) (i j : Nat) (x : α) : List α := (l.set i (l.getD j x)).set j (l.getD i x)
def sb_pi (i j k : Nat) : Nat := if k = j then i else if k = i then j else k
theorem sb_sw_get {α : Type} {l : List α} {i j k : Nat} {x : α} (hi : i < l.length) (hj : j < l.length) : (sb_sw l i j x).getD k x = l.getD (sb_pi i j k) x := by
  unfold sb_sw sb_pi
  rw [List.getD_eq_getElem?_getD, List.getElem?_set]
  by_cases h1 : k = j
  · rw [if_pos h1, if_pos h1.symm, if_pos (by rw [List.length_set]; exact hj)]
    rfl
  · rw [if_neg h1, if_neg (fun q => h1 q.symm), List.getElem?_set]
    by_cases h2 : k = i
    · rw [if_pos h2, if_pos h2.symm, if_pos hi]
      rfl
    · rw [if_neg h2, if_neg (fun q => h2 q.symm), ← List.getD_eq_getElem?_getD]
theorem sb_pi_lt {i j k n : Nat} (hi : i < n) (hj : j < n) (hk : k < n) : sb_pi i j k < n := by
  unfold sb_pi
  repeat' split
  all_goals omega
theorem sb_pi_inj {i j a b : Nat} (h : sb_pi i j a = sb_pi i j b) : a = b := by
  unfold sb_pi at h
  repeat' split at h
  all_goals omega
theorem sb_V.swap {A B : am_H} {v n n' i j : Nat} {rs : List Nat} {xs : List sb_vt} (h : sb_V A v rs xs n) (hi : i < 6) (hj : j < 6) (hn : n' ≤ 6) (h0 : B[v]? = some (2, [.ref (v + 1), .int (Int32.ofNat n')])) (h1 : B[v + 1]? = some (110, (sb_sw rs i j 0).map Value.ref)) (ho : ∀ q, q ≠ v → q ≠ v + 1 → B[q]? = A[q]?) : sb_V B v (sb_sw rs i j 0) (sb_sw xs i j sb_v0) n' := by
  obtain ⟨q0, q1, hr, hxl, hnn, h45, hx, hnd⟩ := h
  refine ⟨h0, h1, by simp [sb_sw, hr], by simp [sb_sw, hxl], hn, h45, fun k hk => ?_, fun a b ha hb hab => ?_⟩
  · rw [sb_sw_get (by omega) (by omega), sb_sw_get (by omega) (by omega)]
    have h9 := hx _ (sb_pi_lt hi hj hk)
    exact ⟨by rw [ho _ (by omega) (by omega)]; exact h9.1, h9.2⟩
  · rw [sb_sw_get (by omega) (by omega), sb_sw_get (by omega) (by omega)] at hab
    exact sb_pi_inj (hnd _ _ (sb_pi_lt hi hj ha) (sb_pi_lt hi hj hb) hab)
