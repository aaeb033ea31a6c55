/-! Cells of the small machine: arrays as lists of numbers. -/
def sb_c (k : Nat) : Value := .int (Int32.ofNat k)
def sb_i (b : Bool) : Int32 := bif b then 1 else 0
def sb_z (b : Bool) : Value := .int (sb_i b)
theorem sb_gd {α : Type} {xs : List α} {mk : α → Value} {n : Nat} (x : α) (h : n < xs.length) : (xs.map mk)[n]? = some (mk (xs.getD n x)) := by
  rw [List.getElem?_map, List.getD_eq_getElem?_getD, List.getElem?_eq_getElem h]
  rfl
theorem sb_ss {A : am_H} {a : Nat} {c c' : am_C} (h : A[a]? = some c) : (A.set a c')[a]? = some c' := by
  rw [List.getElem?_set, if_pos rfl, if_pos (List.getElem?_eq_some_iff.mp h).1]
theorem sb_so {A : am_H} {a b : Nat} {c c' : am_C} (hn : a ≠ b) (h : A[b]? = some c) : (A.set a c')[b]? = some c := by
  rw [List.getElem?_set, if_neg hn]
  exact h
theorem sb_sm {α : Type} {xs : List α} {mk : α → Value} {n : Nat} {x : α} : (xs.map mk).set n (mk x) = (xs.set n x).map mk := (List.map_set ..).symm
theorem sb_narrow_c {k : Nat} (h : k < 65536) : narrow .char (.int (Int32.ofNat k)) = sb_c k := by
  have h1 : (UInt32.ofNat k).toUInt16.toUInt32 = UInt32.ofNat k := by
    apply UInt32.toNat_inj.mp
    simp
    omega
  show Value.int ((Int32.ofNat k).toUInt32.toUInt16.toUInt32.toInt32) = _
  rw [Int32.toUInt32_ofNat', h1, UInt32.toInt32_ofNat']
  rfl
theorem sb_sc {xs : List Nat} {n k : Nat} (h : k < 65536) : (xs.map sb_c).set n (narrow .char (.int (Int32.ofNat k))) = (xs.set n k).map sb_c := by
  rw [sb_narrow_c h]
  exact sb_sm
theorem sb_narrow_z (b : Bool) : narrow .boolean (.int (sb_i b)) = sb_z b := by cases b <;> rfl
theorem sb_sz {xs : List Bool} {n : Nat} {b : Bool} : (xs.map sb_z).set n (narrow .boolean (.int (sb_i b))) = (xs.set n b).map sb_z := by
  rw [sb_narrow_z]
  exact sb_sm
/-- the character at a place of the text, -1 behind its end -/
def sb_chr (cs : List Nat) (n k : Nat) : Int32 := if k < n then Int32.ofNat (cs.getD k 0) else -1
