/-! Cells of the small machine: arrays as lists of numbers. -/
def sb_c (k : Nat) : Value := .int (Int32.ofNat k)
def sb_i (b : Bool) : Int32 := bif b then 1 else 0
def sb_z (b : Bool) : Value := .int (sb_i b)
theorem sb_gd {α : Type} {xs : List α} {mk : α → Value} {n : Nat} (x : α) (h : n < xs.length) : (xs.map mk)[n]? = some (mk (xs.getD n x)) := by
  rw [List.getElem?_map, List.getD_eq_getElem?_getD, List.getElem?_eq_getElem h]
  rfl
theorem sb_ss {A : am_H} {a : Nat} {c c' : am_C} (h : A[a]? = some c) : (A.set a c')[a]? = some c' := by
  rw [List.getElem?_set, if_pos rfl, if_pos (List.getElem?_eq_some_iff.mp h).1]
theorem sb_so {A : am_H} {a b : Nat} {c c' : am_C} (hn : a ≠ b) (h : A[b]? = some c) : (A.set a c')[b]? = some c := by
  rw [List.getElem?_set, if_neg hn]
  exact h
theorem sb_sm {α : Type} {xs : List α} {mk : α → Value} {n : Nat} {x : α} : (xs.map mk).set n (mk x) = (xs.set n x).map mk := (List.map_set ..).symm
theorem sb_narrow_c {k : Nat} (h : k < 65536) : narrow .char (.int (Int32.ofNat k)) = sb_c k := by
  have h1 : (UInt32.ofNat k).toUInt16.toUInt32 = UInt32.ofNat k := by
    apply UInt32.toNat_inj.mp
    simp
    omega
  show Value.int ((Int32.ofNat k).toUInt32.toUInt16.toUInt32.toInt32) = _
  rw [Int32.toUInt32_ofNat', h1, UInt32.toInt32_ofNat']
  rfl
theorem sb_sc {xs : List Nat} {n k : Nat} (h : k < 65536) : (xs.map sb_c).set n (narrow .char (.int (Int32.ofNat k))) = (xs.set n k).map sb_c := by
  rw [sb_narrow_c h]
  exact sb_sm
theorem sb_narrow_z (b : Bool) : narrow .boolean (.int (sb_i b)) = sb_z b := by cases b <;> rfl
theorem sb_sz {xs : List Bool} {n : Nat} {b : Bool} : (xs.map sb_z).set n (narrow .boolean (.int (sb_i b))) = (xs.set n b).map sb_z := by
  rw [sb_narrow_z]
  exact sb_sm
/-- the character at a place of the text, -1 behind its end -/
def sb_chr (cs : List Nat) (n k : Nat) : Int32 := if k < n then Int32.ofNat (cs.getD k 0) else -1
/-- where the row of characters lo .. hi ends -/
def sb_end (lo hi : Nat) (cs : List Nat) (n : Nat) : Nat → Nat → Nat
  | 0, e => e
  | k + 1, e => if lo ≤ cs.getD e 0 ∧ cs.getD e 0 ≤ hi then sb_end lo hi cs n k (e + 1) else e
def sb_re (lo hi : Nat) (cs : List Nat) (n a : Nat) : Nat := sb_end lo hi cs n (n - a) a
theorem sb_end_le (lo hi : Nat) (cs : List Nat) (n : Nat) : ∀ k e, e ≤ sb_end lo hi cs n k e ∧ sb_end lo hi cs n k e ≤ e + k
  | 0, e => ⟨Nat.le_refl _, Nat.le_refl _⟩
  | k + 1, e => by
    unfold sb_end
    have h := sb_end_le lo hi cs n k (e + 1)
    split <;> omega
theorem sb_re_le {lo hi : Nat} {cs : List Nat} {n a : Nat} : a ≤ sb_re lo hi cs n a ∧ (a ≤ n → sb_re lo hi cs n a ≤ n) ∧ (n ≤ a → sb_re lo hi cs n a = a) := by
  have h := sb_end_le lo hi cs n (n - a) a
  unfold sb_re
  refine ⟨h.1, fun _ => by omega, fun _ => by omega⟩
theorem sb_end_in (lo hi : Nat) (cs : List Nat) (n : Nat) : ∀ k e j, e ≤ j → j < sb_end lo hi cs n k e → lo ≤ cs.getD j 0 ∧ cs.getD j 0 ≤ hi
  | 0, e, j, h1, h2 => by unfold sb_end at h2; omega
  | k + 1, e, j, h1, h2 => by
    unfold sb_end at h2
    split at h2
    · next h3 =>
      by_cases hj : e = j
      · rw [← hj]; exact h3
      · exact sb_end_in lo hi cs n k (e + 1) j (by omega) h2
    · omega
theorem sb_re_in {lo hi : Nat} {cs : List Nat} {n a j : Nat} (h1 : a ≤ j) (h2 : j < sb_re lo hi cs n a) : lo ≤ cs.getD j 0 ∧ cs.getD j 0 ≤ hi := sb_end_in lo hi cs n _ a j h1 h2
/-! the class Text: its cell at t, its characters at t + 1 -/
def sb_tc (t n a : Nat) (f : Int32) : am_C := (1, [.ref (t + 1), .int (Int32.ofNat n), .int (Int32.ofNat a), .int f])
def sb_T (A : am_H) (t : Nat) (cs : List Nat) (n a : Nat) (f : Int32) : Prop := A[t]? = some (sb_tc t n a f) ∧ A[t + 1]? = some (102, cs.map sb_c) ∧ cs.length = 120 ∧ n ≤ 120 ∧ a ≤ 120 ∧ (∀ k, cs.getD k 0 < 128) ∧ 45 ≤ t
theorem sb_T.set {A : am_H} {t : Nat} {cs : List Nat} {n a a' : Nat} {f f' : Int32} (h : sb_T A t cs n a f) (ha : a' ≤ 120) : sb_T (A.set t (sb_tc t n a' f')) t cs n a' f' := by
  obtain ⟨h1, h2, h3, h4, h5, h6, h7⟩ := h
  exact ⟨sb_ss h1, sb_so (by omega) h2, h3, h4, ha, h6, h7⟩
theorem sb_set_same {A : am_H} {a : Nat} {c : am_C} (h : A[a]? = some c) : A.set a c = A := by
  apply List.ext_getElem?
  intro i
  rw [List.getElem?_set]
  by_cases hi : a = i
  · subst hi
    rw [if_pos rfl, if_pos (List.getElem?_eq_some_iff.mp h).1, h]
  · rw [if_neg hi]
/-- letters as bytes; digits as a number -/
def sb_pk (cs : List Nat) : Nat → Nat → Int64 → Int64
  | 0, _, w => w
  | k + 1, j, w => sb_pk cs k (j + 1) (w <<< ((Int32.ofNat 8).toInt64 &&& 63) ||| Int64.ofNat (cs.getD j 0))
def sb_num (cs : List Nat) : Nat → Nat → Nat → Nat
  | 0, _, w => w
  | k + 1, j, w => sb_num cs k (j + 1) (w * 10 + (cs.getD j 0 - 48))
theorem i32_and255 {b : Nat} (h : b < 256) : Int32.ofNat b &&& Int32.ofNat 255 = Int32.ofNat b := by
  have h1 : ∀ x : Fin 256, Int32.ofNat x.val &&& Int32.ofNat 255 = Int32.ofNat x.val := by decide +kernel
  exact h1 ⟨b, h⟩
theorem i32_i2c {b : Nat} (h : b < 65536) : ((Int32.ofNat b).toUInt32 % 65536).toInt32 = Int32.ofNat b := by
  have h1 : UInt32.ofNat b % 65536 = UInt32.ofNat b := by
    apply UInt32.toNat_inj.mp
    simp
    omega
  rw [Int32.toUInt32_ofNat', h1, UInt32.toInt32_ofNat']
theorem i64_of {b : Nat} (h : b < 2147483648) : (Int32.ofNat b).toInt64 = Int64.ofNat b := by
  apply Int64.toInt_inj.mp
  rw [Int32.toInt_toInt64, Int32.toInt_ofNat_of_lt (by omega), Int64.toInt_ofNat_of_lt (by omega)]
/-! a text of the class: its cell at s, its bytes at v -/
def sb_S (A : am_H) (s v : Nat) (bs : List Nat) : Prop := A[s]? = some (50, [.ref v, .int (Int32.ofNat 0)]) ∧ A[v]? = some (104, bs.map sb_c) ∧ (∀ k, bs.getD k 0 < 128) ∧ bs.length < 100
theorem i32_shr0 (x : Int32) : x >>> (Int32.ofNat 0 &&& 31) = x := by
  rw [show Int32.ofNat 0 &&& 31 = (0 : Int32) from by decide]
  simp
theorem sb_ret {m : Nat} {t : FieldType} {x : Int32} (hr : am_rty m = some t) (hf : fits t (.int x) = true) : am_ret m .ireturn [.int x] = some (some (.int x)) := by
  simp only [am_ret, hr, hf, cond_true]
theorem sb_fitc {b : Nat} (h : b < 65536) : fits .char (.int (Int32.ofNat b)) = true := by
  have h1 : (Int32.ofNat 0 : Int32) ≤ Int32.ofNat b := (i32_le (by omega) (by omega)).mpr (by omega)
  have h2 : Int32.ofNat b ≤ Int32.ofNat 65535 := (i32_le (by omega) (by omega)).mpr (by omega)
  simp only [fits, Bool.and_eq_true, decide_eq_true_eq]
  exact ⟨h1, h2⟩
theorem sb_fitz (b : Bool) : fits .boolean (.int (sb_i b)) = true := by cases b <;> rfl
/-- the characters from a + j on are those of the text from j on -/
def sb_eqw (cs bs : List Nat) (a : Nat) : Nat → Nat → Bool
  | 0, _ => true
  | k + 1, j => if cs.getD (a + j) 0 = bs.getD j 0 then sb_eqw cs bs a k (j + 1) else false
