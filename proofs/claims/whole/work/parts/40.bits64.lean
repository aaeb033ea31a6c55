/-! Bytes and hexadecimal digits of a long. -/
def sb_b64 (x : Int64) (k : Nat) : Nat := x.toUInt64.toNat / 2 ^ k
theorem u64_sh {x : Int64} {k : Nat} (hk : k < 64) : (x.toUInt64 >>> ((Int32.ofNat k).toInt64.toUInt64 &&& Int64.toUInt64 63)).toNat = sb_b64 x k := by
  have h1 : ∀ y : Fin 64, ((Int32.ofNat y.val).toInt64.toUInt64 &&& Int64.toUInt64 63).toNat = y.val := by decide +kernel
  rw [UInt64.toNat_shiftRight, h1 ⟨k, hk⟩, Nat.mod_eq_of_lt hk, Nat.shiftRight_eq_div_pow]
  rfl
theorem u64_i32 (y : UInt64) : y.toInt64.toInt32 = (UInt32.ofNat (y.toNat % 2 ^ 32)).toInt32 := by
  have h1 : y.toInt64.toInt32 = y.toUInt32.toInt32 := by
    apply Int32.toBitVec_inj.mp
    simp
    first | done | exact BitVec.signExtend_eq_setWidth_of_le _ (by decide)
  rw [h1]
  congr 1
  apply UInt32.toNat_inj.mp
  rw [UInt64.toNat_toUInt32, UInt32.toNat_ofNat']
  omega
theorem sb_l255 {x : Int64} {k : Nat} (hk : k < 64) : ((x.toUInt64 >>> ((Int32.ofNat k).toInt64.toUInt64 &&& Int64.toUInt64 63)).toInt64).toInt32 &&& Int32.ofNat 255 = Int32.ofNat (sb_b64 x k % 256) := by
  rw [u64_i32, u64_sh hk]
  show ((UInt32.ofNat (sb_b64 x k % 2 ^ 32)) &&& 255).toInt32 = _
  apply i32_of_u32
  rw [u32_byte, UInt32.toNat_ofNat']
  omega
theorem u32_nib (x : UInt32) : (x &&& 15).toNat = x.toNat % 16 := by
  rw [UInt32.toNat_and]
  exact Nat.and_two_pow_sub_one_eq_mod x.toNat 4
theorem sb_l15 {x : Int64} {k : Nat} (hk : k < 64) : ((x.toUInt64 >>> ((Int32.ofNat k).toInt64.toUInt64 &&& Int64.toUInt64 63)).toInt64).toInt32 &&& Int32.ofNat 15 = Int32.ofNat (sb_b64 x k % 16) := by
  rw [u64_i32, u64_sh hk]
  show ((UInt32.ofNat (sb_b64 x k % 2 ^ 32)) &&& 15).toInt32 = _
  apply i32_of_u32
  rw [u32_nib, UInt32.toNat_ofNat']
  omega
/-- the shown form of a byte -/
def sb_up (up : Bool) (c : Nat) : Nat := if up = true ∧ 97 ≤ c ∧ c ≤ 122 then c - 97 + 65 else c
/-- the lowest k bytes of a long other than 0, from the top, as they are shown -/
def sb_pt (x : Int64) (up : Bool) : Nat → List Nat
  | 0 => []
  | k + 1 => if sb_b64 x (8 * k) % 256 = 0 then sb_pt x up k else sb_up up (sb_b64 x (8 * k) % 256) :: sb_pt x up k
theorem sb_l0 {x : Int64} {k : Nat} (hk : k < 64) : (x.toUInt64 >>> ((Int32.ofNat k).toInt64.toUInt64 &&& Int64.toUInt64 63)).toInt64 = Int64.ofNat 0 ↔ sb_b64 x k = 0 := by
  rw [← u64_sh hk]
  constructor
  · intro h
    have h1 := congrArg Int64.toUInt64 h
    rw [UInt64.toUInt64_toInt64] at h1
    rw [h1]
    rfl
  · intro h
    have h1 : x.toUInt64 >>> ((Int32.ofNat k).toInt64.toUInt64 &&& Int64.toUInt64 63) = 0 := UInt64.toNat_inj.mp h
    rw [h1]
    rfl
def sb_s4 (k : Nat) : Int32 := Int32.ofNat (4 * k) + (-4)
theorem sb_s4_s (k : Nat) : sb_s4 (k + 1) = Int32.ofNat (4 * k) := by
  unfold sb_s4
  rw [show 4 * (k + 1) = 4 * k + 4 by omega, ← i32_add (4 * k) 4, Int32.add_assoc]
  rw [show Int32.ofNat 4 + -4 = 0 from by decide, Int32.add_zero]
theorem sb_s4_z : sb_s4 0 < 0 := by decide
def sb_hd (e : Nat) : Nat := if e < 10 then e + 48 else e - 10 + 97
/-- the hexadecimal digits of a long from the digit k - 1 on -/
def sb_hx (x : Int64) : Nat → List Nat
  | 0 => []
  | k + 1 => if 4 * k = 0 ∨ sb_b64 x (4 * k) ≠ 0 then sb_hd (sb_b64 x (4 * k) % 16) :: sb_hx x k else sb_hx x k
def sb_abs (x : Int64) : Int64 := if x < 0 then -x else x
def sb_sg (x : Int64) : List Nat := if x < 0 then [45] else []
