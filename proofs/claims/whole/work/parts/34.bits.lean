/-! Bytes of an int. -/
def sb_by (w : Int32) (k : Nat) : Nat := w.toUInt32.toNat / 2 ^ k % 256
theorem sb_by_lt (w : Int32) (k : Nat) : sb_by w k < 256 := Nat.mod_lt _ (by decide)
theorem u32_byte (x : UInt32) : (x &&& 255).toNat = x.toNat % 256 := by
  rw [UInt32.toNat_and]
  exact Nat.and_two_pow_sub_one_eq_mod x.toNat 8
theorem i32_of_u32 {x : UInt32} {n : Nat} (h : x.toNat = n) : x.toInt32 = Int32.ofNat n := by
  have h1 : x = UInt32.ofNat n := by
    apply UInt32.toNat_inj.mp
    rw [h, UInt32.toNat_ofNat']
    have := x.toNat_lt
    omega
  rw [h1, UInt32.toInt32_ofNat']
theorem sb_ush {w : Int32} {k : Nat} (hk : k < 32) : (w.toUInt32 >>> ((Int32.ofNat k).toUInt32 &&& Int32.toUInt32 31)).toInt32 &&& Int32.ofNat 255 = Int32.ofNat (sb_by w k) := by
  show ((w.toUInt32 >>> (UInt32.ofNat k &&& 31)) &&& 255).toInt32 = _
  apply i32_of_u32
  rw [u32_byte, UInt32.toNat_shiftRight]
  have h1 : (UInt32.ofNat k &&& 31).toNat = k := by
    rw [UInt32.toNat_and, UInt32.toNat_ofNat']
    have : k % 2 ^ 32 &&& 31 = k % 2 ^ 32 % 32 := Nat.and_two_pow_sub_one_eq_mod (k % 2 ^ 32) 5
    rw [show (31 : UInt32).toNat = 31 from rfl, this]
    omega
  rw [h1, Nat.mod_eq_of_lt hk, Nat.shiftRight_eq_div_pow]
  rfl
theorem sb_ssh_mod {k : Nat} (hk : k ≤ 24) : ((Int32.ofNat k &&& 31).toBitVec.smod 32).toNat = k := by
  have h1 : ∀ x : Fin 25, ((Int32.ofNat x.val &&& 31).toBitVec.smod 32).toNat = x.val := by decide +kernel
  exact h1 ⟨k, by omega⟩
theorem bv_mask {x y : BitVec 32} (h : ∀ i, i < 8 → x.getLsbD i = y.getLsbD i) : x &&& 255#32 = y &&& 255#32 := by
  apply BitVec.eq_of_getLsbD_eq
  intro i hi
  rw [BitVec.getLsbD_and, BitVec.getLsbD_and]
  by_cases h8 : i < 8
  · rw [h i h8]
  · have h1 : ∀ j : Fin 32, 8 ≤ j.val → (255#32).getLsbD j.val = false := by decide +kernel
    rw [h1 ⟨i, hi⟩ (by simpa using h8)]
    simp
theorem sb_ssh {w : Int32} {k : Nat} (hk : k ≤ 24) : (w >>> (Int32.ofNat k &&& 31)) &&& Int32.ofNat 255 = Int32.ofNat (sb_by w k) := by
  rw [← sb_ush (w := w) (k := k) (by omega)]
  apply Int32.toBitVec_inj.mp
  show (w >>> (Int32.ofNat k &&& 31)).toBitVec &&& 255#32 = (w.toUInt32 >>> ((Int32.ofNat k).toUInt32 &&& Int32.toUInt32 31)).toBitVec &&& 255#32
  apply bv_mask
  intro i hi
  rw [Int32.toBitVec_shiftRight, BitVec.sshiftRight_eq', sb_ssh_mod hk, BitVec.getLsbD_sshiftRight, if_pos (by omega)]
  have h2 : ((Int32.ofNat k).toUInt32 &&& Int32.toUInt32 31).toBitVec % 32 = BitVec.ofNat 32 k := by
    have h1 : ∀ x : Fin 25, ((Int32.ofNat x.val).toUInt32 &&& Int32.toUInt32 31).toBitVec % 32 = BitVec.ofNat 32 x.val := by decide +kernel
    exact h1 ⟨k, by omega⟩
  have h3 : (w.toUInt32 >>> ((Int32.ofNat k).toUInt32 &&& Int32.toUInt32 31)).toBitVec = w.toBitVec >>> k := by
    show w.toBitVec >>> (((Int32.ofNat k).toUInt32 &&& Int32.toUInt32 31).toBitVec % 32) = _
    rw [h2]
    show w.toBitVec >>> (BitVec.ofNat 32 k).toNat = _
    rw [BitVec.toNat_ofNat, Nat.mod_eq_of_lt (by omega)]
  rw [h3, BitVec.getLsbD_ushiftRight]
  simp
  omega
/-- the bytes of w below 2 ^ (8 k) other than 0, from the top -/
def sb_bl (w : Int32) : Nat → List Nat
  | 0 => []
  | k + 1 => if sb_by w (8 * k) = 0 then sb_bl w k else sb_by w (8 * k) :: sb_bl w k
def sb_fp (p : Int32) : List Nat → Int32
  | [] => p
  | b :: r => sb_fp (p <<< (Int32.ofNat 8 &&& 31) ||| Int32.ofNat b) r
def sb_all (lo hi : Nat) (l : List Nat) : Bool := l.all fun b => decide (lo ≤ b) && decide (b ≤ hi)
/-- the shift with which the byte k - 1 is reached -/
def sb_sh (k : Nat) : Int32 := Int32.ofNat (8 * k) + (-8)
theorem sb_sh_s (k : Nat) : sb_sh (k + 1) = Int32.ofNat (8 * k) := by
  unfold sb_sh
  rw [show 8 * (k + 1) = 8 * k + 8 by omega, ← i32_add (8 * k) 8, Int32.add_assoc]
  rw [show Int32.ofNat 8 + -8 = 0 from by decide, Int32.add_zero]
theorem sb_sh_z : sb_sh 0 < 0 := by decide
theorem sb_bl_z {w : Int32} {k : Nat} (h : sb_by w (8 * k) = 0) : sb_bl w (k + 1) = sb_bl w k := by rw [sb_bl, if_pos h]
theorem sb_bl_s {w : Int32} {k : Nat} (h : ¬ sb_by w (8 * k) = 0) : sb_bl w (k + 1) = sb_by w (8 * k) :: sb_bl w k := by rw [sb_bl, if_neg h]
/-- a name as bytes, -1 when it is none -/
def sb_pn (w : Int32) : Int32 := if (bif sb_all 97 122 (sb_bl w 4) then sb_fp 0 (sb_bl w 4) else -1) ≠ 0 then (bif sb_all 97 122 (sb_bl w 4) then sb_fp 0 (sb_bl w 4) else -1) else -1
def sb_slot (x : Int32) : Bool := if x = 0 ∨ x = 1 then true else false
def sb_rng (lo hi : Nat) (x : Int32) : Bool := if Int32.ofNat lo ≤ x ∧ x ≤ Int32.ofNat hi then true else false
