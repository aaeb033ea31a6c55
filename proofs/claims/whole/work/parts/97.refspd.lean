/-! The reference: the words of types, as numbers. -/
theorem rd_is_k {cs w : List Nat} {a k : Nat} (h : k ≠ w.length) : rd_is cs w a (a + k) = false := by
  unfold rd_is
  rw [if_neg (by omega)]
theorem rf_x3 (cs : List Nat) (p : Nat) : rf_b32 cs 3 p 0 = 32 * (32 * (cs.getD p 0 - 96) + (cs.getD (p + 1) 0 - 96)) + (cs.getD (p + 2) 0 - 96) := by simp [rf_b32]
theorem rf_x5 (cs : List Nat) (p : Nat) : rf_b32 cs 5 p 0 = 32 * (32 * (32 * (32 * (cs.getD p 0 - 96) + (cs.getD (p + 1) 0 - 96)) + (cs.getD (p + 2) 0 - 96)) + (cs.getD (p + 3) 0 - 96)) + (cs.getD (p + 4) 0 - 96) := by simp [rf_b32]
theorem rf_x6 (cs : List Nat) (p : Nat) : rf_b32 cs 6 p 0 = 32 * (32 * (32 * (32 * (32 * (cs.getD p 0 - 96) + (cs.getD (p + 1) 0 - 96)) + (cs.getD (p + 2) 0 - 96)) + (cs.getD (p + 3) 0 - 96)) + (cs.getD (p + 4) 0 - 96)) + (cs.getD (p + 5) 0 - 96) := by simp [rf_b32]
theorem rf_six {cs : List Nat} {a v0 v1 v2 v3 v4 v5 : Nat} (h : sb_ltr cs a 6) (h0 : 96 ≤ v0 ∧ v0 < 128) (h1 : 96 ≤ v1 ∧ v1 < 128) (h2 : 96 ≤ v2 ∧ v2 < 128) (h3 : 96 ≤ v3 ∧ v3 < 128) (h4 : 96 ≤ v4 ∧ v4 < 128) (h5 : 96 ≤ v5 ∧ v5 < 128) : rf_b32 cs 6 a 0 = ((v0 - 96) * 1024 + (v1 - 96) * 32 + v2 - 96) * 32768 + ((v3 - 96) * 1024 + (v4 - 96) * 32 + v5 - 96) ↔ (cs.getD a 0 = v0 ∧ cs.getD (a + 1) 0 = v1 ∧ cs.getD (a + 2) 0 = v2 ∧ cs.getD (a + 3) 0 = v3 ∧ cs.getD (a + 4) 0 = v4 ∧ cs.getD (a + 5) 0 = v5) := by
  have q0 := h a (by omega) (by omega)
  have q1 := h (a + 1) (by omega) (by omega)
  have q2 := h (a + 2) (by omega) (by omega)
  have q3 := h (a + 3) (by omega) (by omega)
  have q4 := h (a + 4) (by omega) (by omega)
  have q5 := h (a + 5) (by omega) (by omega)
  rw [rf_x6]
  omega
theorem rd_is6 {cs : List Nat} {a v0 v1 v2 v3 v4 v5 : Nat} : rd_is cs [v0, v1, v2, v3, v4, v5] a (a + 6) = true ↔ (cs.getD a 0 = v0 ∧ cs.getD (a + 1) 0 = v1 ∧ cs.getD (a + 2) 0 = v2 ∧ cs.getD (a + 3) 0 = v3 ∧ cs.getD (a + 4) 0 = v4 ∧ cs.getD (a + 5) 0 = v5) := by
  simp [rd_is, sb_eqw]
theorem rd_is3 {cs : List Nat} {a : Nat} : rd_is cs rd_W4 a (a + 3) = true ↔ (cs.getD a 0 = 104 ∧ cs.getD (a + 1) 0 = 101 ∧ cs.getD (a + 2) 0 = 120) := by
  simp [rd_is, sb_eqw, rd_W4]
theorem rd_is5 {cs : List Nat} {a : Nat} : rd_is cs rd_W5 a (a + 5) = true ↔ (cs.getD a 0 = 117 ∧ cs.getD (a + 1) 0 = 112 ∧ cs.getD (a + 2) 0 = 112 ∧ cs.getD (a + 3) 0 = 101 ∧ cs.getD (a + 4) 0 = 114) := by
  simp [rd_is, sb_eqw, rd_W5]
theorem rd_is13 {cs : List Nat} {a : Nat} : rd_is cs rd_W8 a (a + 13) = true ↔ (rd_is cs rd_W6 a (a + 6) = true ∧ rd_is cs [111, 114, 100, 105, 110, 97] (a + 6) (a + 6 + 6) = true ∧ cs.getD (a + 12) 0 = 108) := by
  simp [rd_is, sb_eqw, rd_W8, rd_W6]
  simp only [Nat.add_assoc, Nat.reduceAdd, and_assoc]
/-- the reference's number of a type -/
def rf_so (k : Nat) : Int32 := if k = 2 then 0 else if k = 3 then 1 else if k = 4 then 2 else if k = 5 then 3 else if k = 6 then 6 else if k = 7 then 4 else if k = 8 then 5 else -1
theorem rd_kind_k {cs : List Nat} {a k : Nat} (h3 : k ≠ 3) (h5 : k ≠ 5) (h6 : k ≠ 6) (h13 : k ≠ 13) : rd_kind cs a (a + k) = 0 := by
  unfold rd_kind
  rw [rd_is_k (w := rd_W3) (by simp [rd_W3]; omega), rd_is_k (w := rd_W4) (by simp [rd_W4]; omega), rd_is_k (w := rd_W5) (by simp [rd_W5]; omega), rd_is_k (w := rd_W6) (by simp [rd_W6]; omega), rd_is_k (w := rd_W7) (by simp [rd_W7]; omega), rd_is_k (w := rd_W8) (by simp [rd_W8]; omega)]
  rfl
theorem rd_kind_6 {cs : List Nat} {a : Nat} : rd_kind cs a (a + 6) = if rd_is cs rd_W3 a (a + 6) = true then 3 else if rd_is cs rd_W6 a (a + 6) = true then 6 else if rd_is cs rd_W7 a (a + 6) = true then 7 else 0 := by
  unfold rd_kind
  rw [rd_is_k (w := rd_W4) (by simp [rd_W4]), rd_is_k (w := rd_W5) (by simp [rd_W5]), rd_is_k (w := rd_W8) (by simp [rd_W8])]
  simp
theorem rd_kind_3 {cs : List Nat} {a : Nat} : rd_kind cs a (a + 3) = if rd_is cs rd_W4 a (a + 3) = true then 4 else 0 := by
  unfold rd_kind
  rw [rd_is_k (w := rd_W3) (by simp [rd_W3]), rd_is_k (w := rd_W5) (by simp [rd_W5]), rd_is_k (w := rd_W6) (by simp [rd_W6]), rd_is_k (w := rd_W7) (by simp [rd_W7]), rd_is_k (w := rd_W8) (by simp [rd_W8])]
  simp
theorem rd_kind_5 {cs : List Nat} {a : Nat} : rd_kind cs a (a + 5) = if rd_is cs rd_W5 a (a + 5) = true then 5 else 0 := by
  unfold rd_kind
  rw [rd_is_k (w := rd_W3) (by simp [rd_W3]), rd_is_k (w := rd_W4) (by simp [rd_W4]), rd_is_k (w := rd_W6) (by simp [rd_W6]), rd_is_k (w := rd_W7) (by simp [rd_W7]), rd_is_k (w := rd_W8) (by simp [rd_W8])]
  simp
theorem rd_kind_13 {cs : List Nat} {a : Nat} : rd_kind cs a (a + 13) = if rd_is cs rd_W8 a (a + 13) = true then 8 else 0 := by
  unfold rd_kind
  rw [rd_is_k (w := rd_W3) (by simp [rd_W3]), rd_is_k (w := rd_W4) (by simp [rd_W4]), rd_is_k (w := rd_W5) (by simp [rd_W5]), rd_is_k (w := rd_W6) (by simp [rd_W6]), rd_is_k (w := rd_W7) (by simp [rd_W7])]
  simp
/-- what sortHere makes of a word of k letters, k at most six -/
def rf_sn (N : Nat) : Int32 := if N = 492210354 then 1 else if N = 8376 then 2 else if N = 22560946 then 3 else if N = 550160428 then 4 else if N = 643175540 then 6 else -1
theorem rf_sn_k {cs : List Nat} {a k : Nat} (h : sb_ltr cs a k) (hk : k ≤ 6) : rf_sn (rf_b32 cs k a 0) = rf_so (rd_kind cs a (a + k)) := by
  have hlt := (rf_b32_ge h).2.2
  rcases (show k = 6 ∨ k = 5 ∨ k = 4 ∨ k = 3 ∨ k ≤ 2 by omega) with rfl | rfl | rfl | rfl | hk
  · have e3 : rf_b32 cs 6 a 0 = 492210354 ↔ rd_is cs rd_W3 a (a + 6) = true := (rf_six h (by omega) (by omega) (by omega) (by omega) (by omega) (by omega) (v0 := 110) (v1 := 117) (v2 := 109) (v3 := 98) (v4 := 101) (v5 := 114)).trans rd_is6.symm
    have e6 : rf_b32 cs 6 a 0 = 643175540 ↔ rd_is cs rd_W6 a (a + 6) = true := (rf_six h (by omega) (by omega) (by omega) (by omega) (by omega) (by omega) (v0 := 115) (v1 := 101) (v2 := 108) (v3 := 101) (v4 := 99) (v5 := 116)).trans rd_is6.symm
    have e7 : rf_b32 cs 6 a 0 = 550160428 ↔ rd_is cs rd_W7 a (a + 6) = true := (rf_six h (by omega) (by omega) (by omega) (by omega) (by omega) (by omega) (v0 := 112) (v1 := 108) (v2 := 117) (v3 := 114) (v4 := 97) (v5 := 108)).trans rd_is6.symm
    have hlo : 32 ^ 5 ≤ rf_b32 cs 6 a 0 := rf_b32_lo h
    rw [rd_kind_6]
    unfold rf_sn
    rw [if_neg (show ¬ rf_b32 cs 6 a 0 = 8376 by omega), if_neg (show ¬ rf_b32 cs 6 a 0 = 22560946 by omega)]
    by_cases q3 : rf_b32 cs 6 a 0 = 492210354
    · rw [if_pos q3, if_pos (e3.mp q3)]; rfl
    · rw [if_neg q3, if_neg (fun e => q3 (e3.mpr e))]
      by_cases q7 : rf_b32 cs 6 a 0 = 550160428
      · rw [if_pos q7, if_neg (fun e => by have := e6.mpr e; omega), if_pos (e7.mp q7)]; rfl
      · rw [if_neg q7]
        by_cases q6 : rf_b32 cs 6 a 0 = 643175540
        · rw [if_pos q6, if_pos (e6.mp q6)]; rfl
        · rw [if_neg q6, if_neg (fun e => q6 (e6.mpr e)), if_neg (fun e => q7 (e7.mpr e))]; rfl
  · have hlo : 32 ^ 4 ≤ rf_b32 cs 5 a 0 := rf_b32_lo h
    have e5 : rf_b32 cs 5 a 0 = 22560946 ↔ rd_is cs rd_W5 a (a + 5) = true := by
      rw [rd_is5, rf_x5]
      have q0 := h a (by omega) (by omega)
      have q1 := h (a + 1) (by omega) (by omega)
      have q2 := h (a + 2) (by omega) (by omega)
      have q3 := h (a + 3) (by omega) (by omega)
      have q4 := h (a + 4) (by omega) (by omega)
      omega
    rw [rd_kind_5]
    unfold rf_sn
    rw [if_neg (by omega), if_neg (by omega)]
    by_cases q : rf_b32 cs 5 a 0 = 22560946
    · rw [if_pos q, if_pos (e5.mp q)]; rfl
    · rw [if_neg q, if_neg (fun e => q (e5.mpr e)), if_neg (by omega), if_neg (by omega)]; rfl
  · have hlo : 32 ^ 3 ≤ rf_b32 cs 4 a 0 := rf_b32_lo h
    rw [rd_kind_k (by omega) (by omega) (by omega) (by omega)]
    unfold rf_sn
    rw [if_neg (by omega), if_neg (by omega), if_neg (by omega), if_neg (by omega), if_neg (by omega)]; rfl
  · have e4 : rf_b32 cs 3 a 0 = 8376 ↔ rd_is cs rd_W4 a (a + 3) = true := by
      rw [rd_is3, rf_x3]
      have q0 := h a (by omega) (by omega)
      have q1 := h (a + 1) (by omega) (by omega)
      have q2 := h (a + 2) (by omega) (by omega)
      omega
    rw [rd_kind_3]
    unfold rf_sn
    rw [if_neg (by omega)]
    by_cases q : rf_b32 cs 3 a 0 = 8376
    · rw [if_pos q, if_pos (e4.mp q)]; rfl
    · rw [if_neg q, if_neg (fun e => q (e4.mpr e)), if_neg (by omega), if_neg (by omega), if_neg (by omega)]; rfl
  · have h9 : 32 ^ k ≤ 32 ^ 2 := Nat.pow_le_pow_right (by omega) hk
    rw [rd_kind_k (by omega) (by omega) (by omega) (by omega)]
    unfold rf_sn
    rw [if_neg (by omega), if_neg (by omega), if_neg (by omega), if_neg (by omega), if_neg (by omega)]; rfl
