/-! Text.append for any word. -/
theorem sb_bl_len (w : Int32) : ∀ k, (sb_bl w k).length ≤ k
  | 0 => Nat.le_refl _
  | k + 1 => by
    rw [sb_bl]
    have := sb_bl_len w k
    split
    · omega
    · simp; omega
theorem sb_all_in {lo hi : Nat} {l : List Nat} (h : sb_all lo hi l = true) : ∀ b ∈ l, lo ≤ b ∧ b ≤ hi := by
  intro b hb
  unfold sb_all at h
  have h1 := List.all_eq_true.mp h b hb
  simpa using h1
theorem tx_app {d t n a : Nat} {f : Int32} {cs l : List Nat} {A : am_H} (hl : l.length ≤ 4) (hb : ∀ b ∈ l, 32 ≤ b ∧ b ≤ 126) (h : sb_T A t cs n a f) : (n + l.length ≤ 120 → ∃ B, am_go d 10 [.ref t, .int (sb_fp 0 l)] A (.inl (some (.int 1)), B) ∧ sb_T B t (sb_plc cs n l) (n + l.length) a f ∧ sb_fr A B t (t + 2)) ∧ (¬ n + l.length ≤ 120 → am_go d 10 [.ref t, .int (sb_fp 0 l)] A (.inl (some (.int 0)), A)) := by
  match l, hl, hb with
  | [], _, _ => exact ⟨fun hr => tx_app0 (N := 0) rfl (by simpa using hr) h, fun hr => absurd h.2.2.2.1 hr⟩
  | [b1], _, hb =>
    have h1 := hb b1 (by simp)
    have e : sb_fp 0 [b1] = Int32.ofNat (0 * 256 + b1) := i32_or8 (W := 0) (by omega) (by omega)
    rw [e]
    exact ⟨fun hr => tx_app1 rfl h1 hr h, fun hr => tx_apf1 rfl h1 (by simp at hr; omega) h⟩
  | [b1, b2], _, hb =>
    have h1 := hb b1 (by simp)
    have h2 := hb b2 (by simp)
    have e : sb_fp 0 [b1, b2] = Int32.ofNat ((0 * 256 + b1) * 256 + b2) := by
      have e1 : sb_fp 0 [b1, b2] = Int32.ofNat (0 * 256 + b1) <<< (Int32.ofNat 8 &&& 31) ||| Int32.ofNat b2 := by
        rw [← i32_or8 (W := 0) (c := b1) (by omega) (by omega)]; rfl
      rw [e1]
      exact i32_or8 (by omega) (by omega)
    rw [e]
    exact ⟨fun hr => tx_app2 rfl h1 h2 hr h, fun hr => tx_apf2 rfl h1 h2 (by simp at hr; omega) h⟩
  | [b1, b2, b3], _, hb =>
    have h1 := hb b1 (by simp)
    have h2 := hb b2 (by simp)
    have h3 := hb b3 (by simp)
    have e : sb_fp 0 [b1, b2, b3] = Int32.ofNat (((0 * 256 + b1) * 256 + b2) * 256 + b3) := by
      have e1 : sb_fp 0 [b1, b2, b3] = Int32.ofNat ((0 * 256 + b1) * 256 + b2) <<< (Int32.ofNat 8 &&& 31) ||| Int32.ofNat b3 := by
        rw [← i32_or8 (W := 0 * 256 + b1) (c := b2) (by omega) (by omega), ← i32_or8 (W := 0) (c := b1) (by omega) (by omega)]; rfl
      rw [e1]
      exact i32_or8 (by omega) (by omega)
    rw [e]
    exact ⟨fun hr => tx_app3 rfl h1 h2 h3 hr h, fun hr => tx_apf3 rfl h1 h2 h3 (by simp at hr; omega) h⟩
  | [b1, b2, b3, b4], _, hb =>
    have h1 := hb b1 (by simp)
    have h2 := hb b2 (by simp)
    have h3 := hb b3 (by simp)
    have h4 := hb b4 (by simp)
    have e : sb_fp 0 [b1, b2, b3, b4] = Int32.ofNat ((((0 * 256 + b1) * 256 + b2) * 256 + b3) * 256 + b4) := by
      have e1 : sb_fp 0 [b1, b2, b3, b4] = Int32.ofNat (((0 * 256 + b1) * 256 + b2) * 256 + b3) <<< (Int32.ofNat 8 &&& 31) ||| Int32.ofNat b4 := by
        rw [← i32_or8 (W := (0 * 256 + b1) * 256 + b2) (c := b3) (by omega) (by omega), ← i32_or8 (W := 0 * 256 + b1) (c := b2) (by omega) (by omega), ← i32_or8 (W := 0) (c := b1) (by omega) (by omega)]; rfl
      rw [e1]
      exact i32_or8 (by omega) (by omega)
    rw [e]
    exact ⟨fun hr => tx_app4 rfl h1 h2 h3 h4 hr h, fun hr => tx_apf4 rfl h1 h2 h3 h4 (by simp at hr; omega) h⟩
  | b1 :: b2 :: b3 :: b4 :: b5 :: r, hl, _ => simp at hl
theorem sb_fp_N {l : List Nat} (hl : l.length ≤ 4) (hb : ∀ b ∈ l, 32 ≤ b ∧ b ≤ 126) : sb_fp 0 l = Int32.ofNat (sb_fpn 0 l) ∧ sb_fpn 0 l < 2147483648 := by
  match l, hl, hb with
  | [], _, _ => exact ⟨rfl, by decide⟩
  | [b1], _, hb =>
    have h1 := hb b1 (by simp)
    exact ⟨i32_or8 (W := 0) (by omega) (by omega), by simp only [sb_fpn]; omega⟩
  | [b1, b2], _, hb =>
    have h1 := hb b1 (by simp)
    have h2 := hb b2 (by simp)
    refine ⟨?_, by simp only [sb_fpn]; omega⟩
    have e1 : sb_fp 0 [b1, b2] = Int32.ofNat (0 * 256 + b1) <<< (Int32.ofNat 8 &&& 31) ||| Int32.ofNat b2 := by
      rw [← i32_or8 (W := 0) (c := b1) (by omega) (by omega)]; rfl
    rw [e1]
    exact i32_or8 (by omega) (by omega)
  | [b1, b2, b3], _, hb =>
    have h1 := hb b1 (by simp)
    have h2 := hb b2 (by simp)
    have h3 := hb b3 (by simp)
    refine ⟨?_, by simp only [sb_fpn]; omega⟩
    have e1 : sb_fp 0 [b1, b2, b3] = Int32.ofNat ((0 * 256 + b1) * 256 + b2) <<< (Int32.ofNat 8 &&& 31) ||| Int32.ofNat b3 := by
      rw [← i32_or8 (W := 0 * 256 + b1) (c := b2) (by omega) (by omega), ← i32_or8 (W := 0) (c := b1) (by omega) (by omega)]; rfl
    rw [e1]
    exact i32_or8 (by omega) (by omega)
  | [b1, b2, b3, b4], _, hb =>
    have h1 := hb b1 (by simp)
    have h2 := hb b2 (by simp)
    have h3 := hb b3 (by simp)
    have h4 := hb b4 (by simp)
    refine ⟨?_, by simp only [sb_fpn]; omega⟩
    have e1 : sb_fp 0 [b1, b2, b3, b4] = Int32.ofNat (((0 * 256 + b1) * 256 + b2) * 256 + b3) <<< (Int32.ofNat 8 &&& 31) ||| Int32.ofNat b4 := by
      rw [← i32_or8 (W := (0 * 256 + b1) * 256 + b2) (c := b3) (by omega) (by omega), ← i32_or8 (W := 0 * 256 + b1) (c := b2) (by omega) (by omega), ← i32_or8 (W := 0) (c := b1) (by omega) (by omega)]; rfl
    rw [e1]
    exact i32_or8 (by omega) (by omega)
  | b1 :: b2 :: b3 :: b4 :: b5 :: r, hl, _ => simp at hl
def sb_isn (y : Int64) (c : Int32) : Bool := if c < 0 then false else if 6 < c then false else if y < -1000000000000000 then false else if 1000000000000000 < y then false else true
theorem vl_plx (xs : List sb_vt) (nm : Int32) : ∀ k j, sb_pl xs nm k j = -1 ∨ ∃ i, j ≤ i ∧ i < j + k ∧ sb_pl xs nm k j = Int32.ofNat i
  | 0, j => Or.inl rfl
  | k + 1, j => by
    rw [sb_pl]
    split
    · exact Or.inr ⟨j, Nat.le_refl _, by omega, rfl⟩
    · rcases vl_plx xs nm k (j + 1) with h | ⟨i, h1, h2, h3⟩
      · exact Or.inl h
      · exact Or.inr ⟨i, by omega, by omega, h3⟩
