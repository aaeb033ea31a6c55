/-! The reference: what is drawn. -/
theorem i64_shk {k : Nat} (hk : k < 64) : (((Int32.ofNat k).toInt64 &&& 63).toBitVec.smod 64).toNat = k := by
  have h1 : ∀ x : Fin 64, (((Int32.ofNat x.val).toInt64 &&& 63).toBitVec.smod 64).toNat = x.val := by decide +kernel
  exact h1 ⟨k, hk⟩
theorem i64_shr {N k : Nat} (hN : N < 9223372036854775808) (hk : k < 64) : Int64.ofNat N >>> ((Int32.ofNat k).toInt64 &&& 63) = Int64.ofNat (N / 2 ^ k) := by
  apply Int64.toBitVec_inj.mp
  rw [Int64.toBitVec_shiftRight, BitVec.sshiftRight_eq', i64_shk hk]
  show (BitVec.ofNat 64 N).sshiftRight k = BitVec.ofNat 64 (N / 2 ^ k)
  have hm : (BitVec.ofNat 64 N).msb = false := by
    rw [BitVec.msb_eq_decide]
    simp
    omega
  rw [BitVec.sshiftRight_eq_of_msb_false hm]
  apply BitVec.eq_of_toNat_eq
  have h1 : N / 2 ^ k ≤ N := Nat.div_le_self _ _
  rw [BitVec.toNat_ushiftRight, BitVec.toNat_ofNat, BitVec.toNat_ofNat, Nat.mod_eq_of_lt (show N < 2 ^ 64 by omega), Nat.mod_eq_of_lt (show N / 2 ^ k < 2 ^ 64 by omega), Nat.shiftRight_eq_div_pow]
theorem i64_and {N m : Nat} (hN : N < 9223372036854775808) (hm : m ≤ 8) : Int64.ofNat N &&& Int64.ofNat (2 ^ m - 1) = Int64.ofNat (N % 2 ^ m) := by
  have hp : 2 ^ m ≤ 2 ^ 8 := Nat.pow_le_pow_right (by omega) hm
  have hp0 : 0 < 2 ^ m := Nat.pow_pos (by omega)
  have hl : N % 2 ^ m < 2 ^ m := Nat.mod_lt _ hp0
  apply Int64.toBitVec_inj.mp
  rw [Int64.toBitVec_and]
  show BitVec.ofNat 64 N &&& BitVec.ofNat 64 (2 ^ m - 1) = BitVec.ofNat 64 (N % 2 ^ m)
  apply BitVec.eq_of_toNat_eq
  rw [BitVec.toNat_and, BitVec.toNat_ofNat, BitVec.toNat_ofNat, BitVec.toNat_ofNat, Nat.mod_eq_of_lt (show N < 2 ^ 64 by omega), Nat.mod_eq_of_lt (show 2 ^ m - 1 < 2 ^ 64 by omega), Nat.mod_eq_of_lt (show N % 2 ^ m < 2 ^ 64 by omega), Nat.and_two_pow_sub_one_eq_mod]
theorem i32_shr5 {N k : Nat} (hN : N < 2147483648) (hk : k < 32) : Int32.ofNat N >>> (Int32.ofNat k &&& 31) &&& Int32.ofNat 31 = Int32.ofNat (N / 2 ^ k % 32) := by
  have h1 : ∀ x : Fin 32, ((Int32.ofNat x.val &&& 31).toBitVec.smod 32).toNat = x.val := by decide +kernel
  apply Int32.toBitVec_inj.mp
  rw [Int32.toBitVec_and, Int32.toBitVec_shiftRight, BitVec.sshiftRight_eq', h1 ⟨k, hk⟩]
  show (BitVec.ofNat 32 N).sshiftRight k &&& BitVec.ofNat 32 31 = BitVec.ofNat 32 (N / 2 ^ k % 32)
  have hm : (BitVec.ofNat 32 N).msb = false := by
    rw [BitVec.msb_eq_decide]
    simp
    omega
  rw [BitVec.sshiftRight_eq_of_msb_false hm]
  apply BitVec.eq_of_toNat_eq
  have h3 : N / 2 ^ k ≤ N := Nat.div_le_self _ _
  rw [BitVec.toNat_and, BitVec.toNat_ushiftRight, BitVec.toNat_ofNat, BitVec.toNat_ofNat, BitVec.toNat_ofNat, Nat.mod_eq_of_lt (show N < 2 ^ 32 by omega), Nat.shiftRight_eq_div_pow, show 31 % 2 ^ 32 = 2 ^ 5 - 1 from rfl, Nat.and_two_pow_sub_one_eq_mod, Nat.mod_eq_of_lt (show N / 2 ^ k % 32 < 2 ^ 32 by omega)]
/-- the draft is w, and nothing is wrong -/
def rf_dw (s : rf_S) (w : List Nat) : Prop := s 48 0 = .int (Int32.ofNat w.length) ∧ w.length ≤ 160 ∧ (∀ i, i < w.length → s 47 i = .int (Int32.ofNat (w.getD i 0))) ∧ s 0 0 = .int (Int32.ofNat 0)
/-- what is drawn, or none when it was too long -/
def rf_wx (s : rf_S) (X : Option (List Nat)) : Prop := match X with
  | some w => rf_dw s w
  | none => s 0 0 = .int (Int32.ofNat 4)
def wx_app (X : Option (List Nat)) (l : List Nat) : Option (List Nat) := match X with
  | some w => if w.length + l.length ≤ 160 then some (w ++ l) else none
  | none => none
theorem wx_app2 (X : Option (List Nat)) (l m : List Nat) : wx_app (wx_app X l) m = wx_app X (l ++ m) := by
  cases X with
  | none => rfl
  | some w =>
    unfold wx_app
    dsimp only
    by_cases h1 : w.length + l.length ≤ 160
    · rw [if_pos h1]
      dsimp only
      rw [List.length_append, List.length_append, List.append_assoc]
      by_cases h2 : w.length + l.length + m.length ≤ 160
      · rw [if_pos h2, if_pos (by omega)]
      · rw [if_neg h2, if_neg (by omega)]
    · rw [if_neg h1, if_neg (by rw [List.length_append]; omega)]
theorem wx_app_nil {s : rf_S} {X : Option (List Nat)} (h : rf_wx s X) : wx_app X [] = X := by
  cases X with
  | none => rfl
  | some w =>
    unfold wx_app
    dsimp only
    rw [if_pos (by simpa using h.2.1), List.append_nil]
/-- nothing but the draft and the code has changed -/
def rf_wk (s t : rf_S) : Prop := ∀ j i, j ≠ 0 → j ≠ 47 → j ≠ 48 → t j i = s j i
theorem rf_wk.refl (s : rf_S) : rf_wk s s := fun _ _ _ _ _ => rfl
theorem rf_wk.trans {s t u : rf_S} (h : rf_wk s t) (k : rf_wk t u) : rf_wk s u := fun j i a b c => (k j i a b c).trans (h j i a b c)
/-- a method that draws l -/
def rf_wg (d y : Nat) (as : List Value) (A : am_H) (b : Nat) (s : rf_S) (X : Option (List Nat)) (l : List Nat) : Prop := ∃ B t, am_go d y as A (.inl none, B) ∧ rf B b t ∧ rf_wx t (wx_app X l) ∧ rf_wk s t ∧ sb_fr A B b (b + 38)
theorem wp_goW {d m b : Nat} {as : List Value} {A : am_H} {s : rf_S} {X : Option (List Nat)} {l : List Nat} (h : am_wp d m (0, am_ent m as, [], A) (fun q => q.1 = .inl none ∧ ∃ t, rf q.2 b t ∧ rf_wx t (wx_app X l) ∧ rf_wk s t ∧ sb_fr A q.2 b (b + 38))) : rf_wg d m as A b s X l := by
  obtain ⟨⟨o, B⟩, h1, h2, t, h3⟩ := h
  dsimp only at h2
  subst h2
  exact ⟨B, t, h1, h3⟩
theorem rf_dw.put {s : rf_S} {w : List Nat} {c : Nat} (h : rf_dw s w) (hl : w.length < 160) : rf_dw (rf_u (rf_u s 47 w.length (.int (Int32.ofNat c))) 48 0 (.int (Int32.ofNat (w.length + 1)))) (w ++ [c]) := by
  refine ⟨by rw [rf_u_eq]; simp, by simp; omega, fun i hi => ?_, ?_⟩
  · rw [rf_u_ne (Or.inl (by omega)), rf_u_if]
    by_cases h1 : i = w.length
    · subst h1
      simp
    · rw [if_neg (by omega), h.2.2.1 i (by simp at hi; omega)]
      congr 2
      rw [List.getD_eq_getElem?_getD, List.getD_eq_getElem?_getD, List.getElem?_append_left (by simp at hi; omega)]
  · rw [rf_u_ne (Or.inl (by omega)), rf_u_ne (Or.inl (by omega))]
    exact h.2.2.2
