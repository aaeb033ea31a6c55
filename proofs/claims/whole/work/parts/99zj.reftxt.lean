/-! What the reference writes is what the class writes. -/
theorem sb_nd_s {v : Nat} : ∀ k j, v < 10 ^ (j + k) → sb_nd v (k + 1) j = sb_nd v k j
  | 0, j, h => by
    show (if 10 ^ j ≤ v then sb_nd v 0 (j + 1) else j) = j
    rw [if_neg (by rw [Nat.add_zero] at h; omega)]
  | k + 1, j, h => by
    rw [sb_nd, sb_nd_s k (j + 1) (by rw [show j + 1 + k = j + (k + 1) by omega]; exact h)]
    rfl
theorem sb_nd_k {v k : Nat} (h : v < 10 ^ k) : ∀ q, sb_nd v q k = k
  | 0 => rfl
  | q + 1 => by rw [sb_nd, if_neg (by omega)]
theorem sb_ds_mod {v k : Nat} : ∀ q, q ≤ k → sb_ds (v % 10 ^ k) false q = sb_ds v false q
  | 0, _ => rfl
  | q + 1, h => by
    have e : v % 10 ^ k / 10 ^ q % 10 = v / 10 ^ q % 10 := by
      obtain ⟨r, rfl⟩ : ∃ r, k = q + 1 + r := ⟨k - (q + 1), by omega⟩
      rw [Nat.pow_add, Nat.pow_succ, Nat.mul_assoc, Nat.mod_mul_right_div_self, Nat.mod_mod_of_dvd _ (Nat.dvd_mul_right 10 _)]
    rw [sb_ds, sb_ds, e, sb_ds_mod q (by omega)]
theorem rf_nb_eq {v k : Nat} {g : Bool} (hv : v < 10 ^ 18) : rf_nb v k g = sb_nm v k g := by
  unfold rf_nb sb_nm
  have h1 : v / 10 ^ k ≤ v := Nat.div_le_self _ _
  have h2 : v % 10 ^ k < 10 ^ k := Nat.mod_lt _ (Nat.pow_pos (by omega))
  rw [sb_nd_s 17 1 (by omega), sb_nd_k h2, sb_ds_mod k (Nat.le_refl _)]
theorem sb_b64_n {N k : Nat} (h : N < 9223372036854775808) : sb_b64 (Int64.ofNat N) k = N / 2 ^ k := by
  unfold sb_b64
  rw [Int64.toUInt64_ofNat', UInt64.toNat_ofNat', Nat.mod_eq_of_lt (show N < 2 ^ 64 by omega)]
theorem rf_hx_all {v : Nat} (hv : v < 9223372036854775808) : ∀ k, v / 2 ^ (4 * k) ≠ 0 → sb_hx (Int64.ofNat v) (k + 1) = rf_hx v (k + 1)
  | 0, _ => by
    rw [sb_hx, if_pos (Or.inl rfl), sb_b64_n hv]
    rfl
  | k + 1, h => by
    have h2 : v / 2 ^ (4 * k) ≠ 0 := by
      intro q
      apply h
      rw [show 4 * (k + 1) = 4 * k + 4 by omega, Nat.pow_add, ← Nat.div_div_eq_div_mul, q]
    rw [sb_hx, if_pos (Or.inr (by rw [sb_b64_n hv]; exact h)), sb_b64_n hv, rf_hx, rf_hx_all hv k h2]
theorem rf_hx_eq {v : Nat} (hv : v < 9223372036854775808) : ∀ k, sb_hx (Int64.ofNat v) (k + 1) = rf_hx v (rf_hn v k + 1)
  | 0 => by
    rw [sb_hx, if_pos (Or.inl rfl), sb_b64_n hv]
    rfl
  | k + 1 => by
    rw [rf_hn]
    by_cases q : v / 2 ^ (4 * (k + 1)) = 0
    · rw [if_pos q, sb_hx, if_neg (by rw [sb_b64_n hv]; omega), rf_hx_eq hv k]
    · rw [if_neg q]
      exact rf_hx_all hv (k + 1) q
/-- words: bytes in any places -/
theorem rf_wd_eq {N : Nat} {up : Bool} (hN : N < 2147483648) : ∀ k, rf_wd N up k = (sb_bl (Int32.ofNat N) k).map (sb_up up)
  | 0 => rfl
  | k + 1 => by
    rw [rf_wd, sb_bl, sb_by_n hN, rf_wd_eq hN k]
    by_cases h : N / 2 ^ (8 * k) % 256 = 0
    · rw [if_pos h, if_pos h]
    · rw [if_neg h, if_neg h, List.map_cons]
      congr 1
      unfold sb_up
      split <;> omega
theorem sb_pt_s {P k : Nat} {up : Bool} (hP : P < 9223372036854775808) : sb_pt (Int64.ofNat P) up (k + 1) = if P / 2 ^ (8 * k) % 256 = 0 then sb_pt (Int64.ofNat P) up k else sb_up up (P / 2 ^ (8 * k) % 256) :: sb_pt (Int64.ofNat P) up k := by
  rw [sb_pt, sb_b64_n hP]
theorem sb_pt_l {up : Bool} {l : List Nat} (hl : l.length ≤ 4) (hb : ∀ c ∈ l, 0 < c ∧ c < 256) (hP : sb_fpn 0 l < 9223372036854775808) : sb_pt (Int64.ofNat (sb_fpn 0 l)) up 4 = l.map (sb_up up) := by
  have e0 : sb_pt (Int64.ofNat (sb_fpn 0 l)) up 0 = [] := rfl
  rw [sb_pt_s hP, sb_pt_s hP, sb_pt_s hP, sb_pt_s hP, e0]
  match l, hl, hb with
  | [], _, _ => rfl
  | [a], _, hb =>
    have ha := hb a (by simp)
    have e : sb_fpn 0 [a] = a := by simp [sb_fpn]
    rw [e, if_pos (by omega), if_pos (by omega), if_pos (by omega), if_neg (by omega), show a / 2 ^ (8 * 0) % 256 = a by omega]
    rfl
  | [a, b], _, hb =>
    have ha := hb a (by simp)
    have hb' := hb b (by simp)
    have e : sb_fpn 0 [a, b] = a * 256 + b := by simp [sb_fpn]
    rw [e, if_pos (by omega), if_pos (by omega), if_neg (by omega), if_neg (by omega), show (a * 256 + b) / 2 ^ (8 * 0) % 256 = b by omega, show (a * 256 + b) / 2 ^ (8 * 1) % 256 = a by omega]
    rfl
  | [a, b, c], _, hb =>
    have ha := hb a (by simp)
    have hb' := hb b (by simp)
    have hc := hb c (by simp)
    have e : sb_fpn 0 [a, b, c] = (a * 256 + b) * 256 + c := by simp [sb_fpn]
    rw [e, if_pos (by omega), if_neg (by omega), if_neg (by omega), if_neg (by omega), show ((a * 256 + b) * 256 + c) / 2 ^ (8 * 0) % 256 = c by omega, show ((a * 256 + b) * 256 + c) / 2 ^ (8 * 1) % 256 = b by omega, show ((a * 256 + b) * 256 + c) / 2 ^ (8 * 2) % 256 = a by omega]
    rfl
  | [a, b, c, d], _, hb =>
    have ha := hb a (by simp)
    have hb' := hb b (by simp)
    have hc := hb c (by simp)
    have hd := hb d (by simp)
    have e : sb_fpn 0 [a, b, c, d] = ((a * 256 + b) * 256 + c) * 256 + d := by simp [sb_fpn]
    rw [e, if_neg (by omega), if_neg (by omega), if_neg (by omega), if_neg (by omega), show (((a * 256 + b) * 256 + c) * 256 + d) / 2 ^ (8 * 0) % 256 = d by omega, show (((a * 256 + b) * 256 + c) * 256 + d) / 2 ^ (8 * 1) % 256 = c by omega, show (((a * 256 + b) * 256 + c) * 256 + d) / 2 ^ (8 * 2) % 256 = b by omega, show (((a * 256 + b) * 256 + c) * 256 + d) / 2 ^ (8 * 3) % 256 = a by omega]
    rfl
  | a :: b :: c :: d :: e :: r, h, _ => simp at h
theorem rf_ln_l {l : List Nat} (hl : l.length ≤ 4) (hb : ∀ c ∈ l, 97 ≤ c ∧ c ≤ 122) : rf_ln (rf_fb 0 l) 4 = l := by
  rw [rf_ln, rf_ln, rf_ln, rf_ln, rf_ln]
  match l, hl, hb with
  | [], _, _ => rfl
  | [a], _, hb =>
    have ha := hb a (by simp)
    have e : rf_fb 0 [a] = a - 96 := by simp [rf_fb, rf_fs]
    rw [e, if_pos (by omega), if_pos (by omega), if_pos (by omega), if_neg (by omega), show 96 + (a - 96) / 2 ^ (5 * 0) % 32 = a by omega]
  | [a, b], _, hb =>
    have ha := hb a (by simp)
    have hb' := hb b (by simp)
    have e : rf_fb 0 [a, b] = 32 * (a - 96) + (b - 96) := by simp [rf_fb, rf_fs]
    rw [e, if_pos (by omega), if_pos (by omega), if_neg (by omega), if_neg (by omega), show 96 + (32 * (a - 96) + (b - 96)) / 2 ^ (5 * 0) % 32 = b by omega, show 96 + (32 * (a - 96) + (b - 96)) / 2 ^ (5 * 1) % 32 = a by omega]
  | [a, b, c], _, hb =>
    have ha := hb a (by simp)
    have hb' := hb b (by simp)
    have hc := hb c (by simp)
    have e : rf_fb 0 [a, b, c] = 32 * (32 * (a - 96) + (b - 96)) + (c - 96) := by simp [rf_fb, rf_fs]
    rw [e, if_pos (by omega), if_neg (by omega), if_neg (by omega), if_neg (by omega), show 96 + (32 * (32 * (a - 96) + (b - 96)) + (c - 96)) / 2 ^ (5 * 0) % 32 = c by omega, show 96 + (32 * (32 * (a - 96) + (b - 96)) + (c - 96)) / 2 ^ (5 * 1) % 32 = b by omega, show 96 + (32 * (32 * (a - 96) + (b - 96)) + (c - 96)) / 2 ^ (5 * 2) % 32 = a by omega]
  | [a, b, c, d], _, hb =>
    have ha := hb a (by simp)
    have hb' := hb b (by simp)
    have hc := hb c (by simp)
    have hd := hb d (by simp)
    have e : rf_fb 0 [a, b, c, d] = 32 * (32 * (32 * (a - 96) + (b - 96)) + (c - 96)) + (d - 96) := by simp [rf_fb, rf_fs]
    rw [e, if_neg (by omega), if_neg (by omega), if_neg (by omega), if_neg (by omega), show 96 + (32 * (32 * (32 * (a - 96) + (b - 96)) + (c - 96)) + (d - 96)) / 2 ^ (5 * 0) % 32 = d by omega, show 96 + (32 * (32 * (32 * (a - 96) + (b - 96)) + (c - 96)) + (d - 96)) / 2 ^ (5 * 1) % 32 = c by omega, show 96 + (32 * (32 * (32 * (a - 96) + (b - 96)) + (c - 96)) + (d - 96)) / 2 ^ (5 * 2) % 32 = b by omega, show 96 + (32 * (32 * (32 * (a - 96) + (b - 96)) + (c - 96)) + (d - 96)) / 2 ^ (5 * 3) % 32 = a by omega]
  | a :: b :: c :: d :: e :: r, h, _ => simp at h
theorem sb_bl_all {lo hi : Nat} {l : List Nat} (h : sb_all lo hi l = true) : ∀ c ∈ l, lo ≤ c ∧ c ≤ hi := by
  intro c hc
  unfold sb_all at h
  rw [List.all_eq_true] at h
  have := h c hc
  simp at this
  exact this
/-- a word's text -/
theorem rf_wd_pt {N : Nat} {up : Bool} (hN : N < 2147483648) (ha : sb_all 32 126 (sb_bl (Int32.ofNat N) 4) = true) : rf_wd N up 4 = sb_pt (Int64.ofNat (sb_fpn 0 (sb_bl (Int32.ofNat N) 4))) up 4 := by
  have h1 := sb_bl_all ha
  have h2 := (sb_fp_N (sb_bl_len (Int32.ofNat N) 4) h1).2
  rw [rf_wd_eq hN, sb_pt_l (sb_bl_len _ _) (fun c hc => by have := h1 c hc; omega) (by omega)]
theorem map_up_f : ∀ l : List Nat, l.map (sb_up false) = l
  | [] => rfl
  | a :: l => by rw [List.map_cons, map_up_f l]; rfl
/-- a name's text -/
theorem rf_ln_pt {X N : Nat} (h : rm_w 4 X N) : rf_ln N 4 = sb_pt (Int64.ofNat X) false 4 := by
  have hl := rm_w_lt (by omega) h
  obtain ⟨l, h1, h2, h3, h4, h5⟩ := h
  subst h4
  subst h5
  rw [rf_ln_l h3 h1, sb_pt_l h3 (fun c hc => by have := h1 c hc; omega) (by omega), map_up_f]
