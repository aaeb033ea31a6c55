/-! Words as lists of letters; chains of branches. -/
def vl_g (m o : Nat) : List Nat → Nat
  | [] => 0
  | c :: r => vl_g m o r * m + (c - o)
theorem vl_inj {m o : Nat} : ∀ (l l' : List Nat), (∀ c ∈ l, o < c ∧ c - o < m) → (∀ c ∈ l', o < c ∧ c - o < m) → vl_g m o l = vl_g m o l' → l = l'
  | [], [], _, _, _ => rfl
  | [], c :: r, _, h2, h => by
    have := h2 c (by simp)
    rw [vl_g, vl_g] at h
    omega
  | c :: r, [], h1, _, h => by
    have := h1 c (by simp)
    rw [vl_g, vl_g] at h
    omega
  | c :: r, c' :: r', h1, h2, h => by
    have a := h1 c (by simp)
    have a' := h2 c' (by simp)
    rw [vl_g, vl_g] at h
    have e1 : (vl_g m o r * m + (c - o)) % m = c - o := by rw [Nat.add_comm, Nat.add_mul_mod_self_right, Nat.mod_eq_of_lt a.2]
    have e2 : (vl_g m o r' * m + (c' - o)) % m = c' - o := by rw [Nat.add_comm, Nat.add_mul_mod_self_right, Nat.mod_eq_of_lt a'.2]
    have e3 : c - o = c' - o := by rw [← e1, ← e2, h]
    have e4 : vl_g m o r * m = vl_g m o r' * m := by omega
    have e5 : vl_g m o r = vl_g m o r' := Nat.eq_of_mul_eq_mul_right (by omega) e4
    rw [vl_inj r r' (fun x hx => h1 x (by simp [hx])) (fun x hx => h2 x (by simp [hx])) e5, show c = c' by omega]
theorem vl_app (m o : Nat) : ∀ (l : List Nat) (c : Nat), vl_g m o (l ++ [c]) = vl_g m o l + (c - o) * m ^ l.length
  | [], c => by simp [vl_g]
  | x :: r, c => by
    rw [List.cons_append, vl_g, vl_g, vl_app m o r c, List.length_cons, Nat.pow_succ, Nat.add_mul, Nat.mul_assoc]
    omega
theorem sb_fpn_g : ∀ (l : List Nat) (w : Nat), sb_fpn w l = w * 256 ^ l.length + vl_g 256 0 l.reverse
  | [], w => by simp [sb_fpn, vl_g]
  | c :: r, w => by
    rw [sb_fpn, sb_fpn_g r, List.reverse_cons, vl_app, List.length_reverse, List.length_cons, Nat.pow_succ, Nat.add_mul, Nat.sub_zero, Nat.mul_assoc, Nat.mul_comm 256]
    omega
theorem rf_fb_g : ∀ (l : List Nat) (w : Nat), rf_fb w l = w * 32 ^ l.length + vl_g 32 96 l.reverse
  | [], w => by simp [rf_fb_n, vl_g]
  | c :: r, w => by
    rw [rf_fb_c, rf_fb_g r, List.reverse_cons, vl_app, List.length_reverse, List.length_cons, Nat.pow_succ, Nat.add_mul, Nat.mul_comm 32 w, Nat.mul_assoc, Nat.mul_comm 32]
    omega
theorem sb_fpn_inj {l l' : List Nat} (h1 : ∀ c ∈ l, 0 < c ∧ c < 256) (h2 : ∀ c ∈ l', 0 < c ∧ c < 256) (h : sb_fpn 0 l = sb_fpn 0 l') : l = l' := by
  rw [sb_fpn_g, sb_fpn_g, Nat.zero_mul, Nat.zero_mul, Nat.zero_add, Nat.zero_add] at h
  have := vl_inj l.reverse l'.reverse (fun c hc => by have := h1 c (by simpa using hc); omega) (fun c hc => by have := h2 c (by simpa using hc); omega) h
  exact List.reverse_inj.mp this
theorem rf_fb_inj {l l' : List Nat} (h1 : ∀ c ∈ l, 97 ≤ c ∧ c ≤ 122) (h2 : ∀ c ∈ l', 97 ≤ c ∧ c ≤ 122) (h : rf_fb 0 l = rf_fb 0 l') : l = l' := by
  rw [rf_fb_g, rf_fb_g, Nat.zero_mul, Nat.zero_mul, Nat.zero_add, Nat.zero_add] at h
  have := vl_inj l.reverse l'.reverse (fun c hc => by have := h1 c (by simpa using hc); omega) (fun c hc => by have := h2 c (by simpa using hc); omega) h
  exact List.reverse_inj.mp this
theorem rm_w_iff {W W' X N X' N' : Nat} (h : rm_w W X N) (h' : rm_w W' X' N') : X = X' ↔ N = N' := by
  obtain ⟨l, a1, a2, a3, a4, a5⟩ := h
  obtain ⟨l', b1, b2, b3, b4, b5⟩ := h'
  constructor
  · intro e
    rw [a4, b4] at e
    rw [a5, b5, sb_fpn_inj (fun c hc => by have := a1 c hc; omega) (fun c hc => by have := b1 c hc; omega) e]
  · intro e
    rw [a5, b5] at e
    rw [a4, b4, rf_fb_inj a1 b1 e]
theorem vl_lt {m o : Nat} : ∀ (l : List Nat), (∀ c ∈ l, c - o < m) → vl_g m o l < m ^ l.length
  | [], _ => by simp [vl_g]
  | c :: r, h => by
    have h1 := vl_lt r (fun x hx => h x (by simp [hx]))
    have h2 := h c (by simp)
    rw [vl_g, List.length_cons, Nat.pow_succ]
    have : (vl_g m o r + 1) * m ≤ m ^ r.length * m := Nat.mul_le_mul_right m h1
    rw [Nat.add_mul] at this
    omega
theorem rm_w_lt {W X N : Nat} (hW : W ≤ 6) (h : rm_w W X N) : X < 256 ^ 6 ∧ N < 32 ^ 6 ∧ 0 < N ∧ 0 < X := by
  obtain ⟨l, a1, a2, a3, a4, a5⟩ := h
  have h1 := vl_lt (m := 256) (o := 0) l.reverse (fun c hc => by have := a1 c (by simpa using hc); omega)
  have h2 := vl_lt (m := 32) (o := 96) l.reverse (fun c hc => by have := a1 c (by simpa using hc); omega)
  have h3 : 256 ^ l.reverse.length ≤ 256 ^ 6 := Nat.pow_le_pow_right (by omega) (by simp; omega)
  have h4 : 32 ^ l.reverse.length ≤ 32 ^ 6 := Nat.pow_le_pow_right (by omega) (by simp; omega)
  have h5 : vl_g 256 0 l.reverse ≠ 0 ∧ vl_g 32 96 l.reverse ≠ 0 := by
    rcases hl : l.reverse with _ | ⟨c, r⟩
    · have : l.reverse.length = 0 := by rw [hl]; rfl
      simp at this
      rw [this] at a2
      exact absurd a2 (by simp)
    · have := a1 c (by rw [← List.mem_reverse, hl]; simp)
      rw [vl_g, vl_g]
      omega
  rw [a4, a5, sb_fpn_g, rf_fb_g, Nat.zero_mul, Nat.zero_mul, Nat.zero_add, Nat.zero_add]
  omega
theorem rm_w_oth : rm_w 6 478694368626 16392370 := ⟨[111, 116, 104, 101, 114], by decide, by decide, by decide, by decide, by decide⟩
theorem mg_bw_bo {M : mg} {i c : Nat} {se : Int64} : ∀ {k j}, mg_bo (mg_w M) i k j = some c → mg_bw M i se k j = if mg_s M c = se then some c else mg_bw M i se (j + k - (c + 1)) (c + 1)
  | 0, j, h => by cases h
  | k + 1, j, h => by
    rw [mg_bo] at h
    rw [mg_bw]
    split at h
    · next q =>
      cases h
      by_cases e : mg_s M c = se
      · rw [if_pos ⟨q, e⟩, if_pos e]
      · rw [if_neg (fun z => e z.2), if_neg e, show c + (k + 1) - (c + 1) = k by omega]
    · next q =>
      rw [if_neg (fun z => q z.1), mg_bw_bo h, show j + 1 + k - (c + 1) = j + (k + 1) - (c + 1) by omega]
theorem mg_bw_bn {M : mg} {i : Nat} {se : Int64} : ∀ {k j}, mg_bo (mg_w M) i k j = none → mg_bw M i se k j = none
  | 0, j, _ => rfl
  | k + 1, j, h => by
    rw [mg_bo] at h
    rw [mg_bw]
    split at h
    · cases h
    · next q => rw [if_neg (fun z => q z.1), mg_bw_bn h]
theorem mg_bl_eq {w : Nat → Nat} {i c B : Nat} (hc : c < B) (hw : w c = i) (h : mg_bo w i (B - (c + 1)) (c + 1) = none) : mg_bl w i B = some c := by
  rcases hq : mg_bl w i B with _ | b9
  · exact absurd hw (mg_bl_no hq c hc)
  · have h9 := mg_bl_in hq
    have h8 := mg_bo_no h
    rcases (show b9 < c ∨ b9 = c ∨ c < b9 by omega) with q | q | q
    · exact absurd hw (h9.2.2 c q hc)
    · rw [q]
    · exact absurd h9.2.1 (h8 b9 (by omega) (by omega))
theorem mg_bl_n {w : Nat → Nat} {i B : Nat} (h : mg_bo w i B 0 = none) : mg_bl w i B = none := by
  rcases hq : mg_bl w i B with _ | b9
  · rfl
  · have h9 := mg_bl_in hq
    exact absurd h9.2.1 (mg_bo_no h b9 (by omega) (by omega))
theorem rd_ex_oth {v : Nat} (h : v < 10000) : rd_ex v ≠ sb_OTH := by
  intro e
  have h1 : (-1 : Int64) = sb_OTH + Int64.ofNat v := by rw [← e]; unfold rd_ex; exact (Int64.sub_add_cancel ..).symm
  have h2 : sb_OTH + Int64.ofNat v = Int64.ofNat (478694368626 + v) := by rw [Int64.ofNat_add]; rfl
  rw [h2] at h1
  have h3 := congrArg Int64.toInt h1
  rw [Int64.toInt_ofNat_of_lt (by omega)] at h3
  have h4 : (-1 : Int64).toInt = -1 := by decide
  omega
/-- a selector as it stands in both, told from a word -/
theorem rm_sl_eq {x : Int64} {c v : Value} {W X N : Nat} (hW : W ≤ 6) (h : rm_sl x c v) (hw : rm_w W X N) : (c = .int (sb_i true) ∧ x ≠ Int64.ofNat X ∧ ∃ y, v = .long y) ∨ (c = .int (sb_i false) ∧ ∃ N', v = .long (Int64.ofNat N') ∧ N' < 32 ^ 6 ∧ (N' = N ↔ x = Int64.ofNat X)) := by
  have hb := rm_w_lt hW hw
  rcases h with ⟨N1, h1, h2, h3, h4⟩ | ⟨X1, N1, h1, h2, h3, h4⟩
  · refine Or.inl ⟨h3, fun e => ?_, _, h4⟩
    rw [h2] at e
    have e1 : (-1 : Int64) = Int64.ofNat X + Int64.ofNat N1 := by rw [← e]; unfold rd_ex; exact (Int64.sub_add_cancel ..).symm
    rw [← Int64.ofNat_add] at e1
    have e3 := congrArg Int64.toInt e1
    rw [Int64.toInt_ofNat_of_lt (by omega)] at e3
    have h4 : (-1 : Int64).toInt = -1 := by decide
    omega
  · have hb1 := rm_w_lt (by omega) h1
    refine Or.inr ⟨h3, N1, h4, hb1.2.1, ?_⟩
    rw [h2, i64_eq (by omega) (by omega)]
    exact (rm_w_iff h1 hw).symm
def rm_i (b : Nat) (o : Option Nat) : Int32 := match o with
  | none => -1
  | some i => Int32.ofNat (b + i)
theorem rm_e_i (b : Nat) (o : Option Nat) : rm_e b o = .int (rm_i b o) := by cases o <;> rfl
