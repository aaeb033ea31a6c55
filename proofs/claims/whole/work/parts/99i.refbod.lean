/-! Branch or end. -/
/-- what stands at a: the argument's end, or a branch's head -/
def rd_bo (cs : List Nat) (n L i : Nat) (nu : Bool) (a : Nat) (M : mg) : Except Nat ((Nat × mg) ⊕ (Nat × mg)) :=
  if sb_lk cs n (rd_sk cs n a) = 125 then (if mg_bw M i sb_OTH (mg_B M) 0 = none then .error (rd_sk cs n a) else .ok (.inl (rd_sk cs n a + 1, mg_cla M i)))
  else match rd_sel cs n nu (rd_sk cs n a) with
    | .error e => .error e
    | .ok (a1, se) => if sb_lk cs n (rd_sk cs n a1) = 123 then (if L = 3 then .error (rd_sk cs n a1) else .ok (.inr (rd_sk cs n a1 + 1, mg_addb M i se))) else .error (rd_sk cs n a1)
/-- the reader has found a fault, or is at the end with a branch open -/
def ml_E (A0 : am_H) (s0 : rf_S) (b n e : Nat) (A : am_H) : Prop := ∃ s p w r g L, rf A b (rf_c s p w r g) ∧ s 22 0 = .int (Int32.ofNat L) ∧ L ≤ 4 ∧ p ≤ n + 50 ∧ ((w = Int32.ofNat e ∧ e ≤ n) ∨ (w = -1 ∧ n ≤ p ∧ 0 < L ∧ e = n)) ∧ rm_X s0 s ∧ sb_fr A0 A b (b + 38)
theorem ml_E.tr {A0 A B : am_H} {s0 s : rf_S} {b n e : Nat} (h2 : rm_X s0 s) (h3 : sb_fr A0 A b (b + 38)) (h : ml_E A s b n e B) : ml_E A0 s0 b n e B := by
  obtain ⟨t, p, w, r, g, L, a1, a2, a3, a4, a5, a6, a7⟩ := h
  exact ⟨t, p, w, r, g, L, a1, a2, a3, a4, a5, h2.trans a6, h3.trans a7⟩
def mb_Q (A : am_H) (s : rf_S) (b n : Nat) (M : mg) (L : Nat) (E dp : Nat → Nat) (lp : Nat → Option Nat) (ob : Nat → Nat) (x : Except Nat ((Nat × mg) ⊕ (Nat × mg))) (q : am_O × am_H) : Prop := match x with
  | .error e => q.1 = .inl none ∧ ml_E A s b n e q.2
  | .ok (.inl y) => q.1 = .inl none ∧ ∃ t r g, rf q.2 b (rf_c t y.1 (-1) r g) ∧ rm_I t y.2 L E dp lp ob false ∧ rm_rd y.2 L lp ∧ rm_X s t ∧ sb_fr A q.2 b (b + 38)
  | .ok (.inr y) => q.1 = .inl none ∧ ∃ t r g, rf q.2 b (rf_c t y.1 (-1) r g) ∧ rm_I t y.2 (L + 1) E dp (up_ lp (L + 1) none) (up_ ob (L + 1) (mg_B M)) false ∧ rm_rd y.2 (L + 1) (up_ lp (L + 1) none) ∧ rm_X s t ∧ sb_fr A q.2 b (b + 38)
theorem rm_ln_eq {s : rf_S} {o : Option Nat} {ci j q : Nat} {v : Value} (h : rm_lk o ci j q) : rm_ln s o ci v j q = v := by
  unfold rm_lk at h
  unfold rm_ln
  cases o with
  | none => obtain ⟨rfl, rfl⟩ := h; exact rf_u_eq ..
  | some l => obtain ⟨rfl, rfl⟩ := h; exact rf_u_eq ..
theorem rm_ln_ne {s : rf_S} {o : Option Nat} {ci j q : Nat} {v : Value} (h : ¬ rm_lk o ci j q) : rm_ln s o ci v j q = s j q := by
  unfold rm_lk at h
  unfold rm_ln
  cases o with
  | none => dsimp only at h ⊢; exact rf_u_ne (by omega)
  | some l => dsimp only at h ⊢; exact rf_u_ne (by omega)
theorem rm_ln_j {s : rf_S} {o : Option Nat} {ci j q : Nat} {v : Value} (h1 : j ≠ 12) (h2 : j ≠ 16) : rm_ln s o ci v j q = s j q := rm_ln_ne (fun z => by unfold rm_lk at z; split at z <;> omega)
theorem rm_ln_X {s t : rf_S} {o : Option Nat} {ci : Nat} {v : Value} (h : rm_X s t) : rm_X s (rm_ln t o ci v) := fun j q z => by
  rw [rm_ln_ne (fun w => z (by unfold rm_lk at w; unfold rm_sc; split at w <;> omega))]
  exact h j q z
def sb_cl (cs : List Nat) (p k : Nat) : List Nat := (List.range k).map (fun j => cs.getD (p + j) 0)
theorem sb_cl_s (cs : List Nat) (p k : Nat) : sb_cl cs p (k + 1) = cs.getD p 0 :: sb_cl cs (p + 1) k := by
  unfold sb_cl
  rw [List.range_succ_eq_map, List.map_cons, List.map_map]
  congr 1
  apply List.map_congr_left
  intro x _
  show cs.getD (p + (x + 1)) 0 = cs.getD (p + 1 + x) 0
  rw [show p + (x + 1) = p + 1 + x by omega]
theorem sb_pkn_cl (cs : List Nat) : ∀ k p w, sb_pkn cs k p w = sb_fpn w (sb_cl cs p k)
  | 0, p, w => rfl
  | k + 1, p, w => by rw [sb_pkn, sb_cl_s, sb_fpn, sb_pkn_cl cs k]
theorem rf_b32_cl (cs : List Nat) : ∀ k p w, rf_b32 cs k p w = rf_fb w (sb_cl cs p k)
  | 0, p, w => rfl
  | k + 1, p, w => by rw [rf_b32, sb_cl_s, rf_fb_c, rf_b32_cl cs k]
theorem rm_w_cl {cs : List Nat} {p k W : Nat} (h : sb_ltr cs p k) (h1 : 1 ≤ k) (h2 : k ≤ W) : rm_w W (sb_pkn cs k p 0) (rf_b32 cs k p 0) := by
  refine ⟨sb_cl cs p k, fun c hc => ?_, by simp [sb_cl]; omega, by simp [sb_cl]; omega, sb_pkn_cl cs k p 0, rf_b32_cl cs k p 0⟩
  unfold sb_cl at hc
  rw [List.mem_map] at hc
  obtain ⟨j, hj, rfl⟩ := hc
  rw [List.mem_range] at hj
  exact h (p + j) (by omega) (by omega)
/-- letters with a bound -/
theorem rf_lt_ok {cs : List Nat} {n p many : Nat} (hp : p ≤ n) (h : ¬ sb_re 97 122 cs n p = p) (hm : sb_re 97 122 cs n p - p ≤ many) : rf_wl (-1) p many (sb_re 97 122 cs n p - p) = -1 := by
  have h1 := sb_re_le (lo := 97) (hi := 122) (cs := cs) (n := n) (a := p)
  rw [rf_wl_s (by omega), rf_wi, if_neg (by omega)]
theorem rf_lt_many {cs : List Nat} {n p many : Nat} (hm : many < sb_re 97 122 cs n p - p) : rf_wl (-1) p many (sb_re 97 122 cs n p - p) = Int32.ofNat (p + many) := by
  rw [rf_wl_s (by omega), rf_wi, if_pos hm, rf_w_m]
theorem rf_lt_er {cs : List Nat} {n p many : Nat} (h : sb_re 97 122 cs n p = p) : rf_wl (-1) p many (sb_re 97 122 cs n p - p) = Int32.ofNat p := by
  rw [h, Nat.sub_self, rf_wl, if_pos rfl, rf_w_m]
theorem rf_so_6 {k : Nat} (h : k ≠ 6) (h8 : k ≤ 8) : rf_so k ≠ Int32.ofNat 6 := by
  match k with
  | 0 => decide
  | 1 => decide
  | 2 => decide
  | 3 => decide
  | 4 => decide
  | 5 => decide
  | 6 => exact absurd rfl h
  | 7 => decide
  | 8 => decide
  | k + 9 => omega
