/-! The reference: how its values change. -/
def rf_pv (t : rf_S) (k : Nat) (x : Int32) (z : Bool) (y : Int64) (c : Int32) : rf_S := rf_u (rf_u (rf_u (rf_u t 43 k (.int x)) 44 k (.int (sb_i z))) 45 k (.long y)) 46 k (.int c)
def rf_pt (s : rf_S) (nv : Nat) (fd : Option Nat) (x : Int32) (z : Bool) (y : Int64) (c : Int32) : rf_S := match fd with
  | some i => rf_pv s i x z y c
  | none => if nv < 6 then rf_pv (rf_u s 42 0 (.int (Int32.ofNat (nv + 1)))) nv x z y c else rf_u s 0 0 (.int (Int32.ofNat 2))
theorem rn_put {d b nv : Nat} {nf cf : Nat → Int32} {bf : Nat → Bool} {lf : Nat → Int64} {s : rf_S} {A : am_H} {x c : Int32} {z : Bool} {y : Int64} (hd : 1 ≤ d) (hv : rf_vs s nv nf bf lf cf) (h : rf A b s) : rf_go d 163 [.ref b, .int x, .int (sb_i z), .long y, .int c] A b none (rf_pt s nv (rf_fd nf x nv 0) x z y c) := by
  have hn6 := hv.2.1
  unfold rf_pt
  rcases hfd : rf_fd nf x nv 0 with _ | i
  · dsimp only
    by_cases h6 : nv < 6
    · rw [if_pos h6]
      exact rn_putn hd hfd h6 hv h
    · rw [if_neg h6]
      exact rn_putf hd hfd (by omega) hv h
  · exact rn_puts hd hfd hv h
theorem rf_nm_nn {w : Int32} (h : rf_nm w ≠ -1) : ∃ N, rf_nm w = Int32.ofNat N ∧ N < 2147483648 ∧ 0 < N := by
  unfold rf_nm at h ⊢
  split at h
  · next h1 =>
    rw [if_pos h1]
    split at h
    · exact absurd rfl h
    · next h2 =>
      rw [if_neg h2]
      have h3 := rf_fb_lt (sb_bl w 4) 0 (fun b hb => (sb_all_in h1 b hb).2)
      have h4 : 32 ^ (sb_bl w 4).length ≤ 32 ^ 4 := Nat.pow_le_pow_right (by omega) (sb_bl_len w 4)
      exact ⟨_, rfl, by omega, by omega⟩
  · exact absurd rfl h
def rf_sh {α : Type} (f : Nat → α) (k j : Nat) : Nat → α := fun i => if k ≤ i ∧ i < j then f (i + 1) else f i
theorem rf_sh_0 {α : Type} (f : Nat → α) (k : Nat) : rf_sh f k k = f := by
  funext i
  unfold rf_sh
  rw [if_neg (by omega)]
theorem rf_sh_s {α : Type} {f : Nat → α} {k j : Nat} (h : k ≤ j) : up_ (rf_sh f k j) j (rf_sh f k j (j + 1)) = rf_sh f k (j + 1) := by
  funext i
  unfold up_ rf_sh
  by_cases h1 : i = j
  · subst h1
    rw [if_pos rfl, if_neg (by omega), if_pos (by omega)]
  · rw [if_neg h1]
    by_cases h2 : k ≤ i ∧ i < j
    · rw [if_pos h2, if_pos (by omega)]
    · rw [if_neg h2, if_neg (by omega)]
/-- nothing but the values and the code has changed -/
def rf_vk (s t : rf_S) : Prop := ∀ j i, ¬ rf_vj j → t j i = s j i
theorem rf_vk.refl (s : rf_S) : rf_vk s s := fun _ _ _ => rfl
theorem rf_vk.trans {s t u : rf_S} (h : rf_vk s t) (k : rf_vk t u) : rf_vk s u := fun j i q => (k j i q).trans (h j i q)
theorem rf_vk.u {s t : rf_S} {j i : Nat} {v : Value} (h : rf_vk s t) (hj : rf_vj j) : rf_vk s (rf_u t j i v) := fun j' i' q => by
  rw [rf_u_ne (Or.inl (fun e => q (by rw [e]; exact hj)))]
  exact h j' i' q
theorem rf_vk.pv {s t : rf_S} {k : Nat} {x c : Int32} {z : Bool} {y : Int64} (h : rf_vk s t) : rf_vk s (rf_pv t k x z y c) :=
  (((h.u (by unfold rf_vj; omega)).u (by unfold rf_vj; omega)).u (by unfold rf_vj; omega)).u (by unfold rf_vj; omega)
