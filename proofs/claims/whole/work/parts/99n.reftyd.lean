/-! The reference: typed arguments. -/
/-- from behind the second comma on -/
def rd_tr (cs : List Nat) (n L i k p : Nat) (M : mg) : Except Nat ((Nat × mg) ⊕ (Nat × mg)) :=
  if k = 6 then rd_bo cs n L i (decide (k ≠ 6)) p M
  else match rd_off cs n i p M with
    | .error e => .error e
    | .ok (a', M') => rd_bo cs n L i (decide (k ≠ 6)) a' M'
/-- from behind the first comma and spaces on -/
def rd_tb (cs : List Nat) (n L : Nat) (x : Int32) (a : Nat) (M : mg) : Except Nat ((Nat × mg) ⊕ (Nat × mg)) :=
  if rd_kind cs a (sb_re 97 122 cs n a) = 0 then .error a
  else if rd_kind cs a (sb_re 97 122 cs n a) < 6 then
    (if sb_lk cs n (rd_sk cs n (sb_re 97 122 cs n a)) = 125 then .ok (.inl (rd_sk cs n (sb_re 97 122 cs n a) + 1, mg_add M (rd_kind cs a (sb_re 97 122 cs n a)) x)) else .error (rd_sk cs n (sb_re 97 122 cs n a)))
  else if sb_lk cs n (rd_sk cs n (sb_re 97 122 cs n a)) = 44 then rd_tr cs n L (mg_P M) (rd_kind cs a (sb_re 97 122 cs n a)) (rd_sk cs n (rd_sk cs n (sb_re 97 122 cs n a) + 1)) (mg_add M (rd_kind cs a (sb_re 97 122 cs n a)) x)
  else .error (rd_sk cs n (sb_re 97 122 cs n a))
theorem rd_kind_in (cs : List Nat) (a e : Nat) : rd_kind cs a e = 0 ∨ (rd_kind cs a e = 3 ∨ rd_kind cs a e = 4 ∨ rd_kind cs a e = 5) ∨ rd_kind cs a e = 6 ∨ rd_kind cs a e = 7 ∨ rd_kind cs a e = 8 := by
  unfold rd_kind
  repeat' split
  all_goals omega
theorem rf_so_lo {k : Nat} (h : k = 3 ∨ k = 4 ∨ k = 5) : ∃ N, rf_so k = Int32.ofNat N ∧ 1 ≤ N ∧ N ≤ 3 := by
  rcases h with rfl | rfl | rfl
  · exact ⟨1, rfl, by omega, by omega⟩
  · exact ⟨2, rfl, by omega, by omega⟩
  · exact ⟨3, rfl, by omega, by omega⟩
theorem rf_so_hi {k : Nat} (h : k = 7 ∨ k = 8) : ∃ N, rf_so k = Int32.ofNat N ∧ 4 ≤ N ∧ N ≤ 5 := by
  rcases h with rfl | rfl
  · exact ⟨4, rfl, by omega, by omega⟩
  · exact ⟨5, rfl, by omega, by omega⟩
theorem mb_Q.ret {A : am_H} {s : rf_S} {b n : Nat} {M : mg} {L : Nat} {E dp : Nat → Nat} {lp : Nat → Option Nat} {ob : Nat → Nat} {x : Except Nat ((Nat × mg) ⊕ (Nat × mg))} {q : am_O × am_H} (h : mb_Q A s b n M L E dp lp ob x q) : q.1 = .inl none := by
  rcases x with e | y | y
  · exact h.1
  · exact h.1
  · exact h.1
theorem mb_Q.B {A : am_H} {s : rf_S} {b n : Nat} {M M' : mg} {L : Nat} {E dp : Nat → Nat} {lp : Nat → Option Nat} {ob : Nat → Nat} {x : Except Nat ((Nat × mg) ⊕ (Nat × mg))} {q : am_O × am_H} (e : mg_B M' = mg_B M) (h : mb_Q A s b n M' L E dp lp ob x q) : mb_Q A s b n M L E dp lp ob x q := by
  rcases x with z | y | y
  · exact h
  · exact h
  · have h' := h
    unfold mb_Q at h' ⊢
    dsimp only at h' ⊢
    rw [e] at h'
    exact h'
theorem rd_sel_dig {cs : List Nat} {n a : Nat} (h : ¬ sb_re 48 57 cs n a = a) : rd_sk cs n a = a ∧ sb_lk cs n a ≠ 125 ∧ ∀ nu, rd_sel cs n nu a = .error a := by
  have h1 := sb_re_nx h
  refine ⟨sb_re_self (by omega), by omega, fun nu => ?_⟩
  unfold rd_sel
  rw [if_neg (by omega), if_pos (sb_re_self (by omega))]
theorem rd_bo_dig {cs : List Nat} {n L i a : Nat} {nu : Bool} {M : mg} (h : ¬ sb_re 48 57 cs n a = a) : rd_bo cs n L i nu a M = .error a := by
  have h1 := rd_sel_dig h
  unfold rd_bo
  rw [h1.1, if_neg h1.2.1, h1.2.2 nu]
theorem rd_o2_le {cs : List Nat} {n p a v : Nat} (hp : p ≤ n) (h : rd_o2 cs n p = some (.ok (a, v))) : p ≤ a ∧ a ≤ n ∧ v < 100 := by
  unfold rd_o2 at h
  have h0 := sb_re_le (lo := 97) (hi := 122) (cs := cs) (n := n) (a := p)
  split at h
  · split at h
    · cases h
    · next q =>
      have e0 := sb_re_nx q
      split at h
      · cases h
        omega
      · next q2 =>
        have e1 := sb_re_nx q2
        cases h
        omega
  · cases h
