/-! Values' methods. -/
theorem vl_pl_l {d v n : Nat} {rs : List Nat} {xs : List sb_vt} {A : am_H} {nm : Int32} (h : sb_V A v rs xs n) : ∀ (k j : Nat), n - j = k → j ≤ n → am_wp d 17 (2, [some (.ref v), some (.int nm), some (.int (Int32.ofNat j))], [], A) (fun q => q = (.inl (some (.int (sb_pl xs nm k j))), A)) := by
  have hh := h
  obtain ⟨q0, q1, hr, hxl, hn, h45, hx, hnd⟩ := h
  unfold sb_vc at hx
  intro k
  induction k with
  | zero =>
    intro j h1 h2
    refine wp_st 2 (f' := (4, [some (.ref (v)), some (.int (nm)), some (.int (Int32.ofNat j))], [.ref (v), .int (Int32.ofNat j)], A)) rfl ?_
    refine wp_gf rfl rfl q0 rfl rfl ?_
    refine wp_ifT rfl rfl ((i32_le (a := n) (b := j) (by omega) (by omega)).mpr (by omega)) ?_
    refine wp_st 1 (f' := (38, [some (.ref (v)), some (.int (nm)), some (.int (Int32.ofNat j))], [.int ((-1))], A)) rfl ?_
    refine wp_rt rfl rfl rfl ?_
    rfl
  | succ k ih =>
    intro j h1 h2
    refine wp_st 2 (f' := (4, [some (.ref (v)), some (.int (nm)), some (.int (Int32.ofNat j))], [.ref (v), .int (Int32.ofNat j)], A)) rfl ?_
    refine wp_gf rfl rfl q0 rfl rfl ?_
    refine wp_ifF rfl rfl (fun q => absurd ((i32_le (a := n) (b := j) (by omega) (by omega)).mp q) (by omega)) ?_
    refine wp_st 2 (f' := (13, [some (.ref (v)), some (.int (nm)), some (.int (Int32.ofNat j))], [.int (Int32.ofNat 6), .int (Int32.ofNat j)], A)) rfl ?_
    refine wp_ifF rfl rfl (fun q => absurd ((i32_le (a := 6) (b := j) (by omega) (by omega)).mp q) (by omega)) ?_
    refine wp_st 1 (f' := (17, [some (.ref (v)), some (.int (nm)), some (.int (Int32.ofNat j))], [.ref (v)], A)) rfl ?_
    refine wp_gf rfl rfl q0 rfl rfl ?_
    refine wp_st 1 (f' := (21, [some (.ref (v)), some (.int (nm)), some (.int (Int32.ofNat j))], [.int (Int32.ofNat j), .ref (v + 1)], A)) rfl ?_
    refine wp_al rfl (Or.inr (Or.inr (Or.inr (Or.inr ⟨rfl, rfl⟩)))) rfl q1 (by omega) (sb_gd 0 (by omega)) rfl ?_
    refine wp_gf rfl rfl (hx j (by omega)).1 rfl rfl ?_
    refine wp_st 1 (f' := (26, [some (.ref (v)), some (.int (nm)), some (.int (Int32.ofNat j))], [.int (nm), .int ((xs.getD j sb_v0).1)], A)) rfl ?_
    refine wp_if rfl rfl rfl (fun (h1 : ((xs.getD j sb_v0).1) ≠ nm) => ?_) (fun (h1 : ¬ (((xs.getD j sb_v0).1) ≠ nm)) => ?_)
    · skip
      refine wp_st 1 (f' := (34, [some (.ref (v)), some (.int (nm)), some (.int ((Int32.ofNat j) + (Int32.ofNat 1)))], [], A)) rfl ?_
      rw [i32_add (j) (1)]
      refine wp_st 1 (f' := (2, [some (.ref (v)), some (.int (nm)), some (.int (Int32.ofNat (j + 1)))], [], A)) rfl ?_
      have h9 := ih (j + 1) (by omega) (by omega)
      rw [sb_pl, if_neg (h1)]
      exact h9
    · skip
      refine wp_st 1 (f' := (30, [some (.ref (v)), some (.int (nm)), some (.int (Int32.ofNat j))], [.int (Int32.ofNat j)], A)) rfl ?_
      refine wp_rt rfl rfl rfl ?_
      rw [sb_pl, if_pos (Decidable.not_not.mp h1)]
theorem vl_pl {d v n : Nat} {rs : List Nat} {xs : List sb_vt} {A : am_H} {nm : Int32} (h : sb_V A v rs xs n) : am_go d 17 [.ref v, .int nm] A (.inl (some (.int (sb_pl xs nm n 0))), A) := by
  have hh := h
  obtain ⟨q0, q1, hr, hxl, hn, h45, hx, hnd⟩ := h
  unfold sb_vc at hx
  refine wp_go ?_
  refine wp_st 2 (f' := (2, [some (.ref (v)), some (.int (nm)), some (.int (Int32.ofNat 0))], [], A)) rfl ?_
  exact vl_pl_l hh n 0 rfl (by omega)
theorem vl_find1 {d v n : Nat} {rs : List Nat} {xs : List sb_vt} {A : am_H} {nm : Int32} {j : Nat} (hd : 1 ≤ d) (hj : j < 6) (hp : sb_pl xs nm n 0 = Int32.ofNat j) (h : sb_V A v rs xs n) : am_go d 107 [.ref v, .int nm] A (.inl (some (.ref (rs.getD j 0))), A) := by
  have hh := h
  obtain ⟨q0, q1, hr, hxl, hn, h45, hx, hnd⟩ := h
  unfold sb_vc at hx
  refine wp_go ?_
  refine wp_st 2 (f' := (2, [some (.ref (v)), some (.int (nm)), none], [.int (nm), .ref (v)], A)) rfl ?_
  refine wp_cv (A' := A) (v := some (.int (Int32.ofNat j))) rfl rfl rfl rfl rfl q0 (by omega) (by rw [← hp]; exact vl_pl hh) rfl ?_
  show am_wp d 107 (5, [some (.ref (v)), some (.int (nm)), none], [.int (Int32.ofNat j)], A) _
  refine wp_st 3 (f' := (8, [some (.ref (v)), some (.int (nm)), some (.int (Int32.ofNat j))], [.int ((-1)), .int (Int32.ofNat j)], A)) rfl ?_
  refine wp_ifT rfl rfl (i32_neg1 (by omega)) ?_
  refine wp_st 1 (f' := (16, [some (.ref (v)), some (.int (nm)), some (.int (Int32.ofNat j))], [.ref (v)], A)) rfl ?_
  refine wp_gf rfl rfl q0 rfl rfl ?_
  refine wp_st 1 (f' := (20, [some (.ref (v)), some (.int (nm)), some (.int (Int32.ofNat j))], [.int (Int32.ofNat j), .ref (v + 1)], A)) rfl ?_
  refine wp_al rfl (Or.inr (Or.inr (Or.inr (Or.inr ⟨rfl, rfl⟩)))) rfl q1 (by omega) (sb_gd 0 (by omega)) rfl ?_
  refine wp_rt rfl rfl rfl ?_
  rfl
theorem vl_find0 {d v n : Nat} {rs : List Nat} {xs : List sb_vt} {A : am_H} {nm : Int32} (hd : 1 ≤ d) (hp : sb_pl xs nm n 0 = -1) (h : sb_V A v rs xs n) : am_go d 107 [.ref v, .int nm] A (.inl (some .null), A) := by
  have hh := h
  obtain ⟨q0, q1, hr, hxl, hn, h45, hx, hnd⟩ := h
  unfold sb_vc at hx
  refine wp_go ?_
  refine wp_st 2 (f' := (2, [some (.ref (v)), some (.int (nm)), none], [.int (nm), .ref (v)], A)) rfl ?_
  refine wp_cv (A' := A) (v := some (.int ((-1)))) rfl rfl rfl rfl rfl q0 (by omega) (by rw [← hp]; exact vl_pl hh) rfl ?_
  show am_wp d 107 (5, [some (.ref (v)), some (.int (nm)), none], [.int ((-1))], A) _
  refine wp_st 3 (f' := (8, [some (.ref (v)), some (.int (nm)), some (.int ((-1)))], [.int ((-1)), .int ((-1))], A)) rfl ?_
  refine wp_ifF rfl rfl (fun q => q rfl) ?_
  refine wp_st 2 (f' := (21, [some (.ref (v)), some (.int (nm)), some (.int ((-1)))], [.null], A)) rfl ?_
  refine wp_rt rfl rfl rfl ?_
  rfl
theorem vl_rem0 {d v n : Nat} {rs : List Nat} {xs : List sb_vt} {A : am_H} {nm : Int32} (hd : 1 ≤ d) (hp : sb_pl xs nm n 0 = -1) (h : sb_V A v rs xs n) : am_go d 16 [.ref v, .int nm] A (.inl (some (.int 0)), A) := by
  have hh := h
  obtain ⟨q0, q1, hr, hxl, hn, h45, hx, hnd⟩ := h
  unfold sb_vc at hx
  refine wp_go ?_
  refine wp_st 2 (f' := (2, [some (.ref (v)), some (.int (nm)), none, none], [.int (nm), .ref (v)], A)) rfl ?_
  refine wp_cv (A' := A) (v := some (.int ((-1)))) rfl rfl rfl rfl rfl q0 (by omega) (by rw [← hp]; exact vl_pl hh) rfl ?_
  show am_wp d 16 (5, [some (.ref (v)), some (.int (nm)), none, none], [.int ((-1))], A) _
  refine wp_st 3 (f' := (8, [some (.ref (v)), some (.int (nm)), some (.int ((-1))), none], [.int ((-1)), .int ((-1))], A)) rfl ?_
  refine wp_ifF rfl rfl (fun q => q rfl) ?_
  refine wp_st 1 (f' := (12, [some (.ref (v)), some (.int (nm)), some (.int ((-1))), none], [.int (Int32.ofNat 0)], A)) rfl ?_
  refine wp_rt rfl rfl rfl ?_
  rfl
theorem vl_putf {d v n : Nat} {rs : List Nat} {xs : List sb_vt} {A : am_H} {nm s : Int32} {b : Bool} {c : Int64} (hd : 1 ≤ d) (hn6 : n = 6) (hp : sb_pl xs nm n 0 = -1) (h : sb_V A v rs xs n) : am_go d 87 [.ref v, .int nm, .int (sb_i b), .long c, .int s] A (.inl (some (.int 0)), A) := by
  have hh := h
  obtain ⟨q0, q1, hr, hxl, hn, h45, hx, hnd⟩ := h
  unfold sb_vc at hx
  refine wp_go ?_
  refine wp_st 2 (f' := (2, [some (.ref (v)), some (.int (nm)), some (.int (sb_i b)), some (.long (c)), none, some (.int (s)), none, none], [.int (nm), .ref (v)], A)) rfl ?_
  refine wp_cv (A' := A) (v := some (.int ((-1)))) rfl rfl rfl rfl rfl q0 (by omega) (by rw [← hp]; exact vl_pl hh) rfl ?_
  show am_wp d 87 (5, [some (.ref (v)), some (.int (nm)), some (.int (sb_i b)), some (.long (c)), none, some (.int (s)), none, none], [.int ((-1))], A) _
  refine wp_st 3 (f' := (10, [some (.ref (v)), some (.int (nm)), some (.int (sb_i b)), some (.long (c)), none, some (.int (s)), some (.int ((-1))), none], [.int ((-1)), .int ((-1))], A)) rfl ?_
  refine wp_ifF rfl rfl (fun q => q rfl) ?_
  refine wp_st 1 (f' := (14, [some (.ref (v)), some (.int (nm)), some (.int (sb_i b)), some (.long (c)), none, some (.int (s)), some (.int ((-1))), none], [.ref (v)], A)) rfl ?_
  refine wp_gf rfl rfl q0 rfl rfl ?_
  refine wp_st 1 (f' := (19, [some (.ref (v)), some (.int (nm)), some (.int (sb_i b)), some (.long (c)), none, some (.int (s)), some (.int ((-1))), none], [.int (Int32.ofNat 6), .int (Int32.ofNat n)], A)) rfl ?_
  refine wp_ifF rfl rfl (fun q => absurd ((i32_lt (a := n) (b := 6) (by omega) (by omega)).mp q) (by omega)) ?_
  refine wp_st 1 (f' := (23, [some (.ref (v)), some (.int (nm)), some (.int (sb_i b)), some (.long (c)), none, some (.int (s)), some (.int ((-1))), none], [.int (Int32.ofNat 0)], A)) rfl ?_
  refine wp_rt rfl rfl rfl ?_
  rfl
