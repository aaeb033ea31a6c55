/-! Values' methods. -/
theorem vl_pl_l {d v n : Nat} {rs : List Nat} {xs : List sb_vt} {A : am_H} {nm : Int32} (h : sb_V A v rs xs n) : ∀ (k j : Nat), n - j = k → j ≤ n → am_wp d 17 (2, [some (.ref v), some (.int nm), some (.int (Int32.ofNat j))], [], A) (fun q => q = (.inl (some (.int (sb_pl xs nm k j))), A)) := by
  have hh := h
  obtain ⟨q0, q1, hr, hxl, hn, h45, hx, hnd⟩ := h
  unfold sb_vc at hx
  intro k
  induction k with
  | zero =>
    intro j h1 h2
    refine wp_st 2 (f' := (4, [some (.ref (v)), some (.int (nm)), some (.int (Int32.ofNat j))], [.ref (v), .int (Int32.ofNat j)], A)) rfl ?_
    refine wp_gf rfl rfl q0 rfl rfl ?_
    refine wp_ifT rfl rfl ((i32_le (a := n) (b := j) (by omega) (by omega)).mpr (by omega)) ?_
    refine wp_st 1 (f' := (38, [some (.ref (v)), some (.int (nm)), some (.int (Int32.ofNat j))], [.int ((-1))], A)) rfl ?_
    refine wp_rt rfl rfl rfl ?_
    rfl
  | succ k ih =>
    intro j h1 h2
    refine wp_st 2 (f' := (4, [some (.ref (v)), some (.int (nm)), some (.int (Int32.ofNat j))], [.ref (v), .int (Int32.ofNat j)], A)) rfl ?_
    refine wp_gf rfl rfl q0 rfl rfl ?_
    refine wp_ifF rfl rfl (fun q => absurd ((i32_le (a := n) (b := j) (by omega) (by omega)).mp q) (by omega)) ?_
    refine wp_st 2 (f' := (13, [some (.ref (v)), some (.int (nm)), some (.int (Int32.ofNat j))], [.int (Int32.ofNat 6), .int (Int32.ofNat j)], A)) rfl ?_
    refine wp_ifF rfl rfl (fun q => absurd ((i32_le (a := 6) (b := j) (by omega) (by omega)).mp q) (by omega)) ?_
    refine wp_st 1 (f' := (17, [some (.ref (v)), some (.int (nm)), some (.int (Int32.ofNat j))], [.ref (v)], A)) rfl ?_
    refine wp_gf rfl rfl q0 rfl rfl ?_
    refine wp_st 1 (f' := (21, [some (.ref (v)), some (.int (nm)), some (.int (Int32.ofNat j))], [.int (Int32.ofNat j), .ref (v + 1)], A)) rfl ?_
    refine wp_al rfl (Or.inr (Or.inr (Or.inr (Or.inr ⟨rfl, rfl⟩)))) rfl q1 (by omega) (sb_gd 0 (by omega)) rfl ?_
    refine wp_gf rfl rfl (hx j (by omega)).1 rfl rfl ?_
    refine wp_st 1 (f' := (26, [some (.ref (v)), some (.int (nm)), some (.int (Int32.ofNat j))], [.int (nm), .int ((xs.getD j sb_v0).1)], A)) rfl ?_
    refine wp_if rfl rfl rfl (fun (h1 : ((xs.getD j sb_v0).1) ≠ nm) => ?_) (fun (h1 : ¬ (((xs.getD j sb_v0).1) ≠ nm)) => ?_)
    · skip
      refine wp_st 1 (f' := (34, [some (.ref (v)), some (.int (nm)), some (.int ((Int32.ofNat j) + (Int32.ofNat 1)))], [], A)) rfl ?_
      rw [i32_add (j) (1)]
      refine wp_st 1 (f' := (2, [some (.ref (v)), some (.int (nm)), some (.int (Int32.ofNat (j + 1)))], [], A)) rfl ?_
      have h9 := ih (j + 1) (by omega) (by omega)
      rw [sb_pl, if_neg (h1)]
      exact h9
    · skip
      refine wp_st 1 (f' := (30, [some (.ref (v)), some (.int (nm)), some (.int (Int32.ofNat j))], [.int (Int32.ofNat j)], A)) rfl ?_
      refine wp_rt rfl rfl rfl ?_
      rw [sb_pl, if_pos (Decidable.not_not.mp h1)]
theorem vl_pl {d v n : Nat} {rs : List Nat} {xs : List sb_vt} {A : am_H} {nm : Int32} (h : sb_V A v rs xs n) : am_go d 17 [.ref v, .int nm] A (.inl (some (.int (sb_pl xs nm n 0))), A) := by
  have hh := h
  obtain ⟨q0, q1, hr, hxl, hn, h45, hx, hnd⟩ := h
  unfold sb_vc at hx
  refine wp_go ?_
  refine wp_st 2 (f' := (2, [some (.ref (v)), some (.int (nm)), some (.int (Int32.ofNat 0))], [], A)) rfl ?_
  exact vl_pl_l hh n 0 rfl (by omega)
theorem vl_find1 {d v n : Nat} {rs : List Nat} {xs : List sb_vt} {A : am_H} {nm : Int32} {j : Nat} (hd : 1 ≤ d) (hj : j < 6) (hp : sb_pl xs nm n 0 = Int32.ofNat j) (h : sb_V A v rs xs n) : am_go d 107 [.ref v, .int nm] A (.inl (some (.ref (rs.getD j 0))), A) := by
  have hh := h
  obtain ⟨q0, q1, hr, hxl, hn, h45, hx, hnd⟩ := h
  unfold sb_vc at hx
  refine wp_go ?_
  refine wp_st 2 (f' := (2, [some (.ref (v)), some (.int (nm)), none], [.int (nm), .ref (v)], A)) rfl ?_
  refine wp_cv (A' := A) (v := some (.int (Int32.ofNat j))) rfl rfl rfl rfl rfl q0 (by omega) (by rw [← hp]; exact vl_pl hh) rfl ?_
  show am_wp d 107 (5, [some (.ref (v)), some (.int (nm)), none], [.int (Int32.ofNat j)], A) _
  refine wp_st 3 (f' := (8, [some (.ref (v)), some (.int (nm)), some (.int (Int32.ofNat j))], [.int ((-1)), .int (Int32.ofNat j)], A)) rfl ?_
  refine wp_ifT rfl rfl (i32_neg1 (by omega)) ?_
  refine wp_st 1 (f' := (16, [some (.ref (v)), some (.int (nm)), some (.int (Int32.ofNat j))], [.ref (v)], A)) rfl ?_
  refine wp_gf rfl rfl q0 rfl rfl ?_
  refine wp_st 1 (f' := (20, [some (.ref (v)), some (.int (nm)), some (.int (Int32.ofNat j))], [.int (Int32.ofNat j), .ref (v + 1)], A)) rfl ?_
  refine wp_al rfl (Or.inr (Or.inr (Or.inr (Or.inr ⟨rfl, rfl⟩)))) rfl q1 (by omega) (sb_gd 0 (by omega)) rfl ?_
  refine wp_rt rfl rfl rfl ?_
  rfl
theorem vl_find0 {d v n : Nat} {rs : List Nat} {xs : List sb_vt} {A : am_H} {nm : Int32} (hd : 1 ≤ d) (hp : sb_pl xs nm n 0 = -1) (h : sb_V A v rs xs n) : am_go d 107 [.ref v, .int nm] A (.inl (some .null), A) := by
  have hh := h
  obtain ⟨q0, q1, hr, hxl, hn, h45, hx, hnd⟩ := h
  unfold sb_vc at hx
  refine wp_go ?_
  refine wp_st 2 (f' := (2, [some (.ref (v)), some (.int (nm)), none], [.int (nm), .ref (v)], A)) rfl ?_
  refine wp_cv (A' := A) (v := some (.int ((-1)))) rfl rfl rfl rfl rfl q0 (by omega) (by rw [← hp]; exact vl_pl hh) rfl ?_
  show am_wp d 107 (5, [some (.ref (v)), some (.int (nm)), none], [.int ((-1))], A) _
  refine wp_st 3 (f' := (8, [some (.ref (v)), some (.int (nm)), some (.int ((-1)))], [.int ((-1)), .int ((-1))], A)) rfl ?_
  refine wp_ifF rfl rfl (fun q => q rfl) ?_
  refine wp_st 2 (f' := (21, [some (.ref (v)), some (.int (nm)), some (.int ((-1)))], [.null], A)) rfl ?_
  refine wp_rt rfl rfl rfl ?_
  rfl
theorem vl_rem0 {d v n : Nat} {rs : List Nat} {xs : List sb_vt} {A : am_H} {nm : Int32} (hd : 1 ≤ d) (hp : sb_pl xs nm n 0 = -1) (h : sb_V A v rs xs n) : am_go d 16 [.ref v, .int nm] A (.inl (some (.int 0)), A) := by
  have hh := h
  obtain ⟨q0, q1, hr, hxl, hn, h45, hx, hnd⟩ := h
  unfold sb_vc at hx
  refine wp_go ?_
  refine wp_st 2 (f' := (2, [some (.ref (v)), some (.int (nm)), none, none], [.int (nm), .ref (v)], A)) rfl ?_
  refine wp_cv (A' := A) (v := some (.int ((-1)))) rfl rfl rfl rfl rfl q0 (by omega) (by rw [← hp]; exact vl_pl hh) rfl ?_
  show am_wp d 16 (5, [some (.ref (v)), some (.int (nm)), none, none], [.int ((-1))], A) _
  refine wp_st 3 (f' := (8, [some (.ref (v)), some (.int (nm)), some (.int ((-1))), none], [.int ((-1)), .int ((-1))], A)) rfl ?_
  refine wp_ifF rfl rfl (fun q => q rfl) ?_
  refine wp_st 1 (f' := (12, [some (.ref (v)), some (.int (nm)), some (.int ((-1))), none], [.int (Int32.ofNat 0)], A)) rfl ?_
  refine wp_rt rfl rfl rfl ?_
  rfl
theorem vl_putf {d v n : Nat} {rs : List Nat} {xs : List sb_vt} {A : am_H} {nm s : Int32} {b : Bool} {c : Int64} (hd : 1 ≤ d) (hn6 : n = 6) (hp : sb_pl xs nm n 0 = -1) (h : sb_V A v rs xs n) : am_go d 87 [.ref v, .int nm, .int (sb_i b), .long c, .int s] A (.inl (some (.int 0)), A) := by
  have hh := h
  obtain ⟨q0, q1, hr, hxl, hn, h45, hx, hnd⟩ := h
  unfold sb_vc at hx
  refine wp_go ?_
  refine wp_st 2 (f' := (2, [some (.ref (v)), some (.int (nm)), some (.int (sb_i b)), some (.long (c)), none, some (.int (s)), none, none], [.int (nm), .ref (v)], A)) rfl ?_
  refine wp_cv (A' := A) (v := some (.int ((-1)))) rfl rfl rfl rfl rfl q0 (by omega) (by rw [← hp]; exact vl_pl hh) rfl ?_
  show am_wp d 87 (5, [some (.ref (v)), some (.int (nm)), some (.int (sb_i b)), some (.long (c)), none, some (.int (s)), none, none], [.int ((-1))], A) _
  refine wp_st 3 (f' := (10, [some (.ref (v)), some (.int (nm)), some (.int (sb_i b)), some (.long (c)), none, some (.int (s)), some (.int ((-1))), none], [.int ((-1)), .int ((-1))], A)) rfl ?_
  refine wp_ifF rfl rfl (fun q => q rfl) ?_
  refine wp_st 1 (f' := (14, [some (.ref (v)), some (.int (nm)), some (.int (sb_i b)), some (.long (c)), none, some (.int (s)), some (.int ((-1))), none], [.ref (v)], A)) rfl ?_
  refine wp_gf rfl rfl q0 rfl rfl ?_
  refine wp_st 1 (f' := (19, [some (.ref (v)), some (.int (nm)), some (.int (sb_i b)), some (.long (c)), none, some (.int (s)), some (.int ((-1))), none], [.int (Int32.ofNat 6), .int (Int32.ofNat n)], A)) rfl ?_
  refine wp_ifF rfl rfl (fun q => absurd ((i32_lt (a := n) (b := 6) (by omega) (by omega)).mp q) (by omega)) ?_
  refine wp_st 1 (f' := (23, [some (.ref (v)), some (.int (nm)), some (.int (sb_i b)), some (.long (c)), none, some (.int (s)), some (.int ((-1))), none], [.int (Int32.ofNat 0)], A)) rfl ?_
  refine wp_rt rfl rfl rfl ?_
  rfl
theorem vl_put1 {d v n : Nat} {rs : List Nat} {xs : List sb_vt} {A : am_H} {nm s : Int32} {b : Bool} {c : Int64} {j : Nat} (hd : 1 ≤ d) (hj : j < 6) (hp : sb_pl xs nm n 0 = Int32.ofNat j) (h : sb_V A v rs xs n) : ∃ B, am_go d 87 [.ref v, .int nm, .int (sb_i b), .long c, .int s] A (.inl (some (.int 1)), B) ∧ sb_V B v rs (xs.set j (nm, b, c, s)) n ∧ sb_fr A B v (v + 8) := by
  have hh := h
  obtain ⟨q0, q1, hr, hxl, hn, h45, hx, hnd⟩ := h
  unfold sb_vc at hx
  have hxj := (hx j (by omega)).2
  refine wp_goE ?_
  refine wp_st 2 (f' := (2, [some (.ref (v)), some (.int (nm)), some (.int (sb_i b)), some (.long (c)), none, some (.int (s)), none, none], [.int (nm), .ref (v)], A)) rfl ?_
  refine wp_cv (A' := A) (v := some (.int (Int32.ofNat j))) rfl rfl rfl rfl rfl q0 (by omega) (by rw [← hp]; exact vl_pl hh) rfl ?_
  show am_wp d 87 (5, [some (.ref (v)), some (.int (nm)), some (.int (sb_i b)), some (.long (c)), none, some (.int (s)), none, none], [.int (Int32.ofNat j)], A) _
  refine wp_st 3 (f' := (10, [some (.ref (v)), some (.int (nm)), some (.int (sb_i b)), some (.long (c)), none, some (.int (s)), some (.int (Int32.ofNat j)), none], [.int ((-1)), .int (Int32.ofNat j)], A)) rfl ?_
  refine wp_ifT rfl rfl (i32_neg1 (by omega)) ?_
  refine wp_st 1 (f' := (41, [some (.ref (v)), some (.int (nm)), some (.int (sb_i b)), some (.long (c)), none, some (.int (s)), some (.int (Int32.ofNat j)), none], [.ref (v)], A)) rfl ?_
  refine wp_gf rfl rfl q0 rfl rfl ?_
  refine wp_st 1 (f' := (46, [some (.ref (v)), some (.int (nm)), some (.int (sb_i b)), some (.long (c)), none, some (.int (s)), some (.int (Int32.ofNat j)), none], [.int (Int32.ofNat j), .ref (v + 1)], A)) rfl ?_
  refine wp_al rfl (Or.inr (Or.inr (Or.inr (Or.inr ⟨rfl, rfl⟩)))) rfl q1 (by omega) (sb_gd 0 (by omega)) rfl ?_
  refine wp_st 3 (f' := (52, [some (.ref (v)), some (.int (nm)), some (.int (sb_i b)), some (.long (c)), none, some (.int (s)), some (.int (Int32.ofNat j)), some (.ref (rs.getD j 0))], [.int (nm), .ref (rs.getD j 0)], A)) rfl ?_
  obtain ⟨A1, e2⟩ : ∃ B, B = A.set (rs.getD j 0) (3, [.int (nm), .int (sb_i (xs.getD j sb_v0).2.1), .long ((xs.getD j sb_v0).2.2.1), .int ((xs.getD j sb_v0).2.2.2)]) := ⟨_, rfl⟩
  refine wp_pf (A' := A1) rfl rfl (hx j (by omega)).1 rfl rfl (decide_eq_true (by omega)) rfl e2.symm ?_
  have g3 : A1[v]? = some (2, [.ref (v + 1), .int (Int32.ofNat n)]) := by rw [e2]; exact sb_so (by omega) q0
  have g4 : A1[v + 1]? = some (110, rs.map Value.ref) := by rw [e2]; exact sb_so (by omega) q1
  have g5 : A1[rs.getD j 0]? = some (3, [.int (nm), .int (sb_i (xs.getD j sb_v0).2.1), .long ((xs.getD j sb_v0).2.2.1), .int ((xs.getD j sb_v0).2.2.2)]) := by rw [e2]; exact sb_ss (hx j (by omega)).1
  have f6 : sb_fr A A1 v (v + 8) := (sb_fr.refl A v (v + 8)).set e2 (hx j (by omega)).1 (by simp) (by omega) (by omega)
  refine wp_st 2 (f' := (58, [some (.ref (v)), some (.int (nm)), some (.int (sb_i b)), some (.long (c)), none, some (.int (s)), some (.int (Int32.ofNat j)), some (.ref (rs.getD j 0))], [.int (sb_i b), .ref (rs.getD j 0)], A1)) rfl ?_
  obtain ⟨A7, e8⟩ : ∃ B, B = A1.set (rs.getD j 0) (3, [.int (nm), .int (sb_i b), .long ((xs.getD j sb_v0).2.2.1), .int ((xs.getD j sb_v0).2.2.2)]) := ⟨_, rfl⟩
  refine wp_pf (A' := A7) rfl rfl g5 (sb_fitz b) rfl (decide_eq_true (by omega)) rfl e8.symm ?_
  have g9 : A7[v]? = some (2, [.ref (v + 1), .int (Int32.ofNat n)]) := by rw [e8]; exact sb_so (by omega) g3
  have g10 : A7[v + 1]? = some (110, rs.map Value.ref) := by rw [e8]; exact sb_so (by omega) g4
  have g11 : A7[rs.getD j 0]? = some (3, [.int (nm), .int (sb_i b), .long ((xs.getD j sb_v0).2.2.1), .int ((xs.getD j sb_v0).2.2.2)]) := by rw [e8]; exact sb_ss g5
  have f12 : sb_fr A A7 v (v + 8) := f6.set e8 g5 (by simp) (by omega) (by omega)
  refine wp_st 2 (f' := (64, [some (.ref (v)), some (.int (nm)), some (.int (sb_i b)), some (.long (c)), none, some (.int (s)), some (.int (Int32.ofNat j)), some (.ref (rs.getD j 0))], [.long (c), .ref (rs.getD j 0)], A7)) rfl ?_
  obtain ⟨A13, e14⟩ : ∃ B, B = A7.set (rs.getD j 0) (3, [.int (nm), .int (sb_i b), .long (c), .int ((xs.getD j sb_v0).2.2.2)]) := ⟨_, rfl⟩
  refine wp_pf (A' := A13) rfl rfl g11 rfl rfl (decide_eq_true (by omega)) rfl e14.symm ?_
  have g15 : A13[v]? = some (2, [.ref (v + 1), .int (Int32.ofNat n)]) := by rw [e14]; exact sb_so (by omega) g9
  have g16 : A13[v + 1]? = some (110, rs.map Value.ref) := by rw [e14]; exact sb_so (by omega) g10
  have g17 : A13[rs.getD j 0]? = some (3, [.int (nm), .int (sb_i b), .long (c), .int ((xs.getD j sb_v0).2.2.2)]) := by rw [e14]; exact sb_ss g11
  have f18 : sb_fr A A13 v (v + 8) := f12.set e14 g11 (by simp) (by omega) (by omega)
  refine wp_st 2 (f' := (71, [some (.ref (v)), some (.int (nm)), some (.int (sb_i b)), some (.long (c)), none, some (.int (s)), some (.int (Int32.ofNat j)), some (.ref (rs.getD j 0))], [.int (s), .ref (rs.getD j 0)], A13)) rfl ?_
  obtain ⟨A19, e20⟩ : ∃ B, B = A13.set (rs.getD j 0) (3, [.int (nm), .int (sb_i b), .long (c), .int (s)]) := ⟨_, rfl⟩
  refine wp_pf (A' := A19) rfl rfl g17 rfl rfl (decide_eq_true (by omega)) rfl e20.symm ?_
  have g21 : A19[v]? = some (2, [.ref (v + 1), .int (Int32.ofNat n)]) := by rw [e20]; exact sb_so (by omega) g15
  have g22 : A19[v + 1]? = some (110, rs.map Value.ref) := by rw [e20]; exact sb_so (by omega) g16
  have g23 : A19[rs.getD j 0]? = some (3, [.int (nm), .int (sb_i b), .long (c), .int (s)]) := by rw [e20]; exact sb_ss g17
  have f24 : sb_fr A A19 v (v + 8) := f18.set e20 g17 (by simp) (by omega) (by omega)
  refine wp_st 1 (f' := (75, [some (.ref (v)), some (.int (nm)), some (.int (sb_i b)), some (.long (c)), none, some (.int (s)), some (.int (Int32.ofNat j)), some (.ref (rs.getD j 0))], [.int (Int32.ofNat 1)], A19)) rfl ?_
  refine wp_rt rfl rfl rfl ?_
  have ho : ∀ q, q ≠ v → q ≠ rs.getD j 0 → A19[q]? = A[q]? := fun q y1 y2 => by rw [e20, List.getElem?_set_ne (Ne.symm y2), e14, List.getElem?_set_ne (Ne.symm y2), e8, List.getElem?_set_ne (Ne.symm y2), e2, List.getElem?_set_ne (Ne.symm y2)]
  refine ⟨rfl, ⟨g21, g22, hr, by simp [hxl], by omega, h45, fun i hi => ?_, hnd⟩, f24⟩
  have hxi := hx i hi
  by_cases hij : i = j
  · subst hij
    refine ⟨?_, hxi.2⟩
    rw [show (xs.set i (nm, b, c, s)).getD i sb_v0 = (nm, b, c, s) from by rw [List.getD_eq_getElem?_getD, List.getElem?_set, if_pos rfl, if_pos (by omega)]; rfl]
    exact g23
  · refine ⟨?_, hxi.2⟩
    rw [ho _ (by omega) (fun q => hij (hnd i j hi hj q)), hxi.1, show (xs.set j (nm, b, c, s)).getD i sb_v0 = xs.getD i sb_v0 from by rw [List.getD_eq_getElem?_getD, List.getElem?_set, if_neg (fun q => hij q.symm), ← List.getD_eq_getElem?_getD]]
    rfl
theorem vl_put2 {d v n : Nat} {rs : List Nat} {xs : List sb_vt} {A : am_H} {nm s : Int32} {b : Bool} {c : Int64} (hd : 1 ≤ d) (hj : n < 6) (hp : sb_pl xs nm n 0 = -1) (h : sb_V A v rs xs n) : ∃ B, am_go d 87 [.ref v, .int nm, .int (sb_i b), .long c, .int s] A (.inl (some (.int 1)), B) ∧ sb_V B v rs (xs.set n (nm, b, c, s)) (n + 1) ∧ sb_fr A B v (v + 8) := by
  have hh := h
  obtain ⟨q0, q1, hr, hxl, hn, h45, hx, hnd⟩ := h
  unfold sb_vc at hx
  have hxj := (hx n (by omega)).2
  refine wp_goE ?_
  refine wp_st 2 (f' := (2, [some (.ref (v)), some (.int (nm)), some (.int (sb_i b)), some (.long (c)), none, some (.int (s)), none, none], [.int (nm), .ref (v)], A)) rfl ?_
  refine wp_cv (A' := A) (v := some (.int ((-1)))) rfl rfl rfl rfl rfl q0 (by omega) (by rw [← hp]; exact vl_pl hh) rfl ?_
  show am_wp d 87 (5, [some (.ref (v)), some (.int (nm)), some (.int (sb_i b)), some (.long (c)), none, some (.int (s)), none, none], [.int ((-1))], A) _
  refine wp_st 3 (f' := (10, [some (.ref (v)), some (.int (nm)), some (.int (sb_i b)), some (.long (c)), none, some (.int (s)), some (.int ((-1))), none], [.int ((-1)), .int ((-1))], A)) rfl ?_
  refine wp_ifF rfl rfl (fun q => q rfl) ?_
  refine wp_st 1 (f' := (14, [some (.ref (v)), some (.int (nm)), some (.int (sb_i b)), some (.long (c)), none, some (.int (s)), some (.int ((-1))), none], [.ref (v)], A)) rfl ?_
  refine wp_gf rfl rfl q0 rfl rfl ?_
  refine wp_st 1 (f' := (19, [some (.ref (v)), some (.int (nm)), some (.int (sb_i b)), some (.long (c)), none, some (.int (s)), some (.int ((-1))), none], [.int (Int32.ofNat 6), .int (Int32.ofNat n)], A)) rfl ?_
  refine wp_ifT rfl rfl ((i32_lt (a := n) (b := 6) (by omega) (by omega)).mpr (by omega)) ?_
  refine wp_st 1 (f' := (25, [some (.ref (v)), some (.int (nm)), some (.int (sb_i b)), some (.long (c)), none, some (.int (s)), some (.int ((-1))), none], [.ref (v)], A)) rfl ?_
  refine wp_gf rfl rfl q0 rfl rfl ?_
  refine wp_st 3 (f' := (32, [some (.ref (v)), some (.int (nm)), some (.int (sb_i b)), some (.long (c)), none, some (.int (s)), some (.int (Int32.ofNat n)), none], [.ref (v), .ref (v)], A)) rfl ?_
  refine wp_gf rfl rfl q0 rfl rfl ?_
  refine wp_st 2 (f' := (37, [some (.ref (v)), some (.int (nm)), some (.int (sb_i b)), some (.long (c)), none, some (.int (s)), some (.int (Int32.ofNat n)), none], [.int ((Int32.ofNat n) + (Int32.ofNat 1)), .ref (v)], A)) rfl ?_
  rw [i32_add (n) (1)]
  obtain ⟨A1, e2⟩ : ∃ B, B = A.set (v) (2, [.ref (v + 1), .int (Int32.ofNat (n + 1))]) := ⟨_, rfl⟩
  refine wp_pf (A' := A1) rfl rfl q0 rfl rfl (decide_eq_true (by omega)) rfl e2.symm ?_
  have g3 : A1[v]? = some (2, [.ref (v + 1), .int (Int32.ofNat (n + 1))]) := by rw [e2]; exact sb_ss q0
  have g4 : A1[v + 1]? = some (110, rs.map Value.ref) := by rw [e2]; exact sb_so (by omega) q1
  have g5 : A1[rs.getD n 0]? = some (3, [.int ((xs.getD n sb_v0).1), .int (sb_i (xs.getD n sb_v0).2.1), .long ((xs.getD n sb_v0).2.2.1), .int ((xs.getD n sb_v0).2.2.2)]) := by rw [e2]; exact sb_so (by omega) (hx n (by omega)).1
  have f6 : sb_fr A A1 v (v + 8) := (sb_fr.refl A v (v + 8)).set e2 q0 (by simp) (by omega) (by omega)
  refine wp_st 1 (f' := (41, [some (.ref (v)), some (.int (nm)), some (.int (sb_i b)), some (.long (c)), none, some (.int (s)), some (.int (Int32.ofNat n)), none], [.ref (v)], A1)) rfl ?_
  refine wp_gf rfl rfl g3 rfl rfl ?_
  refine wp_st 1 (f' := (46, [some (.ref (v)), some (.int (nm)), some (.int (sb_i b)), some (.long (c)), none, some (.int (s)), some (.int (Int32.ofNat n)), none], [.int (Int32.ofNat n), .ref (v + 1)], A1)) rfl ?_
  refine wp_al rfl (Or.inr (Or.inr (Or.inr (Or.inr ⟨rfl, rfl⟩)))) rfl g4 (by omega) (sb_gd 0 (by omega)) rfl ?_
  refine wp_st 3 (f' := (52, [some (.ref (v)), some (.int (nm)), some (.int (sb_i b)), some (.long (c)), none, some (.int (s)), some (.int (Int32.ofNat n)), some (.ref (rs.getD n 0))], [.int (nm), .ref (rs.getD n 0)], A1)) rfl ?_
  obtain ⟨A7, e8⟩ : ∃ B, B = A1.set (rs.getD n 0) (3, [.int (nm), .int (sb_i (xs.getD n sb_v0).2.1), .long ((xs.getD n sb_v0).2.2.1), .int ((xs.getD n sb_v0).2.2.2)]) := ⟨_, rfl⟩
  refine wp_pf (A' := A7) rfl rfl g5 rfl rfl (decide_eq_true (by omega)) rfl e8.symm ?_
  have g9 : A7[v]? = some (2, [.ref (v + 1), .int (Int32.ofNat (n + 1))]) := by rw [e8]; exact sb_so (by omega) g3
  have g10 : A7[v + 1]? = some (110, rs.map Value.ref) := by rw [e8]; exact sb_so (by omega) g4
  have g11 : A7[rs.getD n 0]? = some (3, [.int (nm), .int (sb_i (xs.getD n sb_v0).2.1), .long ((xs.getD n sb_v0).2.2.1), .int ((xs.getD n sb_v0).2.2.2)]) := by rw [e8]; exact sb_ss g5
  have f12 : sb_fr A A7 v (v + 8) := f6.set e8 g5 (by simp) (by omega) (by omega)
  refine wp_st 2 (f' := (58, [some (.ref (v)), some (.int (nm)), some (.int (sb_i b)), some (.long (c)), none, some (.int (s)), some (.int (Int32.ofNat n)), some (.ref (rs.getD n 0))], [.int (sb_i b), .ref (rs.getD n 0)], A7)) rfl ?_
  obtain ⟨A13, e14⟩ : ∃ B, B = A7.set (rs.getD n 0) (3, [.int (nm), .int (sb_i b), .long ((xs.getD n sb_v0).2.2.1), .int ((xs.getD n sb_v0).2.2.2)]) := ⟨_, rfl⟩
  refine wp_pf (A' := A13) rfl rfl g11 (sb_fitz b) rfl (decide_eq_true (by omega)) rfl e14.symm ?_
  have g15 : A13[v]? = some (2, [.ref (v + 1), .int (Int32.ofNat (n + 1))]) := by rw [e14]; exact sb_so (by omega) g9
  have g16 : A13[v + 1]? = some (110, rs.map Value.ref) := by rw [e14]; exact sb_so (by omega) g10
  have g17 : A13[rs.getD n 0]? = some (3, [.int (nm), .int (sb_i b), .long ((xs.getD n sb_v0).2.2.1), .int ((xs.getD n sb_v0).2.2.2)]) := by rw [e14]; exact sb_ss g11
  have f18 : sb_fr A A13 v (v + 8) := f12.set e14 g11 (by simp) (by omega) (by omega)
  refine wp_st 2 (f' := (64, [some (.ref (v)), some (.int (nm)), some (.int (sb_i b)), some (.long (c)), none, some (.int (s)), some (.int (Int32.ofNat n)), some (.ref (rs.getD n 0))], [.long (c), .ref (rs.getD n 0)], A13)) rfl ?_
  obtain ⟨A19, e20⟩ : ∃ B, B = A13.set (rs.getD n 0) (3, [.int (nm), .int (sb_i b), .long (c), .int ((xs.getD n sb_v0).2.2.2)]) := ⟨_, rfl⟩
  refine wp_pf (A' := A19) rfl rfl g17 rfl rfl (decide_eq_true (by omega)) rfl e20.symm ?_
  have g21 : A19[v]? = some (2, [.ref (v + 1), .int (Int32.ofNat (n + 1))]) := by rw [e20]; exact sb_so (by omega) g15
  have g22 : A19[v + 1]? = some (110, rs.map Value.ref) := by rw [e20]; exact sb_so (by omega) g16
  have g23 : A19[rs.getD n 0]? = some (3, [.int (nm), .int (sb_i b), .long (c), .int ((xs.getD n sb_v0).2.2.2)]) := by rw [e20]; exact sb_ss g17
  have f24 : sb_fr A A19 v (v + 8) := f18.set e20 g17 (by simp) (by omega) (by omega)
  refine wp_st 2 (f' := (71, [some (.ref (v)), some (.int (nm)), some (.int (sb_i b)), some (.long (c)), none, some (.int (s)), some (.int (Int32.ofNat n)), some (.ref (rs.getD n 0))], [.int (s), .ref (rs.getD n 0)], A19)) rfl ?_
  obtain ⟨A25, e26⟩ : ∃ B, B = A19.set (rs.getD n 0) (3, [.int (nm), .int (sb_i b), .long (c), .int (s)]) := ⟨_, rfl⟩
  refine wp_pf (A' := A25) rfl rfl g23 rfl rfl (decide_eq_true (by omega)) rfl e26.symm ?_
  have g27 : A25[v]? = some (2, [.ref (v + 1), .int (Int32.ofNat (n + 1))]) := by rw [e26]; exact sb_so (by omega) g21
  have g28 : A25[v + 1]? = some (110, rs.map Value.ref) := by rw [e26]; exact sb_so (by omega) g22
  have g29 : A25[rs.getD n 0]? = some (3, [.int (nm), .int (sb_i b), .long (c), .int (s)]) := by rw [e26]; exact sb_ss g23
  have f30 : sb_fr A A25 v (v + 8) := f24.set e26 g23 (by simp) (by omega) (by omega)
  refine wp_st 1 (f' := (75, [some (.ref (v)), some (.int (nm)), some (.int (sb_i b)), some (.long (c)), none, some (.int (s)), some (.int (Int32.ofNat n)), some (.ref (rs.getD n 0))], [.int (Int32.ofNat 1)], A25)) rfl ?_
  refine wp_rt rfl rfl rfl ?_
  have ho : ∀ q, q ≠ v → q ≠ rs.getD n 0 → A25[q]? = A[q]? := fun q y1 y2 => by rw [e26, List.getElem?_set_ne (Ne.symm y2), e20, List.getElem?_set_ne (Ne.symm y2), e14, List.getElem?_set_ne (Ne.symm y2), e8, List.getElem?_set_ne (Ne.symm y2), e2, List.getElem?_set_ne (Ne.symm y1)]
  refine ⟨rfl, ⟨g27, g28, hr, by simp [hxl], by omega, h45, fun i hi => ?_, hnd⟩, f30⟩
  have hxi := hx i hi
  by_cases hij : i = n
  · subst hij
    refine ⟨?_, hxi.2⟩
    rw [show (xs.set i (nm, b, c, s)).getD i sb_v0 = (nm, b, c, s) from by rw [List.getD_eq_getElem?_getD, List.getElem?_set, if_pos rfl, if_pos (by omega)]; rfl]
    exact g29
  · refine ⟨?_, hxi.2⟩
    rw [ho _ (by omega) (fun q => hij (hnd i n hi hj q)), hxi.1, show (xs.set n (nm, b, c, s)).getD i sb_v0 = xs.getD i sb_v0 from by rw [List.getD_eq_getElem?_getD, List.getElem?_set, if_neg (fun q => hij q.symm), ← List.getD_eq_getElem?_getD]]
    rfl
theorem vl_rem1 {d v n : Nat} {rs : List Nat} {xs : List sb_vt} {A : am_H} {nm : Int32} {j : Nat} (hd : 1 ≤ d) (hj : j < n) (hp : sb_pl xs nm n 0 = Int32.ofNat j) (h : sb_V A v rs xs n) : ∃ B, am_go d 16 [.ref v, .int nm] A (.inl (some (.int 1)), B) ∧ sb_V B v (sb_sw rs j (n - 1) 0) (sb_sw xs j (n - 1) sb_v0) (n - 1) ∧ sb_fr A B v (v + 8) := by
  have hh := h
  obtain ⟨q0, q1, hr, hxl, hn, h45, hx, hnd⟩ := h
  unfold sb_vc at hx
  have hxj := (hx j (by omega)).2
  have hxn := (hx (n - 1) (by omega)).2
  refine wp_goE ?_
  refine wp_st 2 (f' := (2, [some (.ref (v)), some (.int (nm)), none, none], [.int (nm), .ref (v)], A)) rfl ?_
  refine wp_cv (A' := A) (v := some (.int (Int32.ofNat j))) rfl rfl rfl rfl rfl q0 (by omega) (by rw [← hp]; exact vl_pl hh) rfl ?_
  show am_wp d 16 (5, [some (.ref (v)), some (.int (nm)), none, none], [.int (Int32.ofNat j)], A) _
  refine wp_st 3 (f' := (8, [some (.ref (v)), some (.int (nm)), some (.int (Int32.ofNat j)), none], [.int ((-1)), .int (Int32.ofNat j)], A)) rfl ?_
  refine wp_ifT rfl rfl (i32_neg1 (by omega)) ?_
  refine wp_st 2 (f' := (15, [some (.ref (v)), some (.int (nm)), some (.int (Int32.ofNat j)), none], [.ref (v), .ref (v)], A)) rfl ?_
  refine wp_gf rfl rfl q0 rfl rfl ?_
  refine wp_st 2 (f' := (20, [some (.ref (v)), some (.int (nm)), some (.int (Int32.ofNat j)), none], [.int ((Int32.ofNat n) - (Int32.ofNat 1)), .ref (v)], A)) rfl ?_
  rw [i32_sub (a := n) (b := 1) (by omega)]
  obtain ⟨A1, e2⟩ : ∃ B, B = A.set (v) (2, [.ref (v + 1), .int (Int32.ofNat (n - 1))]) := ⟨_, rfl⟩
  refine wp_pf (A' := A1) rfl rfl q0 rfl rfl (decide_eq_true (by omega)) rfl e2.symm ?_
  have g3 : A1[v]? = some (2, [.ref (v + 1), .int (Int32.ofNat (n - 1))]) := by rw [e2]; exact sb_ss q0
  have g4 : A1[v + 1]? = some (110, rs.map Value.ref) := by rw [e2]; exact sb_so (by omega) q1
  have g5 : A1[rs.getD j 0]? = some (3, [.int ((xs.getD j sb_v0).1), .int (sb_i (xs.getD j sb_v0).2.1), .long ((xs.getD j sb_v0).2.2.1), .int ((xs.getD j sb_v0).2.2.2)]) := by rw [e2]; exact sb_so (by omega) (hx j (by omega)).1
  have g6 : A1[rs.getD (n - 1) 0]? = some (3, [.int ((xs.getD (n - 1) sb_v0).1), .int (sb_i (xs.getD (n - 1) sb_v0).2.1), .long ((xs.getD (n - 1) sb_v0).2.2.1), .int ((xs.getD (n - 1) sb_v0).2.2.2)]) := by rw [e2]; exact sb_so (by omega) (hx (n - 1) (by omega)).1
  have f7 : sb_fr A A1 v (v + 8) := (sb_fr.refl A v (v + 8)).set e2 q0 (by simp) (by omega) (by omega)
  refine wp_st 1 (f' := (24, [some (.ref (v)), some (.int (nm)), some (.int (Int32.ofNat j)), none], [.ref (v)], A1)) rfl ?_
  refine wp_gf rfl rfl g3 rfl rfl ?_
  refine wp_st 1 (f' := (28, [some (.ref (v)), some (.int (nm)), some (.int (Int32.ofNat j)), none], [.int (Int32.ofNat j), .ref (v + 1)], A1)) rfl ?_
  refine wp_al rfl (Or.inr (Or.inr (Or.inr (Or.inr ⟨rfl, rfl⟩)))) rfl g4 (by omega) (sb_gd 0 (by omega)) rfl ?_
  refine wp_st 2 (f' := (31, [some (.ref (v)), some (.int (nm)), some (.int (Int32.ofNat j)), some (.ref (rs.getD j 0))], [.ref (v)], A1)) rfl ?_
  refine wp_gf rfl rfl g3 rfl rfl ?_
  refine wp_st 2 (f' := (36, [some (.ref (v)), some (.int (nm)), some (.int (Int32.ofNat j)), some (.ref (rs.getD j 0))], [.ref (v), .int (Int32.ofNat j), .ref (v + 1)], A1)) rfl ?_
  refine wp_gf rfl rfl g3 rfl rfl ?_
  refine wp_st 1 (f' := (40, [some (.ref (v)), some (.int (nm)), some (.int (Int32.ofNat j)), some (.ref (rs.getD j 0))], [.ref (v), .ref (v + 1), .int (Int32.ofNat j), .ref (v + 1)], A1)) rfl ?_
  refine wp_gf rfl rfl g3 rfl rfl ?_
  refine wp_al rfl (Or.inr (Or.inr (Or.inr (Or.inr ⟨rfl, rfl⟩)))) rfl g4 (by omega) (sb_gd 0 (by omega)) rfl ?_
  obtain ⟨A8, e9⟩ : ∃ B, B = A1.set (v + 1) (110, (rs.set j (rs.getD (n - 1) 0)).map Value.ref) := ⟨_, rfl⟩
  refine wp_rs (A' := A8) rfl g4 rfl g6 (by omega) (by simp; omega) (decide_eq_true (by omega)) rfl (by rw [e9]; exact congrArg (fun z => List.set _ _ (_, z)) sb_sm) ?_
  have g10 : A8[v]? = some (2, [.ref (v + 1), .int (Int32.ofNat (n - 1))]) := by rw [e9]; exact sb_so (by omega) g3
  have g11 : A8[v + 1]? = some (110, (rs.set j (rs.getD (n - 1) 0)).map Value.ref) := by rw [e9]; exact sb_ss g4
  have g12 : A8[rs.getD j 0]? = some (3, [.int ((xs.getD j sb_v0).1), .int (sb_i (xs.getD j sb_v0).2.1), .long ((xs.getD j sb_v0).2.2.1), .int ((xs.getD j sb_v0).2.2.2)]) := by rw [e9]; exact sb_so (by omega) g5
  have g13 : A8[rs.getD (n - 1) 0]? = some (3, [.int ((xs.getD (n - 1) sb_v0).1), .int (sb_i (xs.getD (n - 1) sb_v0).2.1), .long ((xs.getD (n - 1) sb_v0).2.2.1), .int ((xs.getD (n - 1) sb_v0).2.2.2)]) := by rw [e9]; exact sb_so (by omega) g6
  have f14 : sb_fr A A8 v (v + 8) := f7.set e9 g4 (by simp) (by omega) (by omega)
  refine wp_st 1 (f' := (46, [some (.ref (v)), some (.int (nm)), some (.int (Int32.ofNat j)), some (.ref (rs.getD j 0))], [.ref (v)], A8)) rfl ?_
  refine wp_gf rfl rfl g10 rfl rfl ?_
  refine wp_st 1 (f' := (50, [some (.ref (v)), some (.int (nm)), some (.int (Int32.ofNat j)), some (.ref (rs.getD j 0))], [.ref (v), .ref (v + 1)], A8)) rfl ?_
  refine wp_gf rfl rfl g10 rfl rfl ?_
  refine wp_st 1 (f' := (54, [some (.ref (v)), some (.int (nm)), some (.int (Int32.ofNat j)), some (.ref (rs.getD j 0))], [.ref (rs.getD j 0), .int (Int32.ofNat (n - 1)), .ref (v + 1)], A8)) rfl ?_
  obtain ⟨A15, e16⟩ : ∃ B, B = A8.set (v + 1) (110, ((rs.set j (rs.getD (n - 1) 0)).set (n - 1) (rs.getD j 0)).map Value.ref) := ⟨_, rfl⟩
  refine wp_rs (A' := A15) rfl g11 rfl g12 (by omega) (by simp; omega) (decide_eq_true (by omega)) rfl (by rw [e16]; exact congrArg (fun z => List.set _ _ (_, z)) sb_sm) ?_
  have g17 : A15[v]? = some (2, [.ref (v + 1), .int (Int32.ofNat (n - 1))]) := by rw [e16]; exact sb_so (by omega) g10
  have g18 : A15[v + 1]? = some (110, ((rs.set j (rs.getD (n - 1) 0)).set (n - 1) (rs.getD j 0)).map Value.ref) := by rw [e16]; exact sb_ss g11
  have g19 : A15[rs.getD j 0]? = some (3, [.int ((xs.getD j sb_v0).1), .int (sb_i (xs.getD j sb_v0).2.1), .long ((xs.getD j sb_v0).2.2.1), .int ((xs.getD j sb_v0).2.2.2)]) := by rw [e16]; exact sb_so (by omega) g12
  have g20 : A15[rs.getD (n - 1) 0]? = some (3, [.int ((xs.getD (n - 1) sb_v0).1), .int (sb_i (xs.getD (n - 1) sb_v0).2.1), .long ((xs.getD (n - 1) sb_v0).2.2.1), .int ((xs.getD (n - 1) sb_v0).2.2.2)]) := by rw [e16]; exact sb_so (by omega) g13
  have f21 : sb_fr A A15 v (v + 8) := f14.set e16 g11 (by simp) (by omega) (by omega)
  refine wp_st 1 (f' := (56, [some (.ref (v)), some (.int (nm)), some (.int (Int32.ofNat j)), some (.ref (rs.getD j 0))], [.int (Int32.ofNat 1)], A15)) rfl ?_
  refine wp_rt rfl rfl rfl ?_
  have ho : ∀ q, q ≠ v → q ≠ v + 1 → A15[q]? = A[q]? := fun q y1 y2 => by rw [e16, List.getElem?_set_ne (Ne.symm y2), e9, List.getElem?_set_ne (Ne.symm y2), e2, List.getElem?_set_ne (Ne.symm y1)]
  exact ⟨rfl, hh.swap (i := j) (j := n - 1) (by omega) (by omega) (by omega) g17 g18 ho, f21⟩
