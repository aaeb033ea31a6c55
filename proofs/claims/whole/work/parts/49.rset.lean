/-! RuleSet's methods, the small ones. -/
theorem rs_has {d s r g : Nat} {fi en op mo fr re lo hi : List Nat} {ng og : List Bool} {A : am_H} {c : Nat} (hc : c < 5) (h1 : fi.getD c 0 ≤ 1000) (h2 : en.getD c 0 ≤ 1000) (h : sb_R A s fi en op mo ng og fr re r lo hi g) : am_go d 70 [.ref s, .int (Int32.ofNat c)] A (.inl (some (.int (sb_i (sb_hr fi en c)))), A) := by
  have hh := h
  obtain ⟨q0, q1, q2, q3, q4, q5, q6, q7, q8, q9, q10, ⟨l1, l2⟩, ⟨l3, l4, l5, l6, l7, l8⟩, ⟨l9, l10⟩, hr, hg, h45⟩ := h
  unfold sb_rc at q0
  refine wp_go ?_
  refine wp_st 1 (f' := (1, [some (.ref (s)), some (.int (Int32.ofNat c))], [.int (Int32.ofNat c)], A)) rfl ?_
  refine wp_izF rfl rfl (Int32.ofNat_not_neg (by omega)) ?_
  refine wp_st 2 (f' := (6, [some (.ref (s)), some (.int (Int32.ofNat c))], [.int (Int32.ofNat 5), .int (Int32.ofNat c)], A)) rfl ?_
  refine wp_ifF rfl rfl (fun q => absurd ((i32_le (a := 5) (b := c) (by omega) (by omega)).mp q) (by omega)) ?_
  refine wp_st 1 (f' := (10, [some (.ref (s)), some (.int (Int32.ofNat c))], [.ref (s)], A)) rfl ?_
  refine wp_gf rfl rfl q0 rfl rfl ?_
  refine wp_st 1 (f' := (14, [some (.ref (s)), some (.int (Int32.ofNat c))], [.int (Int32.ofNat c), .ref (s + 1)], A)) rfl ?_
  refine wp_al rfl (Or.inl ⟨rfl, rfl⟩) rfl q1 (by omega) (sb_gd 0 (by omega)) rfl ?_
  refine wp_st 1 (f' := (16, [some (.ref (s)), some (.int (Int32.ofNat c))], [.ref (s), .int (Int32.ofNat (fi.getD c 0))], A)) rfl ?_
  refine wp_gf rfl rfl q0 rfl rfl ?_
  refine wp_st 1 (f' := (20, [some (.ref (s)), some (.int (Int32.ofNat c))], [.int (Int32.ofNat c), .ref (s + 2), .int (Int32.ofNat (fi.getD c 0))], A)) rfl ?_
  refine wp_al rfl (Or.inl ⟨rfl, rfl⟩) rfl q2 (by omega) (sb_gd 0 (by omega)) rfl ?_
  refine wp_if rfl rfl rfl (fun (h1 : (Int32.ofNat (en.getD c 0)) ≤ (Int32.ofNat (fi.getD c 0))) => ?_) (fun (h1 : ¬ ((Int32.ofNat (en.getD c 0)) ≤ (Int32.ofNat (fi.getD c 0)))) => ?_)
  · skip
    rw [i32_le (by omega) (by omega)] at h1
    refine wp_st 1 (f' := (29, [some (.ref (s)), some (.int (Int32.ofNat c))], [.int (Int32.ofNat 0)], A)) rfl ?_
    refine wp_rt rfl rfl rfl ?_
    rw [sb_hr, if_neg (by omega)]; rfl
  · skip
    rw [i32_le (by omega) (by omega)] at h1
    refine wp_st 2 (f' := (29, [some (.ref (s)), some (.int (Int32.ofNat c))], [.int (Int32.ofNat 1)], A)) rfl ?_
    refine wp_rt rfl rfl rfl ?_
    rw [sb_hr, if_pos (by omega)]; rfl
theorem rs_close {d s r g : Nat} {fi en op mo fr re lo hi : List Nat} {ng og : List Bool} {A : am_H} {c f : Nat} (hc : c < 5) (h : sb_R A s fi en op mo ng og fr re r lo hi g) : ∃ B, am_go d 83 [.ref s, .int (Int32.ofNat c), .int (Int32.ofNat f)] A (.inl none, B) ∧ sb_R B s (fi.set c f) (en.set c r) (op) (mo) (ng) (og) (fr) (re) (r) (lo) (hi) (g) ∧ sb_fr A B s (s + 11) := by
  have hh := h
  obtain ⟨q0, q1, q2, q3, q4, q5, q6, q7, q8, q9, q10, ⟨l1, l2⟩, ⟨l3, l4, l5, l6, l7, l8⟩, ⟨l9, l10⟩, hr, hg, h45⟩ := h
  unfold sb_rc at q0
  refine wp_goE ?_
  refine wp_st 1 (f' := (1, [some (.ref (s)), some (.int (Int32.ofNat c)), some (.int (Int32.ofNat f))], [.int (Int32.ofNat c)], A)) rfl ?_
  refine wp_izF rfl rfl (Int32.ofNat_not_neg (by omega)) ?_
  refine wp_st 2 (f' := (6, [some (.ref (s)), some (.int (Int32.ofNat c)), some (.int (Int32.ofNat f))], [.int (Int32.ofNat 5), .int (Int32.ofNat c)], A)) rfl ?_
  refine wp_ifF rfl rfl (fun q => absurd ((i32_le (a := 5) (b := c) (by omega) (by omega)).mp q) (by omega)) ?_
  refine wp_st 1 (f' := (10, [some (.ref (s)), some (.int (Int32.ofNat c)), some (.int (Int32.ofNat f))], [.ref (s)], A)) rfl ?_
  refine wp_gf rfl rfl q0 rfl rfl ?_
  refine wp_st 2 (f' := (15, [some (.ref (s)), some (.int (Int32.ofNat c)), some (.int (Int32.ofNat f))], [.int (Int32.ofNat f), .int (Int32.ofNat c), .ref (s + 1)], A)) rfl ?_
  obtain ⟨A1, e2⟩ : ∃ B, B = A.set (s + 1) (100, (fi.set c f).map sb_c) := ⟨_, rfl⟩
  refine wp_as (A' := A1) rfl (Or.inl ⟨rfl, rfl, rfl⟩) q1 (by omega) (by simp; omega) (decide_eq_true (by omega)) rfl (by rw [e2]; exact congrArg (fun z => List.set _ _ (_, z)) sb_sm) ?_
  have g3 : A1[s]? = some (5, [.ref (s + 1), .ref (s + 2), .ref (s + 3), .ref (s + 4), .ref (s + 5), .ref (s + 6), .ref (s + 7), .ref (s + 8), .int (Int32.ofNat r), .ref (s + 9), .ref (s + 10), .int (Int32.ofNat g), .ref (s + 11)]) := by rw [e2]; exact sb_so (by omega) q0
  have g4 : A1[s + 1]? = some (100, (fi.set c f).map sb_c) := by rw [e2]; exact sb_ss q1
  have g5 : A1[s + 2]? = some (100, en.map sb_c) := by rw [e2]; exact sb_so (by omega) q2
  have g6 : A1[s + 3]? = some (100, op.map sb_c) := by rw [e2]; exact sb_so (by omega) q3
  have g7 : A1[s + 4]? = some (100, mo.map sb_c) := by rw [e2]; exact sb_so (by omega) q4
  have g8 : A1[s + 5]? = some (103, ng.map sb_z) := by rw [e2]; exact sb_so (by omega) q5
  have g9 : A1[s + 6]? = some (103, og.map sb_z) := by rw [e2]; exact sb_so (by omega) q6
  have g10 : A1[s + 7]? = some (100, fr.map sb_c) := by rw [e2]; exact sb_so (by omega) q7
  have g11 : A1[s + 8]? = some (100, re.map sb_c) := by rw [e2]; exact sb_so (by omega) q8
  have g12 : A1[s + 9]? = some (100, lo.map sb_c) := by rw [e2]; exact sb_so (by omega) q9
  have g13 : A1[s + 10]? = some (100, hi.map sb_c) := by rw [e2]; exact sb_so (by omega) q10
  have f14 : sb_fr A A1 s (s + 11) := (sb_fr.refl A s (s + 11)).set e2 q1 (by simp) (by omega) (by omega)
  refine wp_st 1 (f' := (17, [some (.ref (s)), some (.int (Int32.ofNat c)), some (.int (Int32.ofNat f))], [.ref (s)], A1)) rfl ?_
  refine wp_gf rfl rfl g3 rfl rfl ?_
  refine wp_st 2 (f' := (22, [some (.ref (s)), some (.int (Int32.ofNat c)), some (.int (Int32.ofNat f))], [.ref (s), .int (Int32.ofNat c), .ref (s + 2)], A1)) rfl ?_
  refine wp_gf rfl rfl g3 rfl rfl ?_
  obtain ⟨A15, e16⟩ : ∃ B, B = A1.set (s + 2) (100, (en.set c r).map sb_c) := ⟨_, rfl⟩
  refine wp_as (A' := A15) rfl (Or.inl ⟨rfl, rfl, rfl⟩) g5 (by omega) (by simp; omega) (decide_eq_true (by omega)) rfl (by rw [e16]; exact congrArg (fun z => List.set _ _ (_, z)) sb_sm) ?_
  have g17 : A15[s]? = some (5, [.ref (s + 1), .ref (s + 2), .ref (s + 3), .ref (s + 4), .ref (s + 5), .ref (s + 6), .ref (s + 7), .ref (s + 8), .int (Int32.ofNat r), .ref (s + 9), .ref (s + 10), .int (Int32.ofNat g), .ref (s + 11)]) := by rw [e16]; exact sb_so (by omega) g3
  have g18 : A15[s + 1]? = some (100, (fi.set c f).map sb_c) := by rw [e16]; exact sb_so (by omega) g4
  have g19 : A15[s + 2]? = some (100, (en.set c r).map sb_c) := by rw [e16]; exact sb_ss g5
  have g20 : A15[s + 3]? = some (100, op.map sb_c) := by rw [e16]; exact sb_so (by omega) g6
  have g21 : A15[s + 4]? = some (100, mo.map sb_c) := by rw [e16]; exact sb_so (by omega) g7
  have g22 : A15[s + 5]? = some (103, ng.map sb_z) := by rw [e16]; exact sb_so (by omega) g8
  have g23 : A15[s + 6]? = some (103, og.map sb_z) := by rw [e16]; exact sb_so (by omega) g9
  have g24 : A15[s + 7]? = some (100, fr.map sb_c) := by rw [e16]; exact sb_so (by omega) g10
  have g25 : A15[s + 8]? = some (100, re.map sb_c) := by rw [e16]; exact sb_so (by omega) g11
  have g26 : A15[s + 9]? = some (100, lo.map sb_c) := by rw [e16]; exact sb_so (by omega) g12
  have g27 : A15[s + 10]? = some (100, hi.map sb_c) := by rw [e16]; exact sb_so (by omega) g13
  have f28 : sb_fr A A15 s (s + 11) := f14.set e16 g5 (by simp) (by omega) (by omega)
  refine wp_rt rfl rfl rfl ?_
  exact ⟨rfl, ⟨g17, g18, g19, g20, g21, g22, g23, g24, g25, g26, g27, ⟨by simp [l1], by simp [l2]⟩, ⟨by simp [l3], by simp [l4], by simp [l5], by simp [l6], by simp [l7], by simp [l8]⟩, ⟨by simp [l9], by simp [l10]⟩, by omega, by omega, h45⟩, f28⟩
theorem rs_addr {d s r g : Nat} {fi en op mo fr re lo hi : List Nat} {ng og : List Bool} {A : am_H} {o m : Nat} {a b : Bool} (h1 : r < 40) (h : sb_R A s fi en op mo ng og fr re r lo hi g) : ∃ B, am_go d 80 [.ref s, .int (Int32.ofNat o), .int (Int32.ofNat m), .int (sb_i a), .int (sb_i b)] A (.inl none, B) ∧ sb_R B s (fi) (en) (op.set r o) (mo.set r m) (ng.set r a) (og.set r b) (fr.set r g) (re.set r g) (r + 1) (lo) (hi) (g) ∧ sb_fr A B s (s + 11) := by
  have hh := h
  obtain ⟨q0, q1, q2, q3, q4, q5, q6, q7, q8, q9, q10, ⟨l1, l2⟩, ⟨l3, l4, l5, l6, l7, l8⟩, ⟨l9, l10⟩, hr, hg, h45⟩ := h
  unfold sb_rc at q0
  refine wp_goE ?_
  refine wp_st 1 (f' := (1, [some (.ref (s)), some (.int (Int32.ofNat o)), some (.int (Int32.ofNat m)), some (.int (sb_i a)), some (.int (sb_i b))], [.ref (s)], A)) rfl ?_
  refine wp_gf rfl rfl q0 rfl rfl ?_
  refine wp_st 1 (f' := (6, [some (.ref (s)), some (.int (Int32.ofNat o)), some (.int (Int32.ofNat m)), some (.int (sb_i a)), some (.int (sb_i b))], [.int (Int32.ofNat 40), .int (Int32.ofNat r)], A)) rfl ?_
  refine wp_ifF rfl rfl (fun q => absurd ((i32_le (a := 40) (b := r) (by omega) (by omega)).mp q) (by omega)) ?_
  refine wp_st 1 (f' := (10, [some (.ref (s)), some (.int (Int32.ofNat o)), some (.int (Int32.ofNat m)), some (.int (sb_i a)), some (.int (sb_i b))], [.ref (s)], A)) rfl ?_
  refine wp_gf rfl rfl q0 rfl rfl ?_
  refine wp_st 1 (f' := (14, [some (.ref (s)), some (.int (Int32.ofNat o)), some (.int (Int32.ofNat m)), some (.int (sb_i a)), some (.int (sb_i b))], [.ref (s), .ref (s + 3)], A)) rfl ?_
  refine wp_gf rfl rfl q0 rfl rfl ?_
  refine wp_st 1 (f' := (18, [some (.ref (s)), some (.int (Int32.ofNat o)), some (.int (Int32.ofNat m)), some (.int (sb_i a)), some (.int (sb_i b))], [.int (Int32.ofNat o), .int (Int32.ofNat r), .ref (s + 3)], A)) rfl ?_
  obtain ⟨A1, e2⟩ : ∃ B, B = A.set (s + 3) (100, (op.set r o).map sb_c) := ⟨_, rfl⟩
  refine wp_as (A' := A1) rfl (Or.inl ⟨rfl, rfl, rfl⟩) q3 (by omega) (by simp; omega) (decide_eq_true (by omega)) rfl (by rw [e2]; exact congrArg (fun z => List.set _ _ (_, z)) sb_sm) ?_
  have g3 : A1[s]? = some (5, [.ref (s + 1), .ref (s + 2), .ref (s + 3), .ref (s + 4), .ref (s + 5), .ref (s + 6), .ref (s + 7), .ref (s + 8), .int (Int32.ofNat r), .ref (s + 9), .ref (s + 10), .int (Int32.ofNat g), .ref (s + 11)]) := by rw [e2]; exact sb_so (by omega) q0
  have g4 : A1[s + 1]? = some (100, fi.map sb_c) := by rw [e2]; exact sb_so (by omega) q1
  have g5 : A1[s + 2]? = some (100, en.map sb_c) := by rw [e2]; exact sb_so (by omega) q2
  have g6 : A1[s + 3]? = some (100, (op.set r o).map sb_c) := by rw [e2]; exact sb_ss q3
  have g7 : A1[s + 4]? = some (100, mo.map sb_c) := by rw [e2]; exact sb_so (by omega) q4
  have g8 : A1[s + 5]? = some (103, ng.map sb_z) := by rw [e2]; exact sb_so (by omega) q5
  have g9 : A1[s + 6]? = some (103, og.map sb_z) := by rw [e2]; exact sb_so (by omega) q6
  have g10 : A1[s + 7]? = some (100, fr.map sb_c) := by rw [e2]; exact sb_so (by omega) q7
  have g11 : A1[s + 8]? = some (100, re.map sb_c) := by rw [e2]; exact sb_so (by omega) q8
  have g12 : A1[s + 9]? = some (100, lo.map sb_c) := by rw [e2]; exact sb_so (by omega) q9
  have g13 : A1[s + 10]? = some (100, hi.map sb_c) := by rw [e2]; exact sb_so (by omega) q10
  have f14 : sb_fr A A1 s (s + 11) := (sb_fr.refl A s (s + 11)).set e2 q3 (by simp) (by omega) (by omega)
  refine wp_st 1 (f' := (20, [some (.ref (s)), some (.int (Int32.ofNat o)), some (.int (Int32.ofNat m)), some (.int (sb_i a)), some (.int (sb_i b))], [.ref (s)], A1)) rfl ?_
  refine wp_gf rfl rfl g3 rfl rfl ?_
  refine wp_st 1 (f' := (24, [some (.ref (s)), some (.int (Int32.ofNat o)), some (.int (Int32.ofNat m)), some (.int (sb_i a)), some (.int (sb_i b))], [.ref (s), .ref (s + 4)], A1)) rfl ?_
  refine wp_gf rfl rfl g3 rfl rfl ?_
  refine wp_st 1 (f' := (28, [some (.ref (s)), some (.int (Int32.ofNat o)), some (.int (Int32.ofNat m)), some (.int (sb_i a)), some (.int (sb_i b))], [.int (Int32.ofNat m), .int (Int32.ofNat r), .ref (s + 4)], A1)) rfl ?_
  obtain ⟨A15, e16⟩ : ∃ B, B = A1.set (s + 4) (100, (mo.set r m).map sb_c) := ⟨_, rfl⟩
  refine wp_as (A' := A15) rfl (Or.inl ⟨rfl, rfl, rfl⟩) g7 (by omega) (by simp; omega) (decide_eq_true (by omega)) rfl (by rw [e16]; exact congrArg (fun z => List.set _ _ (_, z)) sb_sm) ?_
  have g17 : A15[s]? = some (5, [.ref (s + 1), .ref (s + 2), .ref (s + 3), .ref (s + 4), .ref (s + 5), .ref (s + 6), .ref (s + 7), .ref (s + 8), .int (Int32.ofNat r), .ref (s + 9), .ref (s + 10), .int (Int32.ofNat g), .ref (s + 11)]) := by rw [e16]; exact sb_so (by omega) g3
  have g18 : A15[s + 1]? = some (100, fi.map sb_c) := by rw [e16]; exact sb_so (by omega) g4
  have g19 : A15[s + 2]? = some (100, en.map sb_c) := by rw [e16]; exact sb_so (by omega) g5
  have g20 : A15[s + 3]? = some (100, (op.set r o).map sb_c) := by rw [e16]; exact sb_so (by omega) g6
  have g21 : A15[s + 4]? = some (100, (mo.set r m).map sb_c) := by rw [e16]; exact sb_ss g7
  have g22 : A15[s + 5]? = some (103, ng.map sb_z) := by rw [e16]; exact sb_so (by omega) g8
  have g23 : A15[s + 6]? = some (103, og.map sb_z) := by rw [e16]; exact sb_so (by omega) g9
  have g24 : A15[s + 7]? = some (100, fr.map sb_c) := by rw [e16]; exact sb_so (by omega) g10
  have g25 : A15[s + 8]? = some (100, re.map sb_c) := by rw [e16]; exact sb_so (by omega) g11
  have g26 : A15[s + 9]? = some (100, lo.map sb_c) := by rw [e16]; exact sb_so (by omega) g12
  have g27 : A15[s + 10]? = some (100, hi.map sb_c) := by rw [e16]; exact sb_so (by omega) g13
  have f28 : sb_fr A A15 s (s + 11) := f14.set e16 g7 (by simp) (by omega) (by omega)
  refine wp_st 1 (f' := (30, [some (.ref (s)), some (.int (Int32.ofNat o)), some (.int (Int32.ofNat m)), some (.int (sb_i a)), some (.int (sb_i b))], [.ref (s)], A15)) rfl ?_
  refine wp_gf rfl rfl g17 rfl rfl ?_
  refine wp_st 1 (f' := (34, [some (.ref (s)), some (.int (Int32.ofNat o)), some (.int (Int32.ofNat m)), some (.int (sb_i a)), some (.int (sb_i b))], [.ref (s), .ref (s + 5)], A15)) rfl ?_
  refine wp_gf rfl rfl g17 rfl rfl ?_
  refine wp_st 1 (f' := (38, [some (.ref (s)), some (.int (Int32.ofNat o)), some (.int (Int32.ofNat m)), some (.int (sb_i a)), some (.int (sb_i b))], [.int (sb_i a), .int (Int32.ofNat r), .ref (s + 5)], A15)) rfl ?_
  obtain ⟨A29, e30⟩ : ∃ B, B = A15.set (s + 5) (103, (ng.set r a).map sb_z) := ⟨_, rfl⟩
  refine wp_as (A' := A29) rfl (Or.inr (Or.inr ⟨rfl, rfl, rfl⟩)) g22 (by omega) (by simp; omega) (decide_eq_true (by omega)) rfl (by rw [e30]; rw [sb_sz]) ?_
  have g31 : A29[s]? = some (5, [.ref (s + 1), .ref (s + 2), .ref (s + 3), .ref (s + 4), .ref (s + 5), .ref (s + 6), .ref (s + 7), .ref (s + 8), .int (Int32.ofNat r), .ref (s + 9), .ref (s + 10), .int (Int32.ofNat g), .ref (s + 11)]) := by rw [e30]; exact sb_so (by omega) g17
  have g32 : A29[s + 1]? = some (100, fi.map sb_c) := by rw [e30]; exact sb_so (by omega) g18
  have g33 : A29[s + 2]? = some (100, en.map sb_c) := by rw [e30]; exact sb_so (by omega) g19
  have g34 : A29[s + 3]? = some (100, (op.set r o).map sb_c) := by rw [e30]; exact sb_so (by omega) g20
  have g35 : A29[s + 4]? = some (100, (mo.set r m).map sb_c) := by rw [e30]; exact sb_so (by omega) g21
  have g36 : A29[s + 5]? = some (103, (ng.set r a).map sb_z) := by rw [e30]; exact sb_ss g22
  have g37 : A29[s + 6]? = some (103, og.map sb_z) := by rw [e30]; exact sb_so (by omega) g23
  have g38 : A29[s + 7]? = some (100, fr.map sb_c) := by rw [e30]; exact sb_so (by omega) g24
  have g39 : A29[s + 8]? = some (100, re.map sb_c) := by rw [e30]; exact sb_so (by omega) g25
  have g40 : A29[s + 9]? = some (100, lo.map sb_c) := by rw [e30]; exact sb_so (by omega) g26
  have g41 : A29[s + 10]? = some (100, hi.map sb_c) := by rw [e30]; exact sb_so (by omega) g27
  have f42 : sb_fr A A29 s (s + 11) := f28.set e30 g22 (by simp) (by omega) (by omega)
  refine wp_st 1 (f' := (40, [some (.ref (s)), some (.int (Int32.ofNat o)), some (.int (Int32.ofNat m)), some (.int (sb_i a)), some (.int (sb_i b))], [.ref (s)], A29)) rfl ?_
  refine wp_gf rfl rfl g31 rfl rfl ?_
  refine wp_st 1 (f' := (44, [some (.ref (s)), some (.int (Int32.ofNat o)), some (.int (Int32.ofNat m)), some (.int (sb_i a)), some (.int (sb_i b))], [.ref (s), .ref (s + 6)], A29)) rfl ?_
  refine wp_gf rfl rfl g31 rfl rfl ?_
  refine wp_st 1 (f' := (49, [some (.ref (s)), some (.int (Int32.ofNat o)), some (.int (Int32.ofNat m)), some (.int (sb_i a)), some (.int (sb_i b))], [.int (sb_i b), .int (Int32.ofNat r), .ref (s + 6)], A29)) rfl ?_
  obtain ⟨A43, e44⟩ : ∃ B, B = A29.set (s + 6) (103, (og.set r b).map sb_z) := ⟨_, rfl⟩
  refine wp_as (A' := A43) rfl (Or.inr (Or.inr ⟨rfl, rfl, rfl⟩)) g37 (by omega) (by simp; omega) (decide_eq_true (by omega)) rfl (by rw [e44]; rw [sb_sz]) ?_
  have g45 : A43[s]? = some (5, [.ref (s + 1), .ref (s + 2), .ref (s + 3), .ref (s + 4), .ref (s + 5), .ref (s + 6), .ref (s + 7), .ref (s + 8), .int (Int32.ofNat r), .ref (s + 9), .ref (s + 10), .int (Int32.ofNat g), .ref (s + 11)]) := by rw [e44]; exact sb_so (by omega) g31
  have g46 : A43[s + 1]? = some (100, fi.map sb_c) := by rw [e44]; exact sb_so (by omega) g32
  have g47 : A43[s + 2]? = some (100, en.map sb_c) := by rw [e44]; exact sb_so (by omega) g33
  have g48 : A43[s + 3]? = some (100, (op.set r o).map sb_c) := by rw [e44]; exact sb_so (by omega) g34
  have g49 : A43[s + 4]? = some (100, (mo.set r m).map sb_c) := by rw [e44]; exact sb_so (by omega) g35
  have g50 : A43[s + 5]? = some (103, (ng.set r a).map sb_z) := by rw [e44]; exact sb_so (by omega) g36
  have g51 : A43[s + 6]? = some (103, (og.set r b).map sb_z) := by rw [e44]; exact sb_ss g37
  have g52 : A43[s + 7]? = some (100, fr.map sb_c) := by rw [e44]; exact sb_so (by omega) g38
  have g53 : A43[s + 8]? = some (100, re.map sb_c) := by rw [e44]; exact sb_so (by omega) g39
  have g54 : A43[s + 9]? = some (100, lo.map sb_c) := by rw [e44]; exact sb_so (by omega) g40
  have g55 : A43[s + 10]? = some (100, hi.map sb_c) := by rw [e44]; exact sb_so (by omega) g41
  have f56 : sb_fr A A43 s (s + 11) := f42.set e44 g37 (by simp) (by omega) (by omega)
  refine wp_st 1 (f' := (51, [some (.ref (s)), some (.int (Int32.ofNat o)), some (.int (Int32.ofNat m)), some (.int (sb_i a)), some (.int (sb_i b))], [.ref (s)], A43)) rfl ?_
  refine wp_gf rfl rfl g45 rfl rfl ?_
  refine wp_st 1 (f' := (55, [some (.ref (s)), some (.int (Int32.ofNat o)), some (.int (Int32.ofNat m)), some (.int (sb_i a)), some (.int (sb_i b))], [.ref (s), .ref (s + 7)], A43)) rfl ?_
  refine wp_gf rfl rfl g45 rfl rfl ?_
  refine wp_st 1 (f' := (59, [some (.ref (s)), some (.int (Int32.ofNat o)), some (.int (Int32.ofNat m)), some (.int (sb_i a)), some (.int (sb_i b))], [.ref (s), .int (Int32.ofNat r), .ref (s + 7)], A43)) rfl ?_
  refine wp_gf rfl rfl g45 rfl rfl ?_
  obtain ⟨A57, e58⟩ : ∃ B, B = A43.set (s + 7) (100, (fr.set r g).map sb_c) := ⟨_, rfl⟩
  refine wp_as (A' := A57) rfl (Or.inl ⟨rfl, rfl, rfl⟩) g52 (by omega) (by simp; omega) (decide_eq_true (by omega)) rfl (by rw [e58]; exact congrArg (fun z => List.set _ _ (_, z)) sb_sm) ?_
  have g59 : A57[s]? = some (5, [.ref (s + 1), .ref (s + 2), .ref (s + 3), .ref (s + 4), .ref (s + 5), .ref (s + 6), .ref (s + 7), .ref (s + 8), .int (Int32.ofNat r), .ref (s + 9), .ref (s + 10), .int (Int32.ofNat g), .ref (s + 11)]) := by rw [e58]; exact sb_so (by omega) g45
  have g60 : A57[s + 1]? = some (100, fi.map sb_c) := by rw [e58]; exact sb_so (by omega) g46
  have g61 : A57[s + 2]? = some (100, en.map sb_c) := by rw [e58]; exact sb_so (by omega) g47
  have g62 : A57[s + 3]? = some (100, (op.set r o).map sb_c) := by rw [e58]; exact sb_so (by omega) g48
  have g63 : A57[s + 4]? = some (100, (mo.set r m).map sb_c) := by rw [e58]; exact sb_so (by omega) g49
  have g64 : A57[s + 5]? = some (103, (ng.set r a).map sb_z) := by rw [e58]; exact sb_so (by omega) g50
  have g65 : A57[s + 6]? = some (103, (og.set r b).map sb_z) := by rw [e58]; exact sb_so (by omega) g51
  have g66 : A57[s + 7]? = some (100, (fr.set r g).map sb_c) := by rw [e58]; exact sb_ss g52
  have g67 : A57[s + 8]? = some (100, re.map sb_c) := by rw [e58]; exact sb_so (by omega) g53
  have g68 : A57[s + 9]? = some (100, lo.map sb_c) := by rw [e58]; exact sb_so (by omega) g54
  have g69 : A57[s + 10]? = some (100, hi.map sb_c) := by rw [e58]; exact sb_so (by omega) g55
  have f70 : sb_fr A A57 s (s + 11) := f56.set e58 g52 (by simp) (by omega) (by omega)
  refine wp_st 1 (f' := (64, [some (.ref (s)), some (.int (Int32.ofNat o)), some (.int (Int32.ofNat m)), some (.int (sb_i a)), some (.int (sb_i b))], [.ref (s)], A57)) rfl ?_
  refine wp_gf rfl rfl g59 rfl rfl ?_
  refine wp_st 1 (f' := (68, [some (.ref (s)), some (.int (Int32.ofNat o)), some (.int (Int32.ofNat m)), some (.int (sb_i a)), some (.int (sb_i b))], [.ref (s), .ref (s + 8)], A57)) rfl ?_
  refine wp_gf rfl rfl g59 rfl rfl ?_
  refine wp_st 1 (f' := (72, [some (.ref (s)), some (.int (Int32.ofNat o)), some (.int (Int32.ofNat m)), some (.int (sb_i a)), some (.int (sb_i b))], [.ref (s), .int (Int32.ofNat r), .ref (s + 8)], A57)) rfl ?_
  refine wp_gf rfl rfl g59 rfl rfl ?_
  obtain ⟨A71, e72⟩ : ∃ B, B = A57.set (s + 8) (100, (re.set r g).map sb_c) := ⟨_, rfl⟩
  refine wp_as (A' := A71) rfl (Or.inl ⟨rfl, rfl, rfl⟩) g67 (by omega) (by simp; omega) (decide_eq_true (by omega)) rfl (by rw [e72]; exact congrArg (fun z => List.set _ _ (_, z)) sb_sm) ?_
  have g73 : A71[s]? = some (5, [.ref (s + 1), .ref (s + 2), .ref (s + 3), .ref (s + 4), .ref (s + 5), .ref (s + 6), .ref (s + 7), .ref (s + 8), .int (Int32.ofNat r), .ref (s + 9), .ref (s + 10), .int (Int32.ofNat g), .ref (s + 11)]) := by rw [e72]; exact sb_so (by omega) g59
  have g74 : A71[s + 1]? = some (100, fi.map sb_c) := by rw [e72]; exact sb_so (by omega) g60
  have g75 : A71[s + 2]? = some (100, en.map sb_c) := by rw [e72]; exact sb_so (by omega) g61
  have g76 : A71[s + 3]? = some (100, (op.set r o).map sb_c) := by rw [e72]; exact sb_so (by omega) g62
  have g77 : A71[s + 4]? = some (100, (mo.set r m).map sb_c) := by rw [e72]; exact sb_so (by omega) g63
  have g78 : A71[s + 5]? = some (103, (ng.set r a).map sb_z) := by rw [e72]; exact sb_so (by omega) g64
  have g79 : A71[s + 6]? = some (103, (og.set r b).map sb_z) := by rw [e72]; exact sb_so (by omega) g65
  have g80 : A71[s + 7]? = some (100, (fr.set r g).map sb_c) := by rw [e72]; exact sb_so (by omega) g66
  have g81 : A71[s + 8]? = some (100, (re.set r g).map sb_c) := by rw [e72]; exact sb_ss g67
  have g82 : A71[s + 9]? = some (100, lo.map sb_c) := by rw [e72]; exact sb_so (by omega) g68
  have g83 : A71[s + 10]? = some (100, hi.map sb_c) := by rw [e72]; exact sb_so (by omega) g69
  have f84 : sb_fr A A71 s (s + 11) := f70.set e72 g67 (by simp) (by omega) (by omega)
  refine wp_st 2 (f' := (78, [some (.ref (s)), some (.int (Int32.ofNat o)), some (.int (Int32.ofNat m)), some (.int (sb_i a)), some (.int (sb_i b))], [.ref (s), .ref (s)], A71)) rfl ?_
  refine wp_gf rfl rfl g73 rfl rfl ?_
  refine wp_st 2 (f' := (83, [some (.ref (s)), some (.int (Int32.ofNat o)), some (.int (Int32.ofNat m)), some (.int (sb_i a)), some (.int (sb_i b))], [.int ((Int32.ofNat r) + (Int32.ofNat 1)), .ref (s)], A71)) rfl ?_
  rw [i32_add (r) (1)]
  obtain ⟨A85, e86⟩ : ∃ B, B = A71.set (s) (5, [.ref (s + 1), .ref (s + 2), .ref (s + 3), .ref (s + 4), .ref (s + 5), .ref (s + 6), .ref (s + 7), .ref (s + 8), .int (Int32.ofNat (r + 1)), .ref (s + 9), .ref (s + 10), .int (Int32.ofNat g), .ref (s + 11)]) := ⟨_, rfl⟩
  refine wp_pf (A' := A85) rfl rfl g73 rfl rfl (decide_eq_true (by omega)) rfl e86.symm ?_
  have g87 : A85[s]? = some (5, [.ref (s + 1), .ref (s + 2), .ref (s + 3), .ref (s + 4), .ref (s + 5), .ref (s + 6), .ref (s + 7), .ref (s + 8), .int (Int32.ofNat (r + 1)), .ref (s + 9), .ref (s + 10), .int (Int32.ofNat g), .ref (s + 11)]) := by rw [e86]; exact sb_ss g73
  have g88 : A85[s + 1]? = some (100, fi.map sb_c) := by rw [e86]; exact sb_so (by omega) g74
  have g89 : A85[s + 2]? = some (100, en.map sb_c) := by rw [e86]; exact sb_so (by omega) g75
  have g90 : A85[s + 3]? = some (100, (op.set r o).map sb_c) := by rw [e86]; exact sb_so (by omega) g76
  have g91 : A85[s + 4]? = some (100, (mo.set r m).map sb_c) := by rw [e86]; exact sb_so (by omega) g77
  have g92 : A85[s + 5]? = some (103, (ng.set r a).map sb_z) := by rw [e86]; exact sb_so (by omega) g78
  have g93 : A85[s + 6]? = some (103, (og.set r b).map sb_z) := by rw [e86]; exact sb_so (by omega) g79
  have g94 : A85[s + 7]? = some (100, (fr.set r g).map sb_c) := by rw [e86]; exact sb_so (by omega) g80
  have g95 : A85[s + 8]? = some (100, (re.set r g).map sb_c) := by rw [e86]; exact sb_so (by omega) g81
  have g96 : A85[s + 9]? = some (100, lo.map sb_c) := by rw [e86]; exact sb_so (by omega) g82
  have g97 : A85[s + 10]? = some (100, hi.map sb_c) := by rw [e86]; exact sb_so (by omega) g83
  have f98 : sb_fr A A85 s (s + 11) := f84.set e86 g73 (by simp) (by omega) (by omega)
  refine wp_rt rfl rfl rfl ?_
  exact ⟨rfl, ⟨g87, g88, g89, g90, g91, g92, g93, g94, g95, g96, g97, ⟨by simp [l1], by simp [l2]⟩, ⟨by simp [l3], by simp [l4], by simp [l5], by simp [l6], by simp [l7], by simp [l8]⟩, ⟨by simp [l9], by simp [l10]⟩, by omega, by omega, h45⟩, f98⟩
theorem rs_addg {d s r g : Nat} {fi en op mo fr re lo hi : List Nat} {ng og : List Bool} {A : am_H} {a b : Nat} (h1 : g < 60) (h2 : 0 < r) (h : sb_R A s fi en op mo ng og fr re r lo hi g) : ∃ B, am_go d 82 [.ref s, .int (Int32.ofNat a), .int (Int32.ofNat b)] A (.inl none, B) ∧ sb_R B s (fi) (en) (op) (mo) (ng) (og) (fr) (re.set (r - 1) (g + 1)) (r) (lo.set g a) (hi.set g b) (g + 1) ∧ sb_fr A B s (s + 11) := by
  have hh := h
  obtain ⟨q0, q1, q2, q3, q4, q5, q6, q7, q8, q9, q10, ⟨l1, l2⟩, ⟨l3, l4, l5, l6, l7, l8⟩, ⟨l9, l10⟩, hr, hg, h45⟩ := h
  unfold sb_rc at q0
  refine wp_goE ?_
  refine wp_st 1 (f' := (1, [some (.ref (s)), some (.int (Int32.ofNat a)), some (.int (Int32.ofNat b))], [.ref (s)], A)) rfl ?_
  refine wp_gf rfl rfl q0 rfl rfl ?_
  refine wp_st 1 (f' := (6, [some (.ref (s)), some (.int (Int32.ofNat a)), some (.int (Int32.ofNat b))], [.int (Int32.ofNat 60), .int (Int32.ofNat g)], A)) rfl ?_
  refine wp_ifF rfl rfl (fun q => absurd ((i32_le (a := 60) (b := g) (by omega) (by omega)).mp q) (by omega)) ?_
  refine wp_st 1 (f' := (10, [some (.ref (s)), some (.int (Int32.ofNat a)), some (.int (Int32.ofNat b))], [.ref (s)], A)) rfl ?_
  refine wp_gf rfl rfl q0 rfl rfl ?_
  refine wp_izF rfl rfl (fun q => absurd ((i32_le (a := r) (b := 0) (by omega) (by omega)).mp q) (by omega)) ?_
  refine wp_st 1 (f' := (17, [some (.ref (s)), some (.int (Int32.ofNat a)), some (.int (Int32.ofNat b))], [.ref (s)], A)) rfl ?_
  refine wp_gf rfl rfl q0 rfl rfl ?_
  refine wp_st 1 (f' := (21, [some (.ref (s)), some (.int (Int32.ofNat a)), some (.int (Int32.ofNat b))], [.ref (s), .ref (s + 9)], A)) rfl ?_
  refine wp_gf rfl rfl q0 rfl rfl ?_
  refine wp_st 1 (f' := (25, [some (.ref (s)), some (.int (Int32.ofNat a)), some (.int (Int32.ofNat b))], [.int (Int32.ofNat a), .int (Int32.ofNat g), .ref (s + 9)], A)) rfl ?_
  obtain ⟨A1, e2⟩ : ∃ B, B = A.set (s + 9) (100, (lo.set g a).map sb_c) := ⟨_, rfl⟩
  refine wp_as (A' := A1) rfl (Or.inl ⟨rfl, rfl, rfl⟩) q9 (by omega) (by simp; omega) (decide_eq_true (by omega)) rfl (by rw [e2]; exact congrArg (fun z => List.set _ _ (_, z)) sb_sm) ?_
  have g3 : A1[s]? = some (5, [.ref (s + 1), .ref (s + 2), .ref (s + 3), .ref (s + 4), .ref (s + 5), .ref (s + 6), .ref (s + 7), .ref (s + 8), .int (Int32.ofNat r), .ref (s + 9), .ref (s + 10), .int (Int32.ofNat g), .ref (s + 11)]) := by rw [e2]; exact sb_so (by omega) q0
  have g4 : A1[s + 1]? = some (100, fi.map sb_c) := by rw [e2]; exact sb_so (by omega) q1
  have g5 : A1[s + 2]? = some (100, en.map sb_c) := by rw [e2]; exact sb_so (by omega) q2
  have g6 : A1[s + 3]? = some (100, op.map sb_c) := by rw [e2]; exact sb_so (by omega) q3
  have g7 : A1[s + 4]? = some (100, mo.map sb_c) := by rw [e2]; exact sb_so (by omega) q4
  have g8 : A1[s + 5]? = some (103, ng.map sb_z) := by rw [e2]; exact sb_so (by omega) q5
  have g9 : A1[s + 6]? = some (103, og.map sb_z) := by rw [e2]; exact sb_so (by omega) q6
  have g10 : A1[s + 7]? = some (100, fr.map sb_c) := by rw [e2]; exact sb_so (by omega) q7
  have g11 : A1[s + 8]? = some (100, re.map sb_c) := by rw [e2]; exact sb_so (by omega) q8
  have g12 : A1[s + 9]? = some (100, (lo.set g a).map sb_c) := by rw [e2]; exact sb_ss q9
  have g13 : A1[s + 10]? = some (100, hi.map sb_c) := by rw [e2]; exact sb_so (by omega) q10
  have f14 : sb_fr A A1 s (s + 11) := (sb_fr.refl A s (s + 11)).set e2 q9 (by simp) (by omega) (by omega)
  refine wp_st 1 (f' := (27, [some (.ref (s)), some (.int (Int32.ofNat a)), some (.int (Int32.ofNat b))], [.ref (s)], A1)) rfl ?_
  refine wp_gf rfl rfl g3 rfl rfl ?_
  refine wp_st 1 (f' := (31, [some (.ref (s)), some (.int (Int32.ofNat a)), some (.int (Int32.ofNat b))], [.ref (s), .ref (s + 10)], A1)) rfl ?_
  refine wp_gf rfl rfl g3 rfl rfl ?_
  refine wp_st 1 (f' := (35, [some (.ref (s)), some (.int (Int32.ofNat a)), some (.int (Int32.ofNat b))], [.int (Int32.ofNat b), .int (Int32.ofNat g), .ref (s + 10)], A1)) rfl ?_
  obtain ⟨A15, e16⟩ : ∃ B, B = A1.set (s + 10) (100, (hi.set g b).map sb_c) := ⟨_, rfl⟩
  refine wp_as (A' := A15) rfl (Or.inl ⟨rfl, rfl, rfl⟩) g13 (by omega) (by simp; omega) (decide_eq_true (by omega)) rfl (by rw [e16]; exact congrArg (fun z => List.set _ _ (_, z)) sb_sm) ?_
  have g17 : A15[s]? = some (5, [.ref (s + 1), .ref (s + 2), .ref (s + 3), .ref (s + 4), .ref (s + 5), .ref (s + 6), .ref (s + 7), .ref (s + 8), .int (Int32.ofNat r), .ref (s + 9), .ref (s + 10), .int (Int32.ofNat g), .ref (s + 11)]) := by rw [e16]; exact sb_so (by omega) g3
  have g18 : A15[s + 1]? = some (100, fi.map sb_c) := by rw [e16]; exact sb_so (by omega) g4
  have g19 : A15[s + 2]? = some (100, en.map sb_c) := by rw [e16]; exact sb_so (by omega) g5
  have g20 : A15[s + 3]? = some (100, op.map sb_c) := by rw [e16]; exact sb_so (by omega) g6
  have g21 : A15[s + 4]? = some (100, mo.map sb_c) := by rw [e16]; exact sb_so (by omega) g7
  have g22 : A15[s + 5]? = some (103, ng.map sb_z) := by rw [e16]; exact sb_so (by omega) g8
  have g23 : A15[s + 6]? = some (103, og.map sb_z) := by rw [e16]; exact sb_so (by omega) g9
  have g24 : A15[s + 7]? = some (100, fr.map sb_c) := by rw [e16]; exact sb_so (by omega) g10
  have g25 : A15[s + 8]? = some (100, re.map sb_c) := by rw [e16]; exact sb_so (by omega) g11
  have g26 : A15[s + 9]? = some (100, (lo.set g a).map sb_c) := by rw [e16]; exact sb_so (by omega) g12
  have g27 : A15[s + 10]? = some (100, (hi.set g b).map sb_c) := by rw [e16]; exact sb_ss g13
  have f28 : sb_fr A A15 s (s + 11) := f14.set e16 g13 (by simp) (by omega) (by omega)
  refine wp_st 2 (f' := (38, [some (.ref (s)), some (.int (Int32.ofNat a)), some (.int (Int32.ofNat b))], [.ref (s), .ref (s)], A15)) rfl ?_
  refine wp_gf rfl rfl g17 rfl rfl ?_
  refine wp_st 2 (f' := (43, [some (.ref (s)), some (.int (Int32.ofNat a)), some (.int (Int32.ofNat b))], [.int ((Int32.ofNat g) + (Int32.ofNat 1)), .ref (s)], A15)) rfl ?_
  rw [i32_add (g) (1)]
  obtain ⟨A29, e30⟩ : ∃ B, B = A15.set (s) (5, [.ref (s + 1), .ref (s + 2), .ref (s + 3), .ref (s + 4), .ref (s + 5), .ref (s + 6), .ref (s + 7), .ref (s + 8), .int (Int32.ofNat r), .ref (s + 9), .ref (s + 10), .int (Int32.ofNat (g + 1)), .ref (s + 11)]) := ⟨_, rfl⟩
  refine wp_pf (A' := A29) rfl rfl g17 rfl rfl (decide_eq_true (by omega)) rfl e30.symm ?_
  have g31 : A29[s]? = some (5, [.ref (s + 1), .ref (s + 2), .ref (s + 3), .ref (s + 4), .ref (s + 5), .ref (s + 6), .ref (s + 7), .ref (s + 8), .int (Int32.ofNat r), .ref (s + 9), .ref (s + 10), .int (Int32.ofNat (g + 1)), .ref (s + 11)]) := by rw [e30]; exact sb_ss g17
  have g32 : A29[s + 1]? = some (100, fi.map sb_c) := by rw [e30]; exact sb_so (by omega) g18
  have g33 : A29[s + 2]? = some (100, en.map sb_c) := by rw [e30]; exact sb_so (by omega) g19
  have g34 : A29[s + 3]? = some (100, op.map sb_c) := by rw [e30]; exact sb_so (by omega) g20
  have g35 : A29[s + 4]? = some (100, mo.map sb_c) := by rw [e30]; exact sb_so (by omega) g21
  have g36 : A29[s + 5]? = some (103, ng.map sb_z) := by rw [e30]; exact sb_so (by omega) g22
  have g37 : A29[s + 6]? = some (103, og.map sb_z) := by rw [e30]; exact sb_so (by omega) g23
  have g38 : A29[s + 7]? = some (100, fr.map sb_c) := by rw [e30]; exact sb_so (by omega) g24
  have g39 : A29[s + 8]? = some (100, re.map sb_c) := by rw [e30]; exact sb_so (by omega) g25
  have g40 : A29[s + 9]? = some (100, (lo.set g a).map sb_c) := by rw [e30]; exact sb_so (by omega) g26
  have g41 : A29[s + 10]? = some (100, (hi.set g b).map sb_c) := by rw [e30]; exact sb_so (by omega) g27
  have f42 : sb_fr A A29 s (s + 11) := f28.set e30 g17 (by simp) (by omega) (by omega)
  refine wp_st 1 (f' := (47, [some (.ref (s)), some (.int (Int32.ofNat a)), some (.int (Int32.ofNat b))], [.ref (s)], A29)) rfl ?_
  refine wp_gf rfl rfl g31 rfl rfl ?_
  refine wp_st 1 (f' := (51, [some (.ref (s)), some (.int (Int32.ofNat a)), some (.int (Int32.ofNat b))], [.ref (s), .ref (s + 8)], A29)) rfl ?_
  refine wp_gf rfl rfl g31 rfl rfl ?_
  refine wp_st 2 (f' := (56, [some (.ref (s)), some (.int (Int32.ofNat a)), some (.int (Int32.ofNat b))], [.int ((Int32.ofNat r) - (Int32.ofNat 1)), .ref (s + 8)], A29)) rfl ?_
  rw [i32_sub (a := r) (b := 1) (by omega)]
  refine wp_st 1 (f' := (57, [some (.ref (s)), some (.int (Int32.ofNat a)), some (.int (Int32.ofNat b))], [.ref (s), .int (Int32.ofNat (r - 1)), .ref (s + 8)], A29)) rfl ?_
  refine wp_gf rfl rfl g31 rfl rfl ?_
  obtain ⟨A43, e44⟩ : ∃ B, B = A29.set (s + 8) (100, (re.set (r - 1) (g + 1)).map sb_c) := ⟨_, rfl⟩
  refine wp_as (A' := A43) rfl (Or.inl ⟨rfl, rfl, rfl⟩) g39 (by omega) (by simp; omega) (decide_eq_true (by omega)) rfl (by rw [e44]; exact congrArg (fun z => List.set _ _ (_, z)) sb_sm) ?_
  have g45 : A43[s]? = some (5, [.ref (s + 1), .ref (s + 2), .ref (s + 3), .ref (s + 4), .ref (s + 5), .ref (s + 6), .ref (s + 7), .ref (s + 8), .int (Int32.ofNat r), .ref (s + 9), .ref (s + 10), .int (Int32.ofNat (g + 1)), .ref (s + 11)]) := by rw [e44]; exact sb_so (by omega) g31
  have g46 : A43[s + 1]? = some (100, fi.map sb_c) := by rw [e44]; exact sb_so (by omega) g32
  have g47 : A43[s + 2]? = some (100, en.map sb_c) := by rw [e44]; exact sb_so (by omega) g33
  have g48 : A43[s + 3]? = some (100, op.map sb_c) := by rw [e44]; exact sb_so (by omega) g34
  have g49 : A43[s + 4]? = some (100, mo.map sb_c) := by rw [e44]; exact sb_so (by omega) g35
  have g50 : A43[s + 5]? = some (103, ng.map sb_z) := by rw [e44]; exact sb_so (by omega) g36
  have g51 : A43[s + 6]? = some (103, og.map sb_z) := by rw [e44]; exact sb_so (by omega) g37
  have g52 : A43[s + 7]? = some (100, fr.map sb_c) := by rw [e44]; exact sb_so (by omega) g38
  have g53 : A43[s + 8]? = some (100, (re.set (r - 1) (g + 1)).map sb_c) := by rw [e44]; exact sb_ss g39
  have g54 : A43[s + 9]? = some (100, (lo.set g a).map sb_c) := by rw [e44]; exact sb_so (by omega) g40
  have g55 : A43[s + 10]? = some (100, (hi.set g b).map sb_c) := by rw [e44]; exact sb_so (by omega) g41
  have f56 : sb_fr A A43 s (s + 11) := f42.set e44 g39 (by simp) (by omega) (by omega)
  refine wp_rt rfl rfl rfl ?_
  exact ⟨rfl, ⟨g45, g46, g47, g48, g49, g50, g51, g52, g53, g54, g55, ⟨by simp [l1], by simp [l2]⟩, ⟨by simp [l3], by simp [l4], by simp [l5], by simp [l6], by simp [l7], by simp [l8]⟩, ⟨by simp [l9], by simp [l10]⟩, by omega, by omega, h45⟩, f56⟩
theorem rs_clear {d s r g : Nat} {fi en op mo fr re lo hi : List Nat} {ng og : List Bool} {A : am_H} (h : sb_R A s fi en op mo ng og fr re r lo hi g) : ∃ B, am_go d 65 [.ref s] A (.inl none, B) ∧ sb_R B s ([0, 0, 0, 0, 0]) ([0, 0, 0, 0, 0]) (op) (mo) (ng) (og) (fr) (re) (0) (lo) (hi) (0) ∧ sb_fr A B s (s + 11) := by
  have hh := h
  obtain ⟨q0, q1, q2, q3, q4, q5, q6, q7, q8, q9, q10, ⟨l1, l2⟩, ⟨l3, l4, l5, l6, l7, l8⟩, ⟨l9, l10⟩, hr, hg, h45⟩ := h
  unfold sb_rc at q0
  refine wp_goE ?_
  refine wp_st 2 (f' := (2, [some (.ref (s)), none], [.int (Int32.ofNat 0), .ref (s)], A)) rfl ?_
  obtain ⟨A1, e2⟩ : ∃ B, B = A.set (s) (5, [.ref (s + 1), .ref (s + 2), .ref (s + 3), .ref (s + 4), .ref (s + 5), .ref (s + 6), .ref (s + 7), .ref (s + 8), .int (Int32.ofNat 0), .ref (s + 9), .ref (s + 10), .int (Int32.ofNat g), .ref (s + 11)]) := ⟨_, rfl⟩
  refine wp_pf (A' := A1) rfl rfl q0 rfl rfl (decide_eq_true (by omega)) rfl e2.symm ?_
  have g3 : A1[s]? = some (5, [.ref (s + 1), .ref (s + 2), .ref (s + 3), .ref (s + 4), .ref (s + 5), .ref (s + 6), .ref (s + 7), .ref (s + 8), .int (Int32.ofNat 0), .ref (s + 9), .ref (s + 10), .int (Int32.ofNat g), .ref (s + 11)]) := by rw [e2]; exact sb_ss q0
  have g4 : A1[s + 1]? = some (100, fi.map sb_c) := by rw [e2]; exact sb_so (by omega) q1
  have g5 : A1[s + 2]? = some (100, en.map sb_c) := by rw [e2]; exact sb_so (by omega) q2
  have g6 : A1[s + 3]? = some (100, op.map sb_c) := by rw [e2]; exact sb_so (by omega) q3
  have g7 : A1[s + 4]? = some (100, mo.map sb_c) := by rw [e2]; exact sb_so (by omega) q4
  have g8 : A1[s + 5]? = some (103, ng.map sb_z) := by rw [e2]; exact sb_so (by omega) q5
  have g9 : A1[s + 6]? = some (103, og.map sb_z) := by rw [e2]; exact sb_so (by omega) q6
  have g10 : A1[s + 7]? = some (100, fr.map sb_c) := by rw [e2]; exact sb_so (by omega) q7
  have g11 : A1[s + 8]? = some (100, re.map sb_c) := by rw [e2]; exact sb_so (by omega) q8
  have g12 : A1[s + 9]? = some (100, lo.map sb_c) := by rw [e2]; exact sb_so (by omega) q9
  have g13 : A1[s + 10]? = some (100, hi.map sb_c) := by rw [e2]; exact sb_so (by omega) q10
  have f14 : sb_fr A A1 s (s + 11) := (sb_fr.refl A s (s + 11)).set e2 q0 (by simp) (by omega) (by omega)
  refine wp_st 2 (f' := (7, [some (.ref (s)), none], [.int (Int32.ofNat 0), .ref (s)], A1)) rfl ?_
  obtain ⟨A15, e16⟩ : ∃ B, B = A1.set (s) (5, [.ref (s + 1), .ref (s + 2), .ref (s + 3), .ref (s + 4), .ref (s + 5), .ref (s + 6), .ref (s + 7), .ref (s + 8), .int (Int32.ofNat 0), .ref (s + 9), .ref (s + 10), .int (Int32.ofNat 0), .ref (s + 11)]) := ⟨_, rfl⟩
  refine wp_pf (A' := A15) rfl rfl g3 rfl rfl (decide_eq_true (by omega)) rfl e16.symm ?_
  have g17 : A15[s]? = some (5, [.ref (s + 1), .ref (s + 2), .ref (s + 3), .ref (s + 4), .ref (s + 5), .ref (s + 6), .ref (s + 7), .ref (s + 8), .int (Int32.ofNat 0), .ref (s + 9), .ref (s + 10), .int (Int32.ofNat 0), .ref (s + 11)]) := by rw [e16]; exact sb_ss g3
  have g18 : A15[s + 1]? = some (100, fi.map sb_c) := by rw [e16]; exact sb_so (by omega) g4
  have g19 : A15[s + 2]? = some (100, en.map sb_c) := by rw [e16]; exact sb_so (by omega) g5
  have g20 : A15[s + 3]? = some (100, op.map sb_c) := by rw [e16]; exact sb_so (by omega) g6
  have g21 : A15[s + 4]? = some (100, mo.map sb_c) := by rw [e16]; exact sb_so (by omega) g7
  have g22 : A15[s + 5]? = some (103, ng.map sb_z) := by rw [e16]; exact sb_so (by omega) g8
  have g23 : A15[s + 6]? = some (103, og.map sb_z) := by rw [e16]; exact sb_so (by omega) g9
  have g24 : A15[s + 7]? = some (100, fr.map sb_c) := by rw [e16]; exact sb_so (by omega) g10
  have g25 : A15[s + 8]? = some (100, re.map sb_c) := by rw [e16]; exact sb_so (by omega) g11
  have g26 : A15[s + 9]? = some (100, lo.map sb_c) := by rw [e16]; exact sb_so (by omega) g12
  have g27 : A15[s + 10]? = some (100, hi.map sb_c) := by rw [e16]; exact sb_so (by omega) g13
  have f28 : sb_fr A A15 s (s + 11) := f14.set e16 g3 (by simp) (by omega) (by omega)
  refine wp_st 4 (f' := (14, [some (.ref (s)), some (.int (Int32.ofNat 0))], [.int (Int32.ofNat 5), .int (Int32.ofNat 0)], A15)) rfl ?_
  refine wp_ifF rfl rfl (fun q => absurd ((i32_le (a := 5) (b := 0) (by omega) (by omega)).mp q) (by omega)) ?_
  refine wp_st 1 (f' := (18, [some (.ref (s)), some (.int (Int32.ofNat 0))], [.ref (s)], A15)) rfl ?_
  refine wp_gf rfl rfl g17 rfl rfl ?_
  refine wp_st 2 (f' := (23, [some (.ref (s)), some (.int (Int32.ofNat 0))], [.int (Int32.ofNat 0), .int (Int32.ofNat 0), .ref (s + 1)], A15)) rfl ?_
  obtain ⟨A29, e30⟩ : ∃ B, B = A15.set (s + 1) (100, (fi.set 0 0).map sb_c) := ⟨_, rfl⟩
  refine wp_as (A' := A29) rfl (Or.inl ⟨rfl, rfl, rfl⟩) g18 (by omega) (by simp; omega) (decide_eq_true (by omega)) rfl (by rw [e30]; exact congrArg (fun z => List.set _ _ (_, z)) sb_sm) ?_
  have g31 : A29[s]? = some (5, [.ref (s + 1), .ref (s + 2), .ref (s + 3), .ref (s + 4), .ref (s + 5), .ref (s + 6), .ref (s + 7), .ref (s + 8), .int (Int32.ofNat 0), .ref (s + 9), .ref (s + 10), .int (Int32.ofNat 0), .ref (s + 11)]) := by rw [e30]; exact sb_so (by omega) g17
  have g32 : A29[s + 1]? = some (100, (fi.set 0 0).map sb_c) := by rw [e30]; exact sb_ss g18
  have g33 : A29[s + 2]? = some (100, en.map sb_c) := by rw [e30]; exact sb_so (by omega) g19
  have g34 : A29[s + 3]? = some (100, op.map sb_c) := by rw [e30]; exact sb_so (by omega) g20
  have g35 : A29[s + 4]? = some (100, mo.map sb_c) := by rw [e30]; exact sb_so (by omega) g21
  have g36 : A29[s + 5]? = some (103, ng.map sb_z) := by rw [e30]; exact sb_so (by omega) g22
  have g37 : A29[s + 6]? = some (103, og.map sb_z) := by rw [e30]; exact sb_so (by omega) g23
  have g38 : A29[s + 7]? = some (100, fr.map sb_c) := by rw [e30]; exact sb_so (by omega) g24
  have g39 : A29[s + 8]? = some (100, re.map sb_c) := by rw [e30]; exact sb_so (by omega) g25
  have g40 : A29[s + 9]? = some (100, lo.map sb_c) := by rw [e30]; exact sb_so (by omega) g26
  have g41 : A29[s + 10]? = some (100, hi.map sb_c) := by rw [e30]; exact sb_so (by omega) g27
  have f42 : sb_fr A A29 s (s + 11) := f28.set e30 g18 (by simp) (by omega) (by omega)
  refine wp_st 1 (f' := (25, [some (.ref (s)), some (.int (Int32.ofNat 0))], [.ref (s)], A29)) rfl ?_
  refine wp_gf rfl rfl g31 rfl rfl ?_
  refine wp_st 2 (f' := (30, [some (.ref (s)), some (.int (Int32.ofNat 0))], [.int (Int32.ofNat 0), .int (Int32.ofNat 0), .ref (s + 2)], A29)) rfl ?_
  obtain ⟨A43, e44⟩ : ∃ B, B = A29.set (s + 2) (100, (en.set 0 0).map sb_c) := ⟨_, rfl⟩
  refine wp_as (A' := A43) rfl (Or.inl ⟨rfl, rfl, rfl⟩) g33 (by omega) (by simp; omega) (decide_eq_true (by omega)) rfl (by rw [e44]; exact congrArg (fun z => List.set _ _ (_, z)) sb_sm) ?_
  have g45 : A43[s]? = some (5, [.ref (s + 1), .ref (s + 2), .ref (s + 3), .ref (s + 4), .ref (s + 5), .ref (s + 6), .ref (s + 7), .ref (s + 8), .int (Int32.ofNat 0), .ref (s + 9), .ref (s + 10), .int (Int32.ofNat 0), .ref (s + 11)]) := by rw [e44]; exact sb_so (by omega) g31
  have g46 : A43[s + 1]? = some (100, (fi.set 0 0).map sb_c) := by rw [e44]; exact sb_so (by omega) g32
  have g47 : A43[s + 2]? = some (100, (en.set 0 0).map sb_c) := by rw [e44]; exact sb_ss g33
  have g48 : A43[s + 3]? = some (100, op.map sb_c) := by rw [e44]; exact sb_so (by omega) g34
  have g49 : A43[s + 4]? = some (100, mo.map sb_c) := by rw [e44]; exact sb_so (by omega) g35
  have g50 : A43[s + 5]? = some (103, ng.map sb_z) := by rw [e44]; exact sb_so (by omega) g36
  have g51 : A43[s + 6]? = some (103, og.map sb_z) := by rw [e44]; exact sb_so (by omega) g37
  have g52 : A43[s + 7]? = some (100, fr.map sb_c) := by rw [e44]; exact sb_so (by omega) g38
  have g53 : A43[s + 8]? = some (100, re.map sb_c) := by rw [e44]; exact sb_so (by omega) g39
  have g54 : A43[s + 9]? = some (100, lo.map sb_c) := by rw [e44]; exact sb_so (by omega) g40
  have g55 : A43[s + 10]? = some (100, hi.map sb_c) := by rw [e44]; exact sb_so (by omega) g41
  have f56 : sb_fr A A43 s (s + 11) := f42.set e44 g33 (by simp) (by omega) (by omega)
  refine wp_st 1 (f' := (34, [some (.ref (s)), some (.int ((Int32.ofNat 0) + (Int32.ofNat 1)))], [], A43)) rfl ?_
  rw [i32_add (0) (1)]
  refine wp_st 3 (f' := (14, [some (.ref (s)), some (.int (Int32.ofNat (0 + 1)))], [.int (Int32.ofNat 5), .int (Int32.ofNat (0 + 1))], A43)) rfl ?_
  refine wp_ifF rfl rfl (fun q => absurd ((i32_le (a := 5) (b := 0 + 1) (by omega) (by omega)).mp q) (by omega)) ?_
  refine wp_st 1 (f' := (18, [some (.ref (s)), some (.int (Int32.ofNat (0 + 1)))], [.ref (s)], A43)) rfl ?_
  refine wp_gf rfl rfl g45 rfl rfl ?_
  refine wp_st 2 (f' := (23, [some (.ref (s)), some (.int (Int32.ofNat (0 + 1)))], [.int (Int32.ofNat 0), .int (Int32.ofNat (0 + 1)), .ref (s + 1)], A43)) rfl ?_
  obtain ⟨A57, e58⟩ : ∃ B, B = A43.set (s + 1) (100, ((fi.set 0 0).set (0 + 1) 0).map sb_c) := ⟨_, rfl⟩
  refine wp_as (A' := A57) rfl (Or.inl ⟨rfl, rfl, rfl⟩) g46 (by omega) (by simp; omega) (decide_eq_true (by omega)) rfl (by rw [e58]; exact congrArg (fun z => List.set _ _ (_, z)) sb_sm) ?_
  have g59 : A57[s]? = some (5, [.ref (s + 1), .ref (s + 2), .ref (s + 3), .ref (s + 4), .ref (s + 5), .ref (s + 6), .ref (s + 7), .ref (s + 8), .int (Int32.ofNat 0), .ref (s + 9), .ref (s + 10), .int (Int32.ofNat 0), .ref (s + 11)]) := by rw [e58]; exact sb_so (by omega) g45
  have g60 : A57[s + 1]? = some (100, ((fi.set 0 0).set (0 + 1) 0).map sb_c) := by rw [e58]; exact sb_ss g46
  have g61 : A57[s + 2]? = some (100, (en.set 0 0).map sb_c) := by rw [e58]; exact sb_so (by omega) g47
  have g62 : A57[s + 3]? = some (100, op.map sb_c) := by rw [e58]; exact sb_so (by omega) g48
  have g63 : A57[s + 4]? = some (100, mo.map sb_c) := by rw [e58]; exact sb_so (by omega) g49
  have g64 : A57[s + 5]? = some (103, ng.map sb_z) := by rw [e58]; exact sb_so (by omega) g50
  have g65 : A57[s + 6]? = some (103, og.map sb_z) := by rw [e58]; exact sb_so (by omega) g51
  have g66 : A57[s + 7]? = some (100, fr.map sb_c) := by rw [e58]; exact sb_so (by omega) g52
  have g67 : A57[s + 8]? = some (100, re.map sb_c) := by rw [e58]; exact sb_so (by omega) g53
  have g68 : A57[s + 9]? = some (100, lo.map sb_c) := by rw [e58]; exact sb_so (by omega) g54
  have g69 : A57[s + 10]? = some (100, hi.map sb_c) := by rw [e58]; exact sb_so (by omega) g55
  have f70 : sb_fr A A57 s (s + 11) := f56.set e58 g46 (by simp) (by omega) (by omega)
  refine wp_st 1 (f' := (25, [some (.ref (s)), some (.int (Int32.ofNat (0 + 1)))], [.ref (s)], A57)) rfl ?_
  refine wp_gf rfl rfl g59 rfl rfl ?_
  refine wp_st 2 (f' := (30, [some (.ref (s)), some (.int (Int32.ofNat (0 + 1)))], [.int (Int32.ofNat 0), .int (Int32.ofNat (0 + 1)), .ref (s + 2)], A57)) rfl ?_
  obtain ⟨A71, e72⟩ : ∃ B, B = A57.set (s + 2) (100, ((en.set 0 0).set (0 + 1) 0).map sb_c) := ⟨_, rfl⟩
  refine wp_as (A' := A71) rfl (Or.inl ⟨rfl, rfl, rfl⟩) g61 (by omega) (by simp; omega) (decide_eq_true (by omega)) rfl (by rw [e72]; exact congrArg (fun z => List.set _ _ (_, z)) sb_sm) ?_
  have g73 : A71[s]? = some (5, [.ref (s + 1), .ref (s + 2), .ref (s + 3), .ref (s + 4), .ref (s + 5), .ref (s + 6), .ref (s + 7), .ref (s + 8), .int (Int32.ofNat 0), .ref (s + 9), .ref (s + 10), .int (Int32.ofNat 0), .ref (s + 11)]) := by rw [e72]; exact sb_so (by omega) g59
  have g74 : A71[s + 1]? = some (100, ((fi.set 0 0).set (0 + 1) 0).map sb_c) := by rw [e72]; exact sb_so (by omega) g60
  have g75 : A71[s + 2]? = some (100, ((en.set 0 0).set (0 + 1) 0).map sb_c) := by rw [e72]; exact sb_ss g61
  have g76 : A71[s + 3]? = some (100, op.map sb_c) := by rw [e72]; exact sb_so (by omega) g62
  have g77 : A71[s + 4]? = some (100, mo.map sb_c) := by rw [e72]; exact sb_so (by omega) g63
  have g78 : A71[s + 5]? = some (103, ng.map sb_z) := by rw [e72]; exact sb_so (by omega) g64
  have g79 : A71[s + 6]? = some (103, og.map sb_z) := by rw [e72]; exact sb_so (by omega) g65
  have g80 : A71[s + 7]? = some (100, fr.map sb_c) := by rw [e72]; exact sb_so (by omega) g66
  have g81 : A71[s + 8]? = some (100, re.map sb_c) := by rw [e72]; exact sb_so (by omega) g67
  have g82 : A71[s + 9]? = some (100, lo.map sb_c) := by rw [e72]; exact sb_so (by omega) g68
  have g83 : A71[s + 10]? = some (100, hi.map sb_c) := by rw [e72]; exact sb_so (by omega) g69
  have f84 : sb_fr A A71 s (s + 11) := f70.set e72 g61 (by simp) (by omega) (by omega)
  refine wp_st 1 (f' := (34, [some (.ref (s)), some (.int ((Int32.ofNat (0 + 1)) + (Int32.ofNat 1)))], [], A71)) rfl ?_
  rw [i32_add (0 + 1) (1)]
  refine wp_st 3 (f' := (14, [some (.ref (s)), some (.int (Int32.ofNat (0 + 1 + 1)))], [.int (Int32.ofNat 5), .int (Int32.ofNat (0 + 1 + 1))], A71)) rfl ?_
  refine wp_ifF rfl rfl (fun q => absurd ((i32_le (a := 5) (b := 0 + 1 + 1) (by omega) (by omega)).mp q) (by omega)) ?_
  refine wp_st 1 (f' := (18, [some (.ref (s)), some (.int (Int32.ofNat (0 + 1 + 1)))], [.ref (s)], A71)) rfl ?_
  refine wp_gf rfl rfl g73 rfl rfl ?_
  refine wp_st 2 (f' := (23, [some (.ref (s)), some (.int (Int32.ofNat (0 + 1 + 1)))], [.int (Int32.ofNat 0), .int (Int32.ofNat (0 + 1 + 1)), .ref (s + 1)], A71)) rfl ?_
  obtain ⟨A85, e86⟩ : ∃ B, B = A71.set (s + 1) (100, (((fi.set 0 0).set (0 + 1) 0).set (0 + 1 + 1) 0).map sb_c) := ⟨_, rfl⟩
  refine wp_as (A' := A85) rfl (Or.inl ⟨rfl, rfl, rfl⟩) g74 (by omega) (by simp; omega) (decide_eq_true (by omega)) rfl (by rw [e86]; exact congrArg (fun z => List.set _ _ (_, z)) sb_sm) ?_
  have g87 : A85[s]? = some (5, [.ref (s + 1), .ref (s + 2), .ref (s + 3), .ref (s + 4), .ref (s + 5), .ref (s + 6), .ref (s + 7), .ref (s + 8), .int (Int32.ofNat 0), .ref (s + 9), .ref (s + 10), .int (Int32.ofNat 0), .ref (s + 11)]) := by rw [e86]; exact sb_so (by omega) g73
  have g88 : A85[s + 1]? = some (100, (((fi.set 0 0).set (0 + 1) 0).set (0 + 1 + 1) 0).map sb_c) := by rw [e86]; exact sb_ss g74
  have g89 : A85[s + 2]? = some (100, ((en.set 0 0).set (0 + 1) 0).map sb_c) := by rw [e86]; exact sb_so (by omega) g75
  have g90 : A85[s + 3]? = some (100, op.map sb_c) := by rw [e86]; exact sb_so (by omega) g76
  have g91 : A85[s + 4]? = some (100, mo.map sb_c) := by rw [e86]; exact sb_so (by omega) g77
  have g92 : A85[s + 5]? = some (103, ng.map sb_z) := by rw [e86]; exact sb_so (by omega) g78
  have g93 : A85[s + 6]? = some (103, og.map sb_z) := by rw [e86]; exact sb_so (by omega) g79
  have g94 : A85[s + 7]? = some (100, fr.map sb_c) := by rw [e86]; exact sb_so (by omega) g80
  have g95 : A85[s + 8]? = some (100, re.map sb_c) := by rw [e86]; exact sb_so (by omega) g81
  have g96 : A85[s + 9]? = some (100, lo.map sb_c) := by rw [e86]; exact sb_so (by omega) g82
  have g97 : A85[s + 10]? = some (100, hi.map sb_c) := by rw [e86]; exact sb_so (by omega) g83
  have f98 : sb_fr A A85 s (s + 11) := f84.set e86 g74 (by simp) (by omega) (by omega)
  refine wp_st 1 (f' := (25, [some (.ref (s)), some (.int (Int32.ofNat (0 + 1 + 1)))], [.ref (s)], A85)) rfl ?_
  refine wp_gf rfl rfl g87 rfl rfl ?_
  refine wp_st 2 (f' := (30, [some (.ref (s)), some (.int (Int32.ofNat (0 + 1 + 1)))], [.int (Int32.ofNat 0), .int (Int32.ofNat (0 + 1 + 1)), .ref (s + 2)], A85)) rfl ?_
  obtain ⟨A99, e100⟩ : ∃ B, B = A85.set (s + 2) (100, (((en.set 0 0).set (0 + 1) 0).set (0 + 1 + 1) 0).map sb_c) := ⟨_, rfl⟩
  refine wp_as (A' := A99) rfl (Or.inl ⟨rfl, rfl, rfl⟩) g89 (by omega) (by simp; omega) (decide_eq_true (by omega)) rfl (by rw [e100]; exact congrArg (fun z => List.set _ _ (_, z)) sb_sm) ?_
  have g101 : A99[s]? = some (5, [.ref (s + 1), .ref (s + 2), .ref (s + 3), .ref (s + 4), .ref (s + 5), .ref (s + 6), .ref (s + 7), .ref (s + 8), .int (Int32.ofNat 0), .ref (s + 9), .ref (s + 10), .int (Int32.ofNat 0), .ref (s + 11)]) := by rw [e100]; exact sb_so (by omega) g87
  have g102 : A99[s + 1]? = some (100, (((fi.set 0 0).set (0 + 1) 0).set (0 + 1 + 1) 0).map sb_c) := by rw [e100]; exact sb_so (by omega) g88
  have g103 : A99[s + 2]? = some (100, (((en.set 0 0).set (0 + 1) 0).set (0 + 1 + 1) 0).map sb_c) := by rw [e100]; exact sb_ss g89
  have g104 : A99[s + 3]? = some (100, op.map sb_c) := by rw [e100]; exact sb_so (by omega) g90
  have g105 : A99[s + 4]? = some (100, mo.map sb_c) := by rw [e100]; exact sb_so (by omega) g91
  have g106 : A99[s + 5]? = some (103, ng.map sb_z) := by rw [e100]; exact sb_so (by omega) g92
  have g107 : A99[s + 6]? = some (103, og.map sb_z) := by rw [e100]; exact sb_so (by omega) g93
  have g108 : A99[s + 7]? = some (100, fr.map sb_c) := by rw [e100]; exact sb_so (by omega) g94
  have g109 : A99[s + 8]? = some (100, re.map sb_c) := by rw [e100]; exact sb_so (by omega) g95
  have g110 : A99[s + 9]? = some (100, lo.map sb_c) := by rw [e100]; exact sb_so (by omega) g96
  have g111 : A99[s + 10]? = some (100, hi.map sb_c) := by rw [e100]; exact sb_so (by omega) g97
  have f112 : sb_fr A A99 s (s + 11) := f98.set e100 g89 (by simp) (by omega) (by omega)
  refine wp_st 1 (f' := (34, [some (.ref (s)), some (.int ((Int32.ofNat (0 + 1 + 1)) + (Int32.ofNat 1)))], [], A99)) rfl ?_
  rw [i32_add (0 + 1 + 1) (1)]
  refine wp_st 3 (f' := (14, [some (.ref (s)), some (.int (Int32.ofNat (0 + 1 + 1 + 1)))], [.int (Int32.ofNat 5), .int (Int32.ofNat (0 + 1 + 1 + 1))], A99)) rfl ?_
  refine wp_ifF rfl rfl (fun q => absurd ((i32_le (a := 5) (b := 0 + 1 + 1 + 1) (by omega) (by omega)).mp q) (by omega)) ?_
  refine wp_st 1 (f' := (18, [some (.ref (s)), some (.int (Int32.ofNat (0 + 1 + 1 + 1)))], [.ref (s)], A99)) rfl ?_
  refine wp_gf rfl rfl g101 rfl rfl ?_
  refine wp_st 2 (f' := (23, [some (.ref (s)), some (.int (Int32.ofNat (0 + 1 + 1 + 1)))], [.int (Int32.ofNat 0), .int (Int32.ofNat (0 + 1 + 1 + 1)), .ref (s + 1)], A99)) rfl ?_
  obtain ⟨A113, e114⟩ : ∃ B, B = A99.set (s + 1) (100, ((((fi.set 0 0).set (0 + 1) 0).set (0 + 1 + 1) 0).set (0 + 1 + 1 + 1) 0).map sb_c) := ⟨_, rfl⟩
  refine wp_as (A' := A113) rfl (Or.inl ⟨rfl, rfl, rfl⟩) g102 (by omega) (by simp; omega) (decide_eq_true (by omega)) rfl (by rw [e114]; exact congrArg (fun z => List.set _ _ (_, z)) sb_sm) ?_
  have g115 : A113[s]? = some (5, [.ref (s + 1), .ref (s + 2), .ref (s + 3), .ref (s + 4), .ref (s + 5), .ref (s + 6), .ref (s + 7), .ref (s + 8), .int (Int32.ofNat 0), .ref (s + 9), .ref (s + 10), .int (Int32.ofNat 0), .ref (s + 11)]) := by rw [e114]; exact sb_so (by omega) g101
  have g116 : A113[s + 1]? = some (100, ((((fi.set 0 0).set (0 + 1) 0).set (0 + 1 + 1) 0).set (0 + 1 + 1 + 1) 0).map sb_c) := by rw [e114]; exact sb_ss g102
  have g117 : A113[s + 2]? = some (100, (((en.set 0 0).set (0 + 1) 0).set (0 + 1 + 1) 0).map sb_c) := by rw [e114]; exact sb_so (by omega) g103
  have g118 : A113[s + 3]? = some (100, op.map sb_c) := by rw [e114]; exact sb_so (by omega) g104
  have g119 : A113[s + 4]? = some (100, mo.map sb_c) := by rw [e114]; exact sb_so (by omega) g105
  have g120 : A113[s + 5]? = some (103, ng.map sb_z) := by rw [e114]; exact sb_so (by omega) g106
  have g121 : A113[s + 6]? = some (103, og.map sb_z) := by rw [e114]; exact sb_so (by omega) g107
  have g122 : A113[s + 7]? = some (100, fr.map sb_c) := by rw [e114]; exact sb_so (by omega) g108
  have g123 : A113[s + 8]? = some (100, re.map sb_c) := by rw [e114]; exact sb_so (by omega) g109
  have g124 : A113[s + 9]? = some (100, lo.map sb_c) := by rw [e114]; exact sb_so (by omega) g110
  have g125 : A113[s + 10]? = some (100, hi.map sb_c) := by rw [e114]; exact sb_so (by omega) g111
  have f126 : sb_fr A A113 s (s + 11) := f112.set e114 g102 (by simp) (by omega) (by omega)
  refine wp_st 1 (f' := (25, [some (.ref (s)), some (.int (Int32.ofNat (0 + 1 + 1 + 1)))], [.ref (s)], A113)) rfl ?_
  refine wp_gf rfl rfl g115 rfl rfl ?_
  refine wp_st 2 (f' := (30, [some (.ref (s)), some (.int (Int32.ofNat (0 + 1 + 1 + 1)))], [.int (Int32.ofNat 0), .int (Int32.ofNat (0 + 1 + 1 + 1)), .ref (s + 2)], A113)) rfl ?_
  obtain ⟨A127, e128⟩ : ∃ B, B = A113.set (s + 2) (100, ((((en.set 0 0).set (0 + 1) 0).set (0 + 1 + 1) 0).set (0 + 1 + 1 + 1) 0).map sb_c) := ⟨_, rfl⟩
  refine wp_as (A' := A127) rfl (Or.inl ⟨rfl, rfl, rfl⟩) g117 (by omega) (by simp; omega) (decide_eq_true (by omega)) rfl (by rw [e128]; exact congrArg (fun z => List.set _ _ (_, z)) sb_sm) ?_
  have g129 : A127[s]? = some (5, [.ref (s + 1), .ref (s + 2), .ref (s + 3), .ref (s + 4), .ref (s + 5), .ref (s + 6), .ref (s + 7), .ref (s + 8), .int (Int32.ofNat 0), .ref (s + 9), .ref (s + 10), .int (Int32.ofNat 0), .ref (s + 11)]) := by rw [e128]; exact sb_so (by omega) g115
  have g130 : A127[s + 1]? = some (100, ((((fi.set 0 0).set (0 + 1) 0).set (0 + 1 + 1) 0).set (0 + 1 + 1 + 1) 0).map sb_c) := by rw [e128]; exact sb_so (by omega) g116
  have g131 : A127[s + 2]? = some (100, ((((en.set 0 0).set (0 + 1) 0).set (0 + 1 + 1) 0).set (0 + 1 + 1 + 1) 0).map sb_c) := by rw [e128]; exact sb_ss g117
  have g132 : A127[s + 3]? = some (100, op.map sb_c) := by rw [e128]; exact sb_so (by omega) g118
  have g133 : A127[s + 4]? = some (100, mo.map sb_c) := by rw [e128]; exact sb_so (by omega) g119
  have g134 : A127[s + 5]? = some (103, ng.map sb_z) := by rw [e128]; exact sb_so (by omega) g120
  have g135 : A127[s + 6]? = some (103, og.map sb_z) := by rw [e128]; exact sb_so (by omega) g121
  have g136 : A127[s + 7]? = some (100, fr.map sb_c) := by rw [e128]; exact sb_so (by omega) g122
  have g137 : A127[s + 8]? = some (100, re.map sb_c) := by rw [e128]; exact sb_so (by omega) g123
  have g138 : A127[s + 9]? = some (100, lo.map sb_c) := by rw [e128]; exact sb_so (by omega) g124
  have g139 : A127[s + 10]? = some (100, hi.map sb_c) := by rw [e128]; exact sb_so (by omega) g125
  have f140 : sb_fr A A127 s (s + 11) := f126.set e128 g117 (by simp) (by omega) (by omega)
  refine wp_st 1 (f' := (34, [some (.ref (s)), some (.int ((Int32.ofNat (0 + 1 + 1 + 1)) + (Int32.ofNat 1)))], [], A127)) rfl ?_
  rw [i32_add (0 + 1 + 1 + 1) (1)]
  refine wp_st 3 (f' := (14, [some (.ref (s)), some (.int (Int32.ofNat (0 + 1 + 1 + 1 + 1)))], [.int (Int32.ofNat 5), .int (Int32.ofNat (0 + 1 + 1 + 1 + 1))], A127)) rfl ?_
  refine wp_ifF rfl rfl (fun q => absurd ((i32_le (a := 5) (b := 0 + 1 + 1 + 1 + 1) (by omega) (by omega)).mp q) (by omega)) ?_
  refine wp_st 1 (f' := (18, [some (.ref (s)), some (.int (Int32.ofNat (0 + 1 + 1 + 1 + 1)))], [.ref (s)], A127)) rfl ?_
  refine wp_gf rfl rfl g129 rfl rfl ?_
  refine wp_st 2 (f' := (23, [some (.ref (s)), some (.int (Int32.ofNat (0 + 1 + 1 + 1 + 1)))], [.int (Int32.ofNat 0), .int (Int32.ofNat (0 + 1 + 1 + 1 + 1)), .ref (s + 1)], A127)) rfl ?_
  obtain ⟨A141, e142⟩ : ∃ B, B = A127.set (s + 1) (100, (((((fi.set 0 0).set (0 + 1) 0).set (0 + 1 + 1) 0).set (0 + 1 + 1 + 1) 0).set (0 + 1 + 1 + 1 + 1) 0).map sb_c) := ⟨_, rfl⟩
  refine wp_as (A' := A141) rfl (Or.inl ⟨rfl, rfl, rfl⟩) g130 (by omega) (by simp; omega) (decide_eq_true (by omega)) rfl (by rw [e142]; exact congrArg (fun z => List.set _ _ (_, z)) sb_sm) ?_
  have g143 : A141[s]? = some (5, [.ref (s + 1), .ref (s + 2), .ref (s + 3), .ref (s + 4), .ref (s + 5), .ref (s + 6), .ref (s + 7), .ref (s + 8), .int (Int32.ofNat 0), .ref (s + 9), .ref (s + 10), .int (Int32.ofNat 0), .ref (s + 11)]) := by rw [e142]; exact sb_so (by omega) g129
  have g144 : A141[s + 1]? = some (100, (((((fi.set 0 0).set (0 + 1) 0).set (0 + 1 + 1) 0).set (0 + 1 + 1 + 1) 0).set (0 + 1 + 1 + 1 + 1) 0).map sb_c) := by rw [e142]; exact sb_ss g130
  have g145 : A141[s + 2]? = some (100, ((((en.set 0 0).set (0 + 1) 0).set (0 + 1 + 1) 0).set (0 + 1 + 1 + 1) 0).map sb_c) := by rw [e142]; exact sb_so (by omega) g131
  have g146 : A141[s + 3]? = some (100, op.map sb_c) := by rw [e142]; exact sb_so (by omega) g132
  have g147 : A141[s + 4]? = some (100, mo.map sb_c) := by rw [e142]; exact sb_so (by omega) g133
  have g148 : A141[s + 5]? = some (103, ng.map sb_z) := by rw [e142]; exact sb_so (by omega) g134
  have g149 : A141[s + 6]? = some (103, og.map sb_z) := by rw [e142]; exact sb_so (by omega) g135
  have g150 : A141[s + 7]? = some (100, fr.map sb_c) := by rw [e142]; exact sb_so (by omega) g136
  have g151 : A141[s + 8]? = some (100, re.map sb_c) := by rw [e142]; exact sb_so (by omega) g137
  have g152 : A141[s + 9]? = some (100, lo.map sb_c) := by rw [e142]; exact sb_so (by omega) g138
  have g153 : A141[s + 10]? = some (100, hi.map sb_c) := by rw [e142]; exact sb_so (by omega) g139
  have f154 : sb_fr A A141 s (s + 11) := f140.set e142 g130 (by simp) (by omega) (by omega)
  refine wp_st 1 (f' := (25, [some (.ref (s)), some (.int (Int32.ofNat (0 + 1 + 1 + 1 + 1)))], [.ref (s)], A141)) rfl ?_
  refine wp_gf rfl rfl g143 rfl rfl ?_
  refine wp_st 2 (f' := (30, [some (.ref (s)), some (.int (Int32.ofNat (0 + 1 + 1 + 1 + 1)))], [.int (Int32.ofNat 0), .int (Int32.ofNat (0 + 1 + 1 + 1 + 1)), .ref (s + 2)], A141)) rfl ?_
  obtain ⟨A155, e156⟩ : ∃ B, B = A141.set (s + 2) (100, (((((en.set 0 0).set (0 + 1) 0).set (0 + 1 + 1) 0).set (0 + 1 + 1 + 1) 0).set (0 + 1 + 1 + 1 + 1) 0).map sb_c) := ⟨_, rfl⟩
  refine wp_as (A' := A155) rfl (Or.inl ⟨rfl, rfl, rfl⟩) g145 (by omega) (by simp; omega) (decide_eq_true (by omega)) rfl (by rw [e156]; exact congrArg (fun z => List.set _ _ (_, z)) sb_sm) ?_
  have g157 : A155[s]? = some (5, [.ref (s + 1), .ref (s + 2), .ref (s + 3), .ref (s + 4), .ref (s + 5), .ref (s + 6), .ref (s + 7), .ref (s + 8), .int (Int32.ofNat 0), .ref (s + 9), .ref (s + 10), .int (Int32.ofNat 0), .ref (s + 11)]) := by rw [e156]; exact sb_so (by omega) g143
  have g158 : A155[s + 1]? = some (100, (((((fi.set 0 0).set (0 + 1) 0).set (0 + 1 + 1) 0).set (0 + 1 + 1 + 1) 0).set (0 + 1 + 1 + 1 + 1) 0).map sb_c) := by rw [e156]; exact sb_so (by omega) g144
  have g159 : A155[s + 2]? = some (100, (((((en.set 0 0).set (0 + 1) 0).set (0 + 1 + 1) 0).set (0 + 1 + 1 + 1) 0).set (0 + 1 + 1 + 1 + 1) 0).map sb_c) := by rw [e156]; exact sb_ss g145
  have g160 : A155[s + 3]? = some (100, op.map sb_c) := by rw [e156]; exact sb_so (by omega) g146
  have g161 : A155[s + 4]? = some (100, mo.map sb_c) := by rw [e156]; exact sb_so (by omega) g147
  have g162 : A155[s + 5]? = some (103, ng.map sb_z) := by rw [e156]; exact sb_so (by omega) g148
  have g163 : A155[s + 6]? = some (103, og.map sb_z) := by rw [e156]; exact sb_so (by omega) g149
  have g164 : A155[s + 7]? = some (100, fr.map sb_c) := by rw [e156]; exact sb_so (by omega) g150
  have g165 : A155[s + 8]? = some (100, re.map sb_c) := by rw [e156]; exact sb_so (by omega) g151
  have g166 : A155[s + 9]? = some (100, lo.map sb_c) := by rw [e156]; exact sb_so (by omega) g152
  have g167 : A155[s + 10]? = some (100, hi.map sb_c) := by rw [e156]; exact sb_so (by omega) g153
  have f168 : sb_fr A A155 s (s + 11) := f154.set e156 g145 (by simp) (by omega) (by omega)
  refine wp_st 1 (f' := (34, [some (.ref (s)), some (.int ((Int32.ofNat (0 + 1 + 1 + 1 + 1)) + (Int32.ofNat 1)))], [], A155)) rfl ?_
  rw [i32_add (0 + 1 + 1 + 1 + 1) (1)]
  refine wp_st 3 (f' := (14, [some (.ref (s)), some (.int (Int32.ofNat (0 + 1 + 1 + 1 + 1 + 1)))], [.int (Int32.ofNat 5), .int (Int32.ofNat (0 + 1 + 1 + 1 + 1 + 1))], A155)) rfl ?_
  refine wp_ifT rfl rfl ((i32_le (a := 5) (b := 0 + 1 + 1 + 1 + 1 + 1) (by omega) (by omega)).mpr (by omega)) ?_
  refine wp_rt rfl rfl rfl ?_
  rw [sb_five l1] at g158
  rw [sb_five l2] at g159
  exact ⟨rfl, ⟨g157, g158, g159, g160, g161, g162, g163, g164, g165, g166, g167, ⟨rfl, rfl⟩, ⟨by simp [l3], by simp [l4], by simp [l5], by simp [l6], by simp [l7], by simp [l8]⟩, ⟨by simp [l9], by simp [l10]⟩, by omega, by omega, h45⟩, f168⟩
