/-! Message's methods. -/
theorem ms_clear {d m p b : Nat} {ks os ns ow st en : List Nat} {ct : List Int32} {se : List Int64} {z : Bool} {A : am_H} (h : sb_M A m ks ct os ns p ow se st en b z) : ∃ B, am_go d 27 [.ref m] A (.inl none, B) ∧ sb_M B m (ks) (ct) (os) (ns) (0) (ow) (se) (st) (en) (0) z ∧ sb_fr A B m (m + 9) := by
  have hh := h
  obtain ⟨q0, q1, q2, q3, q4, q5, q6, q7, q8, ⟨l1, l2, l3, l4⟩, ⟨l5, l6, l7, l8⟩, hp, hb, h45⟩ := h
  unfold sb_mc at q0
  refine wp_goE ?_
  refine wp_st 2 (f' := (2, [some (.ref (m))], [.int (Int32.ofNat 0), .ref (m)], A)) rfl ?_
  obtain ⟨A1, e2⟩ : ∃ B, B = A.set (m) (4, [.ref (m + 1), .ref (m + 2), .ref (m + 3), .ref (m + 4), .int (Int32.ofNat 0), .ref (m + 5), .ref (m + 6), .ref (m + 7), .ref (m + 8), .int (Int32.ofNat b), .int (sb_i z)]) := ⟨_, rfl⟩
  refine wp_pf (A' := A1) rfl rfl q0 rfl rfl (decide_eq_true (by omega)) rfl e2.symm ?_
  have g3 : A1[m]? = some (4, [.ref (m + 1), .ref (m + 2), .ref (m + 3), .ref (m + 4), .int (Int32.ofNat 0), .ref (m + 5), .ref (m + 6), .ref (m + 7), .ref (m + 8), .int (Int32.ofNat b), .int (sb_i z)]) := by rw [e2]; exact sb_ss q0
  have g4 : A1[m + 1]? = some (100, ks.map sb_c) := by rw [e2]; exact sb_so (by omega) q1
  have g5 : A1[m + 2]? = some (100, ct.map Value.int) := by rw [e2]; exact sb_so (by omega) q2
  have g6 : A1[m + 3]? = some (100, os.map sb_c) := by rw [e2]; exact sb_so (by omega) q3
  have g7 : A1[m + 4]? = some (100, ns.map sb_c) := by rw [e2]; exact sb_so (by omega) q4
  have g8 : A1[m + 5]? = some (100, ow.map sb_c) := by rw [e2]; exact sb_so (by omega) q5
  have g9 : A1[m + 6]? = some (101, se.map Value.long) := by rw [e2]; exact sb_so (by omega) q6
  have g10 : A1[m + 7]? = some (100, st.map sb_c) := by rw [e2]; exact sb_so (by omega) q7
  have g11 : A1[m + 8]? = some (100, en.map sb_c) := by rw [e2]; exact sb_so (by omega) q8
  have f12 : sb_fr A A1 m (m + 9) := (sb_fr.refl A m (m + 9)).set e2 q0 (by simp) (by omega) (by omega)
  refine wp_st 2 (f' := (7, [some (.ref (m))], [.int (Int32.ofNat 0), .ref (m)], A1)) rfl ?_
  obtain ⟨A13, e14⟩ : ∃ B, B = A1.set (m) (4, [.ref (m + 1), .ref (m + 2), .ref (m + 3), .ref (m + 4), .int (Int32.ofNat 0), .ref (m + 5), .ref (m + 6), .ref (m + 7), .ref (m + 8), .int (Int32.ofNat 0), .int (sb_i z)]) := ⟨_, rfl⟩
  refine wp_pf (A' := A13) rfl rfl g3 rfl rfl (decide_eq_true (by omega)) rfl e14.symm ?_
  have g15 : A13[m]? = some (4, [.ref (m + 1), .ref (m + 2), .ref (m + 3), .ref (m + 4), .int (Int32.ofNat 0), .ref (m + 5), .ref (m + 6), .ref (m + 7), .ref (m + 8), .int (Int32.ofNat 0), .int (sb_i z)]) := by rw [e14]; exact sb_ss g3
  have g16 : A13[m + 1]? = some (100, ks.map sb_c) := by rw [e14]; exact sb_so (by omega) g4
  have g17 : A13[m + 2]? = some (100, ct.map Value.int) := by rw [e14]; exact sb_so (by omega) g5
  have g18 : A13[m + 3]? = some (100, os.map sb_c) := by rw [e14]; exact sb_so (by omega) g6
  have g19 : A13[m + 4]? = some (100, ns.map sb_c) := by rw [e14]; exact sb_so (by omega) g7
  have g20 : A13[m + 5]? = some (100, ow.map sb_c) := by rw [e14]; exact sb_so (by omega) g8
  have g21 : A13[m + 6]? = some (101, se.map Value.long) := by rw [e14]; exact sb_so (by omega) g9
  have g22 : A13[m + 7]? = some (100, st.map sb_c) := by rw [e14]; exact sb_so (by omega) g10
  have g23 : A13[m + 8]? = some (100, en.map sb_c) := by rw [e14]; exact sb_so (by omega) g11
  have f24 : sb_fr A A13 m (m + 9) := f12.set e14 g3 (by simp) (by omega) (by omega)
  refine wp_rt rfl rfl rfl ?_
  exact ⟨rfl, ⟨g15, g16, g17, g18, g19, g20, g21, g22, g23, ⟨by simp [l1], by simp [l2], by simp [l3], by simp [l4]⟩, ⟨by simp [l5], by simp [l6], by simp [l7], by simp [l8]⟩, by omega, by omega, h45⟩, f24⟩
theorem ms_add {d m p b : Nat} {ks os ns ow st en : List Nat} {ct : List Int32} {se : List Int64} {z : Bool} {A : am_H} {k : Nat} {x : Int32} (h1 : p < 120) (h : sb_M A m ks ct os ns p ow se st en b z) : ∃ B, am_go d 32 [.ref m, .int (Int32.ofNat k), .int x] A (.inl (some (.int (Int32.ofNat p))), B) ∧ sb_M B m (ks.set p k) (ct.set p x) (os.set p 0) (ns.set p (p + 1)) (p + 1) (ow) (se) (st) (en) (b) z ∧ sb_fr A B m (m + 9) := by
  have hh := h
  obtain ⟨q0, q1, q2, q3, q4, q5, q6, q7, q8, ⟨l1, l2, l3, l4⟩, ⟨l5, l6, l7, l8⟩, hp, hb, h45⟩ := h
  unfold sb_mc at q0
  refine wp_goE ?_
  refine wp_st 1 (f' := (1, [some (.ref (m)), some (.int (Int32.ofNat k)), some (.int (x)), none], [.ref (m)], A)) rfl ?_
  refine wp_gf rfl rfl q0 rfl rfl ?_
  refine wp_st 1 (f' := (6, [some (.ref (m)), some (.int (Int32.ofNat k)), some (.int (x)), none], [.int (Int32.ofNat 120), .int (Int32.ofNat p)], A)) rfl ?_
  refine wp_ifT rfl rfl ((i32_lt (a := p) (b := 120) (by omega) (by omega)).mpr (by omega)) ?_
  refine wp_st 1 (f' := (12, [some (.ref (m)), some (.int (Int32.ofNat k)), some (.int (x)), none], [.ref (m)], A)) rfl ?_
  refine wp_gf rfl rfl q0 rfl rfl ?_
  refine wp_st 2 (f' := (17, [some (.ref (m)), some (.int (Int32.ofNat k)), some (.int (x)), some (.int (Int32.ofNat p))], [.ref (m)], A)) rfl ?_
  refine wp_gf rfl rfl q0 rfl rfl ?_
  refine wp_st 2 (f' := (22, [some (.ref (m)), some (.int (Int32.ofNat k)), some (.int (x)), some (.int (Int32.ofNat p))], [.int (Int32.ofNat k), .int (Int32.ofNat p), .ref (m + 1)], A)) rfl ?_
  obtain ⟨A1, e2⟩ : ∃ B, B = A.set (m + 1) (100, (ks.set p k).map sb_c) := ⟨_, rfl⟩
  refine wp_as (A' := A1) rfl (Or.inl ⟨rfl, rfl, rfl⟩) q1 (by omega) (by simp; omega) (decide_eq_true (by omega)) rfl (by rw [e2]; exact congrArg (fun z => List.set _ _ (_, z)) sb_sm) ?_
  have g3 : A1[m]? = some (4, [.ref (m + 1), .ref (m + 2), .ref (m + 3), .ref (m + 4), .int (Int32.ofNat p), .ref (m + 5), .ref (m + 6), .ref (m + 7), .ref (m + 8), .int (Int32.ofNat b), .int (sb_i z)]) := by rw [e2]; exact sb_so (by omega) q0
  have g4 : A1[m + 1]? = some (100, (ks.set p k).map sb_c) := by rw [e2]; exact sb_ss q1
  have g5 : A1[m + 2]? = some (100, ct.map Value.int) := by rw [e2]; exact sb_so (by omega) q2
  have g6 : A1[m + 3]? = some (100, os.map sb_c) := by rw [e2]; exact sb_so (by omega) q3
  have g7 : A1[m + 4]? = some (100, ns.map sb_c) := by rw [e2]; exact sb_so (by omega) q4
  have g8 : A1[m + 5]? = some (100, ow.map sb_c) := by rw [e2]; exact sb_so (by omega) q5
  have g9 : A1[m + 6]? = some (101, se.map Value.long) := by rw [e2]; exact sb_so (by omega) q6
  have g10 : A1[m + 7]? = some (100, st.map sb_c) := by rw [e2]; exact sb_so (by omega) q7
  have g11 : A1[m + 8]? = some (100, en.map sb_c) := by rw [e2]; exact sb_so (by omega) q8
  have f12 : sb_fr A A1 m (m + 9) := (sb_fr.refl A m (m + 9)).set e2 q1 (by simp) (by omega) (by omega)
  refine wp_st 1 (f' := (24, [some (.ref (m)), some (.int (Int32.ofNat k)), some (.int (x)), some (.int (Int32.ofNat p))], [.ref (m)], A1)) rfl ?_
  refine wp_gf rfl rfl g3 rfl rfl ?_
  refine wp_st 2 (f' := (29, [some (.ref (m)), some (.int (Int32.ofNat k)), some (.int (x)), some (.int (Int32.ofNat p))], [.int (x), .int (Int32.ofNat p), .ref (m + 2)], A1)) rfl ?_
  obtain ⟨A13, e14⟩ : ∃ B, B = A1.set (m + 2) (100, (ct.set p x).map Value.int) := ⟨_, rfl⟩
  refine wp_as (A' := A13) rfl (Or.inl ⟨rfl, rfl, rfl⟩) g5 (by omega) (by simp; omega) (decide_eq_true (by omega)) rfl (by rw [e14]; exact congrArg (fun z => List.set _ _ (_, z)) sb_sm) ?_
  have g15 : A13[m]? = some (4, [.ref (m + 1), .ref (m + 2), .ref (m + 3), .ref (m + 4), .int (Int32.ofNat p), .ref (m + 5), .ref (m + 6), .ref (m + 7), .ref (m + 8), .int (Int32.ofNat b), .int (sb_i z)]) := by rw [e14]; exact sb_so (by omega) g3
  have g16 : A13[m + 1]? = some (100, (ks.set p k).map sb_c) := by rw [e14]; exact sb_so (by omega) g4
  have g17 : A13[m + 2]? = some (100, (ct.set p x).map Value.int) := by rw [e14]; exact sb_ss g5
  have g18 : A13[m + 3]? = some (100, os.map sb_c) := by rw [e14]; exact sb_so (by omega) g6
  have g19 : A13[m + 4]? = some (100, ns.map sb_c) := by rw [e14]; exact sb_so (by omega) g7
  have g20 : A13[m + 5]? = some (100, ow.map sb_c) := by rw [e14]; exact sb_so (by omega) g8
  have g21 : A13[m + 6]? = some (101, se.map Value.long) := by rw [e14]; exact sb_so (by omega) g9
  have g22 : A13[m + 7]? = some (100, st.map sb_c) := by rw [e14]; exact sb_so (by omega) g10
  have g23 : A13[m + 8]? = some (100, en.map sb_c) := by rw [e14]; exact sb_so (by omega) g11
  have f24 : sb_fr A A13 m (m + 9) := f12.set e14 g5 (by simp) (by omega) (by omega)
  refine wp_st 1 (f' := (31, [some (.ref (m)), some (.int (Int32.ofNat k)), some (.int (x)), some (.int (Int32.ofNat p))], [.ref (m)], A13)) rfl ?_
  refine wp_gf rfl rfl g15 rfl rfl ?_
  refine wp_st 2 (f' := (36, [some (.ref (m)), some (.int (Int32.ofNat k)), some (.int (x)), some (.int (Int32.ofNat p))], [.int (Int32.ofNat 0), .int (Int32.ofNat p), .ref (m + 3)], A13)) rfl ?_
  obtain ⟨A25, e26⟩ : ∃ B, B = A13.set (m + 3) (100, (os.set p 0).map sb_c) := ⟨_, rfl⟩
  refine wp_as (A' := A25) rfl (Or.inl ⟨rfl, rfl, rfl⟩) g18 (by omega) (by simp; omega) (decide_eq_true (by omega)) rfl (by rw [e26]; exact congrArg (fun z => List.set _ _ (_, z)) sb_sm) ?_
  have g27 : A25[m]? = some (4, [.ref (m + 1), .ref (m + 2), .ref (m + 3), .ref (m + 4), .int (Int32.ofNat p), .ref (m + 5), .ref (m + 6), .ref (m + 7), .ref (m + 8), .int (Int32.ofNat b), .int (sb_i z)]) := by rw [e26]; exact sb_so (by omega) g15
  have g28 : A25[m + 1]? = some (100, (ks.set p k).map sb_c) := by rw [e26]; exact sb_so (by omega) g16
  have g29 : A25[m + 2]? = some (100, (ct.set p x).map Value.int) := by rw [e26]; exact sb_so (by omega) g17
  have g30 : A25[m + 3]? = some (100, (os.set p 0).map sb_c) := by rw [e26]; exact sb_ss g18
  have g31 : A25[m + 4]? = some (100, ns.map sb_c) := by rw [e26]; exact sb_so (by omega) g19
  have g32 : A25[m + 5]? = some (100, ow.map sb_c) := by rw [e26]; exact sb_so (by omega) g20
  have g33 : A25[m + 6]? = some (101, se.map Value.long) := by rw [e26]; exact sb_so (by omega) g21
  have g34 : A25[m + 7]? = some (100, st.map sb_c) := by rw [e26]; exact sb_so (by omega) g22
  have g35 : A25[m + 8]? = some (100, en.map sb_c) := by rw [e26]; exact sb_so (by omega) g23
  have f36 : sb_fr A A25 m (m + 9) := f24.set e26 g18 (by simp) (by omega) (by omega)
  refine wp_st 2 (f' := (39, [some (.ref (m)), some (.int (Int32.ofNat k)), some (.int (x)), some (.int (Int32.ofNat p))], [.ref (m), .ref (m)], A25)) rfl ?_
  refine wp_gf rfl rfl g27 rfl rfl ?_
  refine wp_st 2 (f' := (44, [some (.ref (m)), some (.int (Int32.ofNat k)), some (.int (x)), some (.int (Int32.ofNat p))], [.int ((Int32.ofNat p) + (Int32.ofNat 1)), .ref (m)], A25)) rfl ?_
  rw [i32_add (p) (1)]
  obtain ⟨A37, e38⟩ : ∃ B, B = A25.set (m) (4, [.ref (m + 1), .ref (m + 2), .ref (m + 3), .ref (m + 4), .int (Int32.ofNat (p + 1)), .ref (m + 5), .ref (m + 6), .ref (m + 7), .ref (m + 8), .int (Int32.ofNat b), .int (sb_i z)]) := ⟨_, rfl⟩
  refine wp_pf (A' := A37) rfl rfl g27 rfl rfl (decide_eq_true (by omega)) rfl e38.symm ?_
  have g39 : A37[m]? = some (4, [.ref (m + 1), .ref (m + 2), .ref (m + 3), .ref (m + 4), .int (Int32.ofNat (p + 1)), .ref (m + 5), .ref (m + 6), .ref (m + 7), .ref (m + 8), .int (Int32.ofNat b), .int (sb_i z)]) := by rw [e38]; exact sb_ss g27
  have g40 : A37[m + 1]? = some (100, (ks.set p k).map sb_c) := by rw [e38]; exact sb_so (by omega) g28
  have g41 : A37[m + 2]? = some (100, (ct.set p x).map Value.int) := by rw [e38]; exact sb_so (by omega) g29
  have g42 : A37[m + 3]? = some (100, (os.set p 0).map sb_c) := by rw [e38]; exact sb_so (by omega) g30
  have g43 : A37[m + 4]? = some (100, ns.map sb_c) := by rw [e38]; exact sb_so (by omega) g31
  have g44 : A37[m + 5]? = some (100, ow.map sb_c) := by rw [e38]; exact sb_so (by omega) g32
  have g45 : A37[m + 6]? = some (101, se.map Value.long) := by rw [e38]; exact sb_so (by omega) g33
  have g46 : A37[m + 7]? = some (100, st.map sb_c) := by rw [e38]; exact sb_so (by omega) g34
  have g47 : A37[m + 8]? = some (100, en.map sb_c) := by rw [e38]; exact sb_so (by omega) g35
  have f48 : sb_fr A A37 m (m + 9) := f36.set e38 g27 (by simp) (by omega) (by omega)
  refine wp_st 1 (f' := (48, [some (.ref (m)), some (.int (Int32.ofNat k)), some (.int (x)), some (.int (Int32.ofNat p))], [.ref (m)], A37)) rfl ?_
  refine wp_gf rfl rfl g39 rfl rfl ?_
  refine wp_st 2 (f' := (53, [some (.ref (m)), some (.int (Int32.ofNat k)), some (.int (x)), some (.int (Int32.ofNat p))], [.ref (m), .int (Int32.ofNat p), .ref (m + 4)], A37)) rfl ?_
  refine wp_gf rfl rfl g39 rfl rfl ?_
  obtain ⟨A49, e50⟩ : ∃ B, B = A37.set (m + 4) (100, (ns.set p (p + 1)).map sb_c) := ⟨_, rfl⟩
  refine wp_as (A' := A49) rfl (Or.inl ⟨rfl, rfl, rfl⟩) g43 (by omega) (by simp; omega) (decide_eq_true (by omega)) rfl (by rw [e50]; exact congrArg (fun z => List.set _ _ (_, z)) sb_sm) ?_
  have g51 : A49[m]? = some (4, [.ref (m + 1), .ref (m + 2), .ref (m + 3), .ref (m + 4), .int (Int32.ofNat (p + 1)), .ref (m + 5), .ref (m + 6), .ref (m + 7), .ref (m + 8), .int (Int32.ofNat b), .int (sb_i z)]) := by rw [e50]; exact sb_so (by omega) g39
  have g52 : A49[m + 1]? = some (100, (ks.set p k).map sb_c) := by rw [e50]; exact sb_so (by omega) g40
  have g53 : A49[m + 2]? = some (100, (ct.set p x).map Value.int) := by rw [e50]; exact sb_so (by omega) g41
  have g54 : A49[m + 3]? = some (100, (os.set p 0).map sb_c) := by rw [e50]; exact sb_so (by omega) g42
  have g55 : A49[m + 4]? = some (100, (ns.set p (p + 1)).map sb_c) := by rw [e50]; exact sb_ss g43
  have g56 : A49[m + 5]? = some (100, ow.map sb_c) := by rw [e50]; exact sb_so (by omega) g44
  have g57 : A49[m + 6]? = some (101, se.map Value.long) := by rw [e50]; exact sb_so (by omega) g45
  have g58 : A49[m + 7]? = some (100, st.map sb_c) := by rw [e50]; exact sb_so (by omega) g46
  have g59 : A49[m + 8]? = some (100, en.map sb_c) := by rw [e50]; exact sb_so (by omega) g47
  have f60 : sb_fr A A49 m (m + 9) := f48.set e50 g43 (by simp) (by omega) (by omega)
  refine wp_st 1 (f' := (58, [some (.ref (m)), some (.int (Int32.ofNat k)), some (.int (x)), some (.int (Int32.ofNat p))], [.int (Int32.ofNat p)], A49)) rfl ?_
  refine wp_rt rfl rfl rfl ?_
  exact ⟨rfl, ⟨g51, g52, g53, g54, g55, g56, g57, g58, g59, ⟨by simp [l1], by simp [l2], by simp [l3], by simp [l4]⟩, ⟨by simp [l5], by simp [l6], by simp [l7], by simp [l8]⟩, by omega, by omega, h45⟩, f60⟩
theorem ms_addb {d m p b : Nat} {ks os ns ow st en : List Nat} {ct : List Int32} {se : List Int64} {z : Bool} {A : am_H} {o : Nat} {s : Int64} (h1 : b < 40) (h : sb_M A m ks ct os ns p ow se st en b z) : ∃ B, am_go d 59 [.ref m, .int (Int32.ofNat o), .long s] A (.inl (some (.int (Int32.ofNat b))), B) ∧ sb_M B m (ks) (ct) (os) (ns) (p) (ow.set b o) (se.set b s) (st.set b p) (en.set b p) (b + 1) z ∧ sb_fr A B m (m + 9) := by
  have hh := h
  obtain ⟨q0, q1, q2, q3, q4, q5, q6, q7, q8, ⟨l1, l2, l3, l4⟩, ⟨l5, l6, l7, l8⟩, hp, hb, h45⟩ := h
  unfold sb_mc at q0
  refine wp_goE ?_
  refine wp_st 1 (f' := (1, [some (.ref (m)), some (.int (Int32.ofNat o)), some (.long (s)), none, none], [.ref (m)], A)) rfl ?_
  refine wp_gf rfl rfl q0 rfl rfl ?_
  refine wp_st 1 (f' := (6, [some (.ref (m)), some (.int (Int32.ofNat o)), some (.long (s)), none, none], [.int (Int32.ofNat 40), .int (Int32.ofNat b)], A)) rfl ?_
  refine wp_ifT rfl rfl ((i32_lt (a := b) (b := 40) (by omega) (by omega)).mpr (by omega)) ?_
  refine wp_st 1 (f' := (12, [some (.ref (m)), some (.int (Int32.ofNat o)), some (.long (s)), none, none], [.ref (m)], A)) rfl ?_
  refine wp_gf rfl rfl q0 rfl rfl ?_
  refine wp_st 2 (f' := (18, [some (.ref (m)), some (.int (Int32.ofNat o)), some (.long (s)), none, some (.int (Int32.ofNat b))], [.ref (m)], A)) rfl ?_
  refine wp_gf rfl rfl q0 rfl rfl ?_
  refine wp_st 2 (f' := (24, [some (.ref (m)), some (.int (Int32.ofNat o)), some (.long (s)), none, some (.int (Int32.ofNat b))], [.int (Int32.ofNat o), .int (Int32.ofNat b), .ref (m + 5)], A)) rfl ?_
  obtain ⟨A1, e2⟩ : ∃ B, B = A.set (m + 5) (100, (ow.set b o).map sb_c) := ⟨_, rfl⟩
  refine wp_as (A' := A1) rfl (Or.inl ⟨rfl, rfl, rfl⟩) q5 (by omega) (by simp; omega) (decide_eq_true (by omega)) rfl (by rw [e2]; exact congrArg (fun z => List.set _ _ (_, z)) sb_sm) ?_
  have g3 : A1[m]? = some (4, [.ref (m + 1), .ref (m + 2), .ref (m + 3), .ref (m + 4), .int (Int32.ofNat p), .ref (m + 5), .ref (m + 6), .ref (m + 7), .ref (m + 8), .int (Int32.ofNat b), .int (sb_i z)]) := by rw [e2]; exact sb_so (by omega) q0
  have g4 : A1[m + 1]? = some (100, ks.map sb_c) := by rw [e2]; exact sb_so (by omega) q1
  have g5 : A1[m + 2]? = some (100, ct.map Value.int) := by rw [e2]; exact sb_so (by omega) q2
  have g6 : A1[m + 3]? = some (100, os.map sb_c) := by rw [e2]; exact sb_so (by omega) q3
  have g7 : A1[m + 4]? = some (100, ns.map sb_c) := by rw [e2]; exact sb_so (by omega) q4
  have g8 : A1[m + 5]? = some (100, (ow.set b o).map sb_c) := by rw [e2]; exact sb_ss q5
  have g9 : A1[m + 6]? = some (101, se.map Value.long) := by rw [e2]; exact sb_so (by omega) q6
  have g10 : A1[m + 7]? = some (100, st.map sb_c) := by rw [e2]; exact sb_so (by omega) q7
  have g11 : A1[m + 8]? = some (100, en.map sb_c) := by rw [e2]; exact sb_so (by omega) q8
  have f12 : sb_fr A A1 m (m + 9) := (sb_fr.refl A m (m + 9)).set e2 q5 (by simp) (by omega) (by omega)
  refine wp_st 1 (f' := (26, [some (.ref (m)), some (.int (Int32.ofNat o)), some (.long (s)), none, some (.int (Int32.ofNat b))], [.ref (m)], A1)) rfl ?_
  refine wp_gf rfl rfl g3 rfl rfl ?_
  refine wp_st 2 (f' := (32, [some (.ref (m)), some (.int (Int32.ofNat o)), some (.long (s)), none, some (.int (Int32.ofNat b))], [.long (s), .int (Int32.ofNat b), .ref (m + 6)], A1)) rfl ?_
  obtain ⟨A13, e14⟩ : ∃ B, B = A1.set (m + 6) (101, (se.set b s).map Value.long) := ⟨_, rfl⟩
  refine wp_ls (A' := A13) rfl g9 (by omega) (by simp; omega) (decide_eq_true (by omega)) rfl (by rw [e14]; exact congrArg (fun z => List.set _ _ (_, z)) sb_sm) ?_
  have g15 : A13[m]? = some (4, [.ref (m + 1), .ref (m + 2), .ref (m + 3), .ref (m + 4), .int (Int32.ofNat p), .ref (m + 5), .ref (m + 6), .ref (m + 7), .ref (m + 8), .int (Int32.ofNat b), .int (sb_i z)]) := by rw [e14]; exact sb_so (by omega) g3
  have g16 : A13[m + 1]? = some (100, ks.map sb_c) := by rw [e14]; exact sb_so (by omega) g4
  have g17 : A13[m + 2]? = some (100, ct.map Value.int) := by rw [e14]; exact sb_so (by omega) g5
  have g18 : A13[m + 3]? = some (100, os.map sb_c) := by rw [e14]; exact sb_so (by omega) g6
  have g19 : A13[m + 4]? = some (100, ns.map sb_c) := by rw [e14]; exact sb_so (by omega) g7
  have g20 : A13[m + 5]? = some (100, (ow.set b o).map sb_c) := by rw [e14]; exact sb_so (by omega) g8
  have g21 : A13[m + 6]? = some (101, (se.set b s).map Value.long) := by rw [e14]; exact sb_ss g9
  have g22 : A13[m + 7]? = some (100, st.map sb_c) := by rw [e14]; exact sb_so (by omega) g10
  have g23 : A13[m + 8]? = some (100, en.map sb_c) := by rw [e14]; exact sb_so (by omega) g11
  have f24 : sb_fr A A13 m (m + 9) := f12.set e14 g9 (by simp) (by omega) (by omega)
  refine wp_st 1 (f' := (34, [some (.ref (m)), some (.int (Int32.ofNat o)), some (.long (s)), none, some (.int (Int32.ofNat b))], [.ref (m)], A13)) rfl ?_
  refine wp_gf rfl rfl g15 rfl rfl ?_
  refine wp_st 2 (f' := (40, [some (.ref (m)), some (.int (Int32.ofNat o)), some (.long (s)), none, some (.int (Int32.ofNat b))], [.ref (m), .int (Int32.ofNat b), .ref (m + 7)], A13)) rfl ?_
  refine wp_gf rfl rfl g15 rfl rfl ?_
  obtain ⟨A25, e26⟩ : ∃ B, B = A13.set (m + 7) (100, (st.set b p).map sb_c) := ⟨_, rfl⟩
  refine wp_as (A' := A25) rfl (Or.inl ⟨rfl, rfl, rfl⟩) g22 (by omega) (by simp; omega) (decide_eq_true (by omega)) rfl (by rw [e26]; exact congrArg (fun z => List.set _ _ (_, z)) sb_sm) ?_
  have g27 : A25[m]? = some (4, [.ref (m + 1), .ref (m + 2), .ref (m + 3), .ref (m + 4), .int (Int32.ofNat p), .ref (m + 5), .ref (m + 6), .ref (m + 7), .ref (m + 8), .int (Int32.ofNat b), .int (sb_i z)]) := by rw [e26]; exact sb_so (by omega) g15
  have g28 : A25[m + 1]? = some (100, ks.map sb_c) := by rw [e26]; exact sb_so (by omega) g16
  have g29 : A25[m + 2]? = some (100, ct.map Value.int) := by rw [e26]; exact sb_so (by omega) g17
  have g30 : A25[m + 3]? = some (100, os.map sb_c) := by rw [e26]; exact sb_so (by omega) g18
  have g31 : A25[m + 4]? = some (100, ns.map sb_c) := by rw [e26]; exact sb_so (by omega) g19
  have g32 : A25[m + 5]? = some (100, (ow.set b o).map sb_c) := by rw [e26]; exact sb_so (by omega) g20
  have g33 : A25[m + 6]? = some (101, (se.set b s).map Value.long) := by rw [e26]; exact sb_so (by omega) g21
  have g34 : A25[m + 7]? = some (100, (st.set b p).map sb_c) := by rw [e26]; exact sb_ss g22
  have g35 : A25[m + 8]? = some (100, en.map sb_c) := by rw [e26]; exact sb_so (by omega) g23
  have f36 : sb_fr A A25 m (m + 9) := f24.set e26 g22 (by simp) (by omega) (by omega)
  refine wp_st 1 (f' := (45, [some (.ref (m)), some (.int (Int32.ofNat o)), some (.long (s)), none, some (.int (Int32.ofNat b))], [.ref (m)], A25)) rfl ?_
  refine wp_gf rfl rfl g27 rfl rfl ?_
  refine wp_st 2 (f' := (51, [some (.ref (m)), some (.int (Int32.ofNat o)), some (.long (s)), none, some (.int (Int32.ofNat b))], [.ref (m), .int (Int32.ofNat b), .ref (m + 8)], A25)) rfl ?_
  refine wp_gf rfl rfl g27 rfl rfl ?_
  obtain ⟨A37, e38⟩ : ∃ B, B = A25.set (m + 8) (100, (en.set b p).map sb_c) := ⟨_, rfl⟩
  refine wp_as (A' := A37) rfl (Or.inl ⟨rfl, rfl, rfl⟩) g35 (by omega) (by simp; omega) (decide_eq_true (by omega)) rfl (by rw [e38]; exact congrArg (fun z => List.set _ _ (_, z)) sb_sm) ?_
  have g39 : A37[m]? = some (4, [.ref (m + 1), .ref (m + 2), .ref (m + 3), .ref (m + 4), .int (Int32.ofNat p), .ref (m + 5), .ref (m + 6), .ref (m + 7), .ref (m + 8), .int (Int32.ofNat b), .int (sb_i z)]) := by rw [e38]; exact sb_so (by omega) g27
  have g40 : A37[m + 1]? = some (100, ks.map sb_c) := by rw [e38]; exact sb_so (by omega) g28
  have g41 : A37[m + 2]? = some (100, ct.map Value.int) := by rw [e38]; exact sb_so (by omega) g29
  have g42 : A37[m + 3]? = some (100, os.map sb_c) := by rw [e38]; exact sb_so (by omega) g30
  have g43 : A37[m + 4]? = some (100, ns.map sb_c) := by rw [e38]; exact sb_so (by omega) g31
  have g44 : A37[m + 5]? = some (100, (ow.set b o).map sb_c) := by rw [e38]; exact sb_so (by omega) g32
  have g45 : A37[m + 6]? = some (101, (se.set b s).map Value.long) := by rw [e38]; exact sb_so (by omega) g33
  have g46 : A37[m + 7]? = some (100, (st.set b p).map sb_c) := by rw [e38]; exact sb_so (by omega) g34
  have g47 : A37[m + 8]? = some (100, (en.set b p).map sb_c) := by rw [e38]; exact sb_ss g35
  have f48 : sb_fr A A37 m (m + 9) := f36.set e38 g35 (by simp) (by omega) (by omega)
  refine wp_st 2 (f' := (57, [some (.ref (m)), some (.int (Int32.ofNat o)), some (.long (s)), none, some (.int (Int32.ofNat b))], [.ref (m), .ref (m)], A37)) rfl ?_
  refine wp_gf rfl rfl g39 rfl rfl ?_
  refine wp_st 2 (f' := (62, [some (.ref (m)), some (.int (Int32.ofNat o)), some (.long (s)), none, some (.int (Int32.ofNat b))], [.int ((Int32.ofNat b) + (Int32.ofNat 1)), .ref (m)], A37)) rfl ?_
  rw [i32_add (b) (1)]
  obtain ⟨A49, e50⟩ : ∃ B, B = A37.set (m) (4, [.ref (m + 1), .ref (m + 2), .ref (m + 3), .ref (m + 4), .int (Int32.ofNat p), .ref (m + 5), .ref (m + 6), .ref (m + 7), .ref (m + 8), .int (Int32.ofNat (b + 1)), .int (sb_i z)]) := ⟨_, rfl⟩
  refine wp_pf (A' := A49) rfl rfl g39 rfl rfl (decide_eq_true (by omega)) rfl e50.symm ?_
  have g51 : A49[m]? = some (4, [.ref (m + 1), .ref (m + 2), .ref (m + 3), .ref (m + 4), .int (Int32.ofNat p), .ref (m + 5), .ref (m + 6), .ref (m + 7), .ref (m + 8), .int (Int32.ofNat (b + 1)), .int (sb_i z)]) := by rw [e50]; exact sb_ss g39
  have g52 : A49[m + 1]? = some (100, ks.map sb_c) := by rw [e50]; exact sb_so (by omega) g40
  have g53 : A49[m + 2]? = some (100, ct.map Value.int) := by rw [e50]; exact sb_so (by omega) g41
  have g54 : A49[m + 3]? = some (100, os.map sb_c) := by rw [e50]; exact sb_so (by omega) g42
  have g55 : A49[m + 4]? = some (100, ns.map sb_c) := by rw [e50]; exact sb_so (by omega) g43
  have g56 : A49[m + 5]? = some (100, (ow.set b o).map sb_c) := by rw [e50]; exact sb_so (by omega) g44
  have g57 : A49[m + 6]? = some (101, (se.set b s).map Value.long) := by rw [e50]; exact sb_so (by omega) g45
  have g58 : A49[m + 7]? = some (100, (st.set b p).map sb_c) := by rw [e50]; exact sb_so (by omega) g46
  have g59 : A49[m + 8]? = some (100, (en.set b p).map sb_c) := by rw [e50]; exact sb_so (by omega) g47
  have f60 : sb_fr A A49 m (m + 9) := f48.set e50 g39 (by simp) (by omega) (by omega)
  refine wp_st 1 (f' := (67, [some (.ref (m)), some (.int (Int32.ofNat o)), some (.long (s)), none, some (.int (Int32.ofNat b))], [.int (Int32.ofNat b)], A49)) rfl ?_
  refine wp_rt rfl rfl rfl ?_
  exact ⟨rfl, ⟨g51, g52, g53, g54, g55, g56, g57, g58, g59, ⟨by simp [l1], by simp [l2], by simp [l3], by simp [l4]⟩, ⟨by simp [l5], by simp [l6], by simp [l7], by simp [l8]⟩, by omega, by omega, h45⟩, f60⟩
theorem ms_closeb {d m p b : Nat} {ks os ns ow st en : List Nat} {ct : List Int32} {se : List Int64} {z : Bool} {A : am_H} {k : Nat} (h1 : k < b) (h : sb_M A m ks ct os ns p ow se st en b z) : ∃ B, am_go d 60 [.ref m, .int (Int32.ofNat k)] A (.inl none, B) ∧ sb_M B m (ks) (ct) (os) (ns) (p) (ow) (se) (st) (en.set k p) (b) z ∧ sb_fr A B m (m + 9) := by
  have hh := h
  obtain ⟨q0, q1, q2, q3, q4, q5, q6, q7, q8, ⟨l1, l2, l3, l4⟩, ⟨l5, l6, l7, l8⟩, hp, hb, h45⟩ := h
  unfold sb_mc at q0
  refine wp_goE ?_
  refine wp_st 1 (f' := (1, [some (.ref (m)), some (.int (Int32.ofNat k))], [.int (Int32.ofNat k)], A)) rfl ?_
  refine wp_izF rfl rfl (Int32.ofNat_not_neg (by omega)) ?_
  refine wp_st 2 (f' := (6, [some (.ref (m)), some (.int (Int32.ofNat k))], [.ref (m), .int (Int32.ofNat k)], A)) rfl ?_
  refine wp_gf rfl rfl q0 rfl rfl ?_
  refine wp_ifF rfl rfl (fun q => absurd ((i32_le (a := b) (b := k) (by omega) (by omega)).mp q) (by omega)) ?_
  refine wp_st 1 (f' := (13, [some (.ref (m)), some (.int (Int32.ofNat k))], [.ref (m)], A)) rfl ?_
  refine wp_gf rfl rfl q0 rfl rfl ?_
  refine wp_st 2 (f' := (18, [some (.ref (m)), some (.int (Int32.ofNat k))], [.ref (m), .int (Int32.ofNat k), .ref (m + 8)], A)) rfl ?_
  refine wp_gf rfl rfl q0 rfl rfl ?_
  obtain ⟨A1, e2⟩ : ∃ B, B = A.set (m + 8) (100, (en.set k p).map sb_c) := ⟨_, rfl⟩
  refine wp_as (A' := A1) rfl (Or.inl ⟨rfl, rfl, rfl⟩) q8 (by omega) (by simp; omega) (decide_eq_true (by omega)) rfl (by rw [e2]; exact congrArg (fun z => List.set _ _ (_, z)) sb_sm) ?_
  have g3 : A1[m]? = some (4, [.ref (m + 1), .ref (m + 2), .ref (m + 3), .ref (m + 4), .int (Int32.ofNat p), .ref (m + 5), .ref (m + 6), .ref (m + 7), .ref (m + 8), .int (Int32.ofNat b), .int (sb_i z)]) := by rw [e2]; exact sb_so (by omega) q0
  have g4 : A1[m + 1]? = some (100, ks.map sb_c) := by rw [e2]; exact sb_so (by omega) q1
  have g5 : A1[m + 2]? = some (100, ct.map Value.int) := by rw [e2]; exact sb_so (by omega) q2
  have g6 : A1[m + 3]? = some (100, os.map sb_c) := by rw [e2]; exact sb_so (by omega) q3
  have g7 : A1[m + 4]? = some (100, ns.map sb_c) := by rw [e2]; exact sb_so (by omega) q4
  have g8 : A1[m + 5]? = some (100, ow.map sb_c) := by rw [e2]; exact sb_so (by omega) q5
  have g9 : A1[m + 6]? = some (101, se.map Value.long) := by rw [e2]; exact sb_so (by omega) q6
  have g10 : A1[m + 7]? = some (100, st.map sb_c) := by rw [e2]; exact sb_so (by omega) q7
  have g11 : A1[m + 8]? = some (100, (en.set k p).map sb_c) := by rw [e2]; exact sb_ss q8
  have f12 : sb_fr A A1 m (m + 9) := (sb_fr.refl A m (m + 9)).set e2 q8 (by simp) (by omega) (by omega)
  refine wp_rt rfl rfl rfl ?_
  exact ⟨rfl, ⟨g3, g4, g5, g6, g7, g8, g9, g10, g11, ⟨by simp [l1], by simp [l2], by simp [l3], by simp [l4]⟩, ⟨by simp [l5], by simp [l6], by simp [l7], by simp [l8]⟩, by omega, by omega, h45⟩, f12⟩
theorem ms_isp1 {d m p b : Nat} {ks os ns ow st en : List Nat} {ct : List Int32} {se : List Int64} {z : Bool} {A : am_H} {k : Nat} (h1 : k < p) (h : sb_M A m ks ct os ns p ow se st en b z) : am_go d 55 [.ref m, .int (Int32.ofNat k)] A (.inl (some (.int 1)), A) := by
  have hh := h
  obtain ⟨q0, q1, q2, q3, q4, q5, q6, q7, q8, ⟨l1, l2, l3, l4⟩, ⟨l5, l6, l7, l8⟩, hp, hb, h45⟩ := h
  unfold sb_mc at q0
  refine wp_go ?_
  refine wp_st 1 (f' := (1, [some (.ref (m)), some (.int (Int32.ofNat k))], [.int (Int32.ofNat k)], A)) rfl ?_
  refine wp_izF rfl rfl (Int32.ofNat_not_neg (by omega)) ?_
  refine wp_st 2 (f' := (6, [some (.ref (m)), some (.int (Int32.ofNat k))], [.ref (m), .int (Int32.ofNat k)], A)) rfl ?_
  refine wp_gf rfl rfl q0 rfl rfl ?_
  refine wp_ifF rfl rfl (fun q => absurd ((i32_le (a := p) (b := k) (by omega) (by omega)).mp q) (by omega)) ?_
  refine wp_st 2 (f' := (17, [some (.ref (m)), some (.int (Int32.ofNat k))], [.int (Int32.ofNat 1)], A)) rfl ?_
  refine wp_rt rfl rfl rfl ?_
  rfl
theorem ms_isp0 {d m p b : Nat} {ks os ns ow st en : List Nat} {ct : List Int32} {se : List Int64} {z : Bool} {A : am_H} {k : Nat} (hk : k ≤ 1000) (h1 : p ≤ k) (h : sb_M A m ks ct os ns p ow se st en b z) : am_go d 55 [.ref m, .int (Int32.ofNat k)] A (.inl (some (.int 0)), A) := by
  have hh := h
  obtain ⟨q0, q1, q2, q3, q4, q5, q6, q7, q8, ⟨l1, l2, l3, l4⟩, ⟨l5, l6, l7, l8⟩, hp, hb, h45⟩ := h
  unfold sb_mc at q0
  refine wp_go ?_
  refine wp_st 1 (f' := (1, [some (.ref (m)), some (.int (Int32.ofNat k))], [.int (Int32.ofNat k)], A)) rfl ?_
  refine wp_izF rfl rfl (Int32.ofNat_not_neg (by omega)) ?_
  refine wp_st 2 (f' := (6, [some (.ref (m)), some (.int (Int32.ofNat k))], [.ref (m), .int (Int32.ofNat k)], A)) rfl ?_
  refine wp_gf rfl rfl q0 rfl rfl ?_
  refine wp_ifT rfl rfl ((i32_le (a := p) (b := k) (by omega) (by omega)).mpr (by omega)) ?_
  refine wp_st 1 (f' := (17, [some (.ref (m)), some (.int (Int32.ofNat k))], [.int (Int32.ofNat 0)], A)) rfl ?_
  refine wp_rt rfl rfl rfl ?_
  rfl
theorem ms_closea {d m p b : Nat} {ks os ns ow st en : List Nat} {ct : List Int32} {se : List Int64} {z : Bool} {A : am_H} {k : Nat} (hd : 1 ≤ d) (h1 : k < p) (h : sb_M A m ks ct os ns p ow se st en b z) : ∃ B, am_go d 62 [.ref m, .int (Int32.ofNat k)] A (.inl none, B) ∧ sb_M B m (ks) (ct) (os) (ns.set k p) (p) (ow) (se) (st) (en) (b) z ∧ sb_fr A B m (m + 9) := by
  have hh := h
  obtain ⟨q0, q1, q2, q3, q4, q5, q6, q7, q8, ⟨l1, l2, l3, l4⟩, ⟨l5, l6, l7, l8⟩, hp, hb, h45⟩ := h
  unfold sb_mc at q0
  refine wp_goE ?_
  refine wp_st 2 (f' := (2, [some (.ref (m)), some (.int (Int32.ofNat k))], [.int (Int32.ofNat k), .ref (m)], A)) rfl ?_
  refine wp_cv (A' := A) (v := some (.int (Int32.ofNat 1))) rfl rfl rfl rfl rfl q0 (by omega) (ms_isp1 h1 hh) rfl ?_
  show am_wp d 62 (5, [some (.ref (m)), some (.int (Int32.ofNat k))], [.int (Int32.ofNat 1)], A) _
  refine wp_izF rfl rfl (by show ¬ ((1 : Int32) = 0); decide) ?_
  refine wp_st 1 (f' := (9, [some (.ref (m)), some (.int (Int32.ofNat k))], [.ref (m)], A)) rfl ?_
  refine wp_gf rfl rfl q0 rfl rfl ?_
  refine wp_st 2 (f' := (14, [some (.ref (m)), some (.int (Int32.ofNat k))], [.ref (m), .int (Int32.ofNat k), .ref (m + 4)], A)) rfl ?_
  refine wp_gf rfl rfl q0 rfl rfl ?_
  obtain ⟨A1, e2⟩ : ∃ B, B = A.set (m + 4) (100, (ns.set k p).map sb_c) := ⟨_, rfl⟩
  refine wp_as (A' := A1) rfl (Or.inl ⟨rfl, rfl, rfl⟩) q4 (by omega) (by simp; omega) (decide_eq_true (by omega)) rfl (by rw [e2]; exact congrArg (fun z => List.set _ _ (_, z)) sb_sm) ?_
  have g3 : A1[m]? = some (4, [.ref (m + 1), .ref (m + 2), .ref (m + 3), .ref (m + 4), .int (Int32.ofNat p), .ref (m + 5), .ref (m + 6), .ref (m + 7), .ref (m + 8), .int (Int32.ofNat b), .int (sb_i z)]) := by rw [e2]; exact sb_so (by omega) q0
  have g4 : A1[m + 1]? = some (100, ks.map sb_c) := by rw [e2]; exact sb_so (by omega) q1
  have g5 : A1[m + 2]? = some (100, ct.map Value.int) := by rw [e2]; exact sb_so (by omega) q2
  have g6 : A1[m + 3]? = some (100, os.map sb_c) := by rw [e2]; exact sb_so (by omega) q3
  have g7 : A1[m + 4]? = some (100, (ns.set k p).map sb_c) := by rw [e2]; exact sb_ss q4
  have g8 : A1[m + 5]? = some (100, ow.map sb_c) := by rw [e2]; exact sb_so (by omega) q5
  have g9 : A1[m + 6]? = some (101, se.map Value.long) := by rw [e2]; exact sb_so (by omega) q6
  have g10 : A1[m + 7]? = some (100, st.map sb_c) := by rw [e2]; exact sb_so (by omega) q7
  have g11 : A1[m + 8]? = some (100, en.map sb_c) := by rw [e2]; exact sb_so (by omega) q8
  have f12 : sb_fr A A1 m (m + 9) := (sb_fr.refl A m (m + 9)).set e2 q4 (by simp) (by omega) (by omega)
  refine wp_rt rfl rfl rfl ?_
  exact ⟨rfl, ⟨g3, g4, g5, g6, g7, g8, g9, g10, g11, ⟨by simp [l1], by simp [l2], by simp [l3], by simp [l4]⟩, ⟨by simp [l5], by simp [l6], by simp [l7], by simp [l8]⟩, by omega, by omega, h45⟩, f12⟩
theorem ms_with_l {d m p b : Nat} {ks os ns ow st en : List Nat} {ct : List Int32} {se : List Int64} {z : Bool} {A : am_H} {o : Nat} {s : Int64} (ho : o < 1000) (how : ∀ i, ow.getD i 0 < 1000) (h : sb_M A m ks ct os ns p ow se st en b z) : ∀ (k j : Nat), b - j = k → j ≤ b → am_wp d 61 (3, [some (.ref m), some (.int (Int32.ofNat o)), some (.long s), none, some (.int (Int32.ofNat j))], [], A) (fun q => q = (.inl (some (.int (sb_bw ow se o s k j))), A)) := by
  have hh := h
  obtain ⟨q0, q1, q2, q3, q4, q5, q6, q7, q8, ⟨l1, l2, l3, l4⟩, ⟨l5, l6, l7, l8⟩, hp, hb, h45⟩ := h
  unfold sb_mc at q0
  intro k
  induction k with
  | zero =>
    intro j j1 j2
    refine wp_st 2 (f' := (6, [some (.ref (m)), some (.int (Int32.ofNat o)), some (.long (s)), none, some (.int (Int32.ofNat j))], [.ref (m), .int (Int32.ofNat j)], A)) rfl ?_
    refine wp_gf rfl rfl q0 rfl rfl ?_
    refine wp_ifT rfl rfl ((i32_le (a := b) (b := j) (by omega) (by omega)).mpr (by omega)) ?_
    refine wp_st 1 (f' := (45, [some (.ref (m)), some (.int (Int32.ofNat o)), some (.long (s)), none, some (.int (Int32.ofNat j))], [.int ((-1))], A)) rfl ?_
    refine wp_rt rfl rfl rfl ?_
    rfl
  | succ k ih =>
    intro j j1 j2
    have hoj := how j
    refine wp_st 2 (f' := (6, [some (.ref (m)), some (.int (Int32.ofNat o)), some (.long (s)), none, some (.int (Int32.ofNat j))], [.ref (m), .int (Int32.ofNat j)], A)) rfl ?_
    refine wp_gf rfl rfl q0 rfl rfl ?_
    refine wp_ifF rfl rfl (fun q => absurd ((i32_le (a := b) (b := j) (by omega) (by omega)).mp q) (by omega)) ?_
    refine wp_st 1 (f' := (13, [some (.ref (m)), some (.int (Int32.ofNat o)), some (.long (s)), none, some (.int (Int32.ofNat j))], [.ref (m)], A)) rfl ?_
    refine wp_gf rfl rfl q0 rfl rfl ?_
    refine wp_st 1 (f' := (18, [some (.ref (m)), some (.int (Int32.ofNat o)), some (.long (s)), none, some (.int (Int32.ofNat j))], [.int (Int32.ofNat j), .ref (m + 5)], A)) rfl ?_
    refine wp_al rfl (Or.inl ⟨rfl, rfl⟩) rfl q5 (by omega) (sb_gd 0 (by omega)) rfl ?_
    refine wp_st 1 (f' := (20, [some (.ref (m)), some (.int (Int32.ofNat o)), some (.long (s)), none, some (.int (Int32.ofNat j))], [.int (Int32.ofNat o), .int (Int32.ofNat (ow.getD j 0))], A)) rfl ?_
    refine wp_if rfl rfl rfl (fun (h1 : (Int32.ofNat (ow.getD j 0)) ≠ (Int32.ofNat o)) => ?_) (fun (h1 : ¬ ((Int32.ofNat (ow.getD j 0)) ≠ (Int32.ofNat o))) => ?_)
    · skip
      rw [ne_eq, i32_eq (by omega) (by omega)] at h1
      refine wp_st 1 (f' := (41, [some (.ref (m)), some (.int (Int32.ofNat o)), some (.long (s)), none, some (.int ((Int32.ofNat j) + (Int32.ofNat 1)))], [], A)) rfl ?_
      rw [i32_add (j) (1)]
      refine wp_st 1 (f' := (3, [some (.ref (m)), some (.int (Int32.ofNat o)), some (.long (s)), none, some (.int (Int32.ofNat (j + 1)))], [], A)) rfl ?_
      have h9 := ih (j + 1) (by omega) (by omega)
      rw [sb_bw, if_neg (fun q => by omega)]
      exact h9
    · skip
      rw [ne_eq, i32_eq (by omega) (by omega)] at h1
      refine wp_st 1 (f' := (24, [some (.ref (m)), some (.int (Int32.ofNat o)), some (.long (s)), none, some (.int (Int32.ofNat j))], [.ref (m)], A)) rfl ?_
      refine wp_gf rfl rfl q0 rfl rfl ?_
      refine wp_st 1 (f' := (29, [some (.ref (m)), some (.int (Int32.ofNat o)), some (.long (s)), none, some (.int (Int32.ofNat j))], [.int (Int32.ofNat j), .ref (m + 6)], A)) rfl ?_
      refine wp_al rfl (Or.inr (Or.inl ⟨rfl, rfl⟩)) rfl q6 (by omega) (sb_gd 0 (by omega)) rfl ?_
      refine wp_st 2 (f' := (32, [some (.ref (m)), some (.int (Int32.ofNat o)), some (.long (s)), none, some (.int (Int32.ofNat j))], [.int (lg_cmp (se.getD j 0) s)], A)) rfl ?_
      refine wp_iz rfl rfl rfl (fun (h2 : (lg_cmp (se.getD j 0) s) ≠ (Int32.ofNat 0)) => ?_) (fun (h2 : ¬ ((lg_cmp (se.getD j 0) s) ≠ (Int32.ofNat 0))) => ?_)
      · skip
        refine wp_st 1 (f' := (41, [some (.ref (m)), some (.int (Int32.ofNat o)), some (.long (s)), none, some (.int ((Int32.ofNat j) + (Int32.ofNat 1)))], [], A)) rfl ?_
        rw [i32_add (j) (1)]
        refine wp_st 1 (f' := (3, [some (.ref (m)), some (.int (Int32.ofNat o)), some (.long (s)), none, some (.int (Int32.ofNat (j + 1)))], [], A)) rfl ?_
        have h9 := ih (j + 1) (by omega) (by omega)
        rw [sb_bw, if_neg (fun q => h2 (sb_cmp0.mpr q.2))]
        exact h9
      · skip
        refine wp_st 1 (f' := (37, [some (.ref (m)), some (.int (Int32.ofNat o)), some (.long (s)), none, some (.int (Int32.ofNat j))], [.int (Int32.ofNat j)], A)) rfl ?_
        refine wp_rt rfl rfl rfl ?_
        rw [sb_bw, if_pos ⟨by omega, sb_cmp0.mp (by simpa using h2)⟩]
theorem ms_with {d m p b : Nat} {ks os ns ow st en : List Nat} {ct : List Int32} {se : List Int64} {z : Bool} {A : am_H} {o : Nat} {s : Int64} (ho : o < 1000) (how : ∀ i, ow.getD i 0 < 1000) (h : sb_M A m ks ct os ns p ow se st en b z) : am_go d 61 [.ref m, .int (Int32.ofNat o), .long s] A (.inl (some (.int (sb_bw ow se o s b 0))), A) := by
  have hh := h
  obtain ⟨q0, q1, q2, q3, q4, q5, q6, q7, q8, ⟨l1, l2, l3, l4⟩, ⟨l5, l6, l7, l8⟩, hp, hb, h45⟩ := h
  unfold sb_mc at q0
  refine wp_go ?_
  refine wp_st 2 (f' := (3, [some (.ref (m)), some (.int (Int32.ofNat o)), some (.long (s)), none, some (.int (Int32.ofNat 0))], [], A)) rfl ?_
  exact ms_with_l ho how hh b 0 rfl (by omega)
