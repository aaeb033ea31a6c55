/-! Constructors of readers and writers. -/
theorem ct_mr {d r t m : Nat} {b : Bool} {A : am_H} (hd : 1 ≤ d) (h45 : 45 ≤ r) (hr : A[r]? = some (8, [.null, .null, .int 0])) : am_go d 28 [.ref r, .ref t, .ref m, .int (sb_i b)] A (.inl none, A.set r (8, [.ref t, .ref m, .int (sb_i b)])) := by
  refine wp_go ?_
  refine wp_st 1 (f' := (1, [some (.ref (r)), some (.ref (t)), some (.ref (m)), some (.int (sb_i b))], [.ref (r)], A)) rfl ?_
  refine wp_oi rfl rfl (by omega) rfl rfl ?_
  refine wp_st 2 (f' := (6, [some (.ref (r)), some (.ref (t)), some (.ref (m)), some (.int (sb_i b))], [.ref (t), .ref (r)], A)) rfl ?_
  obtain ⟨A1, e2⟩ : ∃ B, B = A.set (r) (8, [.ref (t), .null, .int (0)]) := ⟨_, rfl⟩
  refine wp_pf (A' := A1) rfl rfl hr rfl rfl (decide_eq_true (by omega)) rfl e2.symm ?_
  have g3 : A1[r]? = some (8, [.ref (t), .null, .int (0)]) := by rw [e2]; exact sb_ss hr
  refine wp_st 2 (f' := (11, [some (.ref (r)), some (.ref (t)), some (.ref (m)), some (.int (sb_i b))], [.ref (m), .ref (r)], A1)) rfl ?_
  obtain ⟨A4, e5⟩ : ∃ B, B = A1.set (r) (8, [.ref (t), .ref (m), .int (0)]) := ⟨_, rfl⟩
  refine wp_pf (A' := A4) rfl rfl g3 rfl rfl (decide_eq_true (by omega)) rfl e5.symm ?_
  have g6 : A4[r]? = some (8, [.ref (t), .ref (m), .int (0)]) := by rw [e5]; exact sb_ss g3
  refine wp_st 2 (f' := (16, [some (.ref (r)), some (.ref (t)), some (.ref (m)), some (.int (sb_i b))], [.int (sb_i b), .ref (r)], A4)) rfl ?_
  obtain ⟨A7, e8⟩ : ∃ B, B = A4.set (r) (8, [.ref (t), .ref (m), .int (sb_i b)]) := ⟨_, rfl⟩
  refine wp_pf (A' := A7) rfl rfl g6 (sb_fitz b) rfl (decide_eq_true (by omega)) rfl e8.symm ?_
  have g9 : A7[r]? = some (8, [.ref (t), .ref (m), .int (sb_i b)]) := by rw [e8]; exact sb_ss g6
  refine wp_rt rfl rfl rfl ?_
  subst e2
  subst e5
  subst e8
  first | rfl | (rw [List.set_set]; rfl) | (simp only [List.set_set]; rfl) | (simp only [List.set_set]; done)
theorem ct_rr {d r t s : Nat} {A : am_H} (hd : 1 ≤ d) (h45 : 45 ≤ r) (hr : A[r]? = some (9, [.null, .null])) : am_go d 66 [.ref r, .ref t, .ref s] A (.inl none, A.set r (9, [.ref t, .ref s])) := by
  refine wp_go ?_
  refine wp_st 1 (f' := (1, [some (.ref (r)), some (.ref (t)), some (.ref (s))], [.ref (r)], A)) rfl ?_
  refine wp_oi rfl rfl (by omega) rfl rfl ?_
  refine wp_st 2 (f' := (6, [some (.ref (r)), some (.ref (t)), some (.ref (s))], [.ref (t), .ref (r)], A)) rfl ?_
  obtain ⟨A1, e2⟩ : ∃ B, B = A.set (r) (9, [.ref (t), .null]) := ⟨_, rfl⟩
  refine wp_pf (A' := A1) rfl rfl hr rfl rfl (decide_eq_true (by omega)) rfl e2.symm ?_
  have g3 : A1[r]? = some (9, [.ref (t), .null]) := by rw [e2]; exact sb_ss hr
  refine wp_st 2 (f' := (11, [some (.ref (r)), some (.ref (t)), some (.ref (s))], [.ref (s), .ref (r)], A1)) rfl ?_
  obtain ⟨A4, e5⟩ : ∃ B, B = A1.set (r) (9, [.ref (t), .ref (s)]) := ⟨_, rfl⟩
  refine wp_pf (A' := A4) rfl rfl g3 rfl rfl (decide_eq_true (by omega)) rfl e5.symm ?_
  have g6 : A4[r]? = some (9, [.ref (t), .ref (s)]) := by rw [e5]; exact sb_ss g3
  refine wp_rt rfl rfl rfl ?_
  subst e2
  subst e5
  first | rfl | (rw [List.set_set]; rfl) | (simp only [List.set_set]; rfl) | (simp only [List.set_set]; done)
theorem ct_wr {d r m v s u : Nat} {b : Bool} {A : am_H} (hd : 1 ≤ d) (h45 : 45 ≤ r) (hr : A[r]? = some (10, [.null, .null, .null, .null, .int 0])) : am_go d 100 [.ref r, .ref m, .ref v, .ref s, .ref u, .int (sb_i b)] A (.inl none, A.set r (10, [.ref m, .ref v, .ref s, .ref u, .int (sb_i b)])) := by
  refine wp_go ?_
  refine wp_st 1 (f' := (1, [some (.ref (r)), some (.ref (m)), some (.ref (v)), some (.ref (s)), some (.ref (u)), some (.int (sb_i b))], [.ref (r)], A)) rfl ?_
  refine wp_oi rfl rfl (by omega) rfl rfl ?_
  refine wp_st 2 (f' := (6, [some (.ref (r)), some (.ref (m)), some (.ref (v)), some (.ref (s)), some (.ref (u)), some (.int (sb_i b))], [.ref (m), .ref (r)], A)) rfl ?_
  obtain ⟨A1, e2⟩ : ∃ B, B = A.set (r) (10, [.ref (m), .null, .null, .null, .int (0)]) := ⟨_, rfl⟩
  refine wp_pf (A' := A1) rfl rfl hr rfl rfl (decide_eq_true (by omega)) rfl e2.symm ?_
  have g3 : A1[r]? = some (10, [.ref (m), .null, .null, .null, .int (0)]) := by rw [e2]; exact sb_ss hr
  refine wp_st 2 (f' := (11, [some (.ref (r)), some (.ref (m)), some (.ref (v)), some (.ref (s)), some (.ref (u)), some (.int (sb_i b))], [.ref (v), .ref (r)], A1)) rfl ?_
  obtain ⟨A4, e5⟩ : ∃ B, B = A1.set (r) (10, [.ref (m), .ref (v), .null, .null, .int (0)]) := ⟨_, rfl⟩
  refine wp_pf (A' := A4) rfl rfl g3 rfl rfl (decide_eq_true (by omega)) rfl e5.symm ?_
  have g6 : A4[r]? = some (10, [.ref (m), .ref (v), .null, .null, .int (0)]) := by rw [e5]; exact sb_ss g3
  refine wp_st 2 (f' := (16, [some (.ref (r)), some (.ref (m)), some (.ref (v)), some (.ref (s)), some (.ref (u)), some (.int (sb_i b))], [.ref (s), .ref (r)], A4)) rfl ?_
  obtain ⟨A7, e8⟩ : ∃ B, B = A4.set (r) (10, [.ref (m), .ref (v), .ref (s), .null, .int (0)]) := ⟨_, rfl⟩
  refine wp_pf (A' := A7) rfl rfl g6 rfl rfl (decide_eq_true (by omega)) rfl e8.symm ?_
  have g9 : A7[r]? = some (10, [.ref (m), .ref (v), .ref (s), .null, .int (0)]) := by rw [e8]; exact sb_ss g6
  refine wp_st 2 (f' := (22, [some (.ref (r)), some (.ref (m)), some (.ref (v)), some (.ref (s)), some (.ref (u)), some (.int (sb_i b))], [.ref (u), .ref (r)], A7)) rfl ?_
  obtain ⟨A10, e11⟩ : ∃ B, B = A7.set (r) (10, [.ref (m), .ref (v), .ref (s), .ref (u), .int (0)]) := ⟨_, rfl⟩
  refine wp_pf (A' := A10) rfl rfl g9 rfl rfl (decide_eq_true (by omega)) rfl e11.symm ?_
  have g12 : A10[r]? = some (10, [.ref (m), .ref (v), .ref (s), .ref (u), .int (0)]) := by rw [e11]; exact sb_ss g9
  refine wp_st 2 (f' := (28, [some (.ref (r)), some (.ref (m)), some (.ref (v)), some (.ref (s)), some (.ref (u)), some (.int (sb_i b))], [.int (sb_i b), .ref (r)], A10)) rfl ?_
  obtain ⟨A13, e14⟩ : ∃ B, B = A10.set (r) (10, [.ref (m), .ref (v), .ref (s), .ref (u), .int (sb_i b)]) := ⟨_, rfl⟩
  refine wp_pf (A' := A13) rfl rfl g12 (sb_fitz b) rfl (decide_eq_true (by omega)) rfl e14.symm ?_
  have g15 : A13[r]? = some (10, [.ref (m), .ref (v), .ref (s), .ref (u), .int (sb_i b)]) := by rw [e14]; exact sb_ss g12
  refine wp_rt rfl rfl rfl ?_
  subst e2
  subst e5
  subst e8
  subst e11
  subst e14
  first | rfl | (rw [List.set_set]; rfl) | (simp only [List.set_set]; rfl) | (simp only [List.set_set]; done)
