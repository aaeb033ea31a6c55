/-! The class Text. -/
theorem tx_start {d t c n a : Nat} {f : Int32} {cs : List Nat} {A : am_H} (hT : A[t]? = some (1, [.ref c, .int (Int32.ofNat n), .int (Int32.ofNat a), .int f])) (hC : A[c]? = some (102, cs.map sb_c)) (hl : cs.length = 120) (hn : n ≤ 120) (ha : a ≤ 120) (hb : ∀ k, cs.getD k 0 < 128) (h45 : 45 ≤ t) (hct : c ≠ t) : am_go d 26 [.ref t] A (.inl none, A.set t (1, [.ref c, .int (Int32.ofNat n), .int (Int32.ofNat 0), .int (-1)])) := by
  refine wp_go ?_
  refine wp_st 2 (f' := (2, [some (.ref (t))], [.int (Int32.ofNat 0), .ref (t)], A)) rfl ?_
  obtain ⟨A1, e2⟩ : ∃ B, B = A.set (t) (1, [.ref (c), .int (Int32.ofNat n), .int (Int32.ofNat 0), .int (f)]) := ⟨_, rfl⟩
  refine wp_pf rfl rfl hT rfl rfl (decide_eq_true (by omega)) rfl e2.symm ?_
  have g3 : A1[t]? = some (1, [.ref (c), .int (Int32.ofNat n), .int (Int32.ofNat 0), .int (f)]) := by rw [e2]; exact sb_ss hT
  have g4 : A1[c]? = some (102, cs.map sb_c) := by rw [e2]; exact sb_so (by omega) hC
  refine wp_st 2 (f' := (7, [some (.ref (t))], [.int ((-1)), .ref (t)], A1)) rfl ?_
  obtain ⟨A5, e6⟩ : ∃ B, B = A1.set (t) (1, [.ref (c), .int (Int32.ofNat n), .int (Int32.ofNat 0), .int ((-1))]) := ⟨_, rfl⟩
  refine wp_pf rfl rfl g3 rfl rfl (decide_eq_true (by omega)) rfl e6.symm ?_
  have g7 : A5[t]? = some (1, [.ref (c), .int (Int32.ofNat n), .int (Int32.ofNat 0), .int ((-1))]) := by rw [e6]; exact sb_ss g3
  have g8 : A5[c]? = some (102, cs.map sb_c) := by rw [e6]; exact sb_so (by omega) g4
  refine wp_rt rfl rfl rfl ?_
  simp_all [List.set_set]
theorem tx_refuse {d t c n a : Nat} {f : Int32} {cs : List Nat} {A : am_H} {x : Int32} (hT : A[t]? = some (1, [.ref c, .int (Int32.ofNat n), .int (Int32.ofNat a), .int f])) (hC : A[c]? = some (102, cs.map sb_c)) (hl : cs.length = 120) (hn : n ≤ 120) (ha : a ≤ 120) (hb : ∀ k, cs.getD k 0 < 128) (h45 : 45 ≤ t) (hct : c ≠ t) : am_go d 39 [.ref t, .int x] A (.inl (some (.int 0)), A.set t (1, [.ref c, .int (Int32.ofNat n), .int (Int32.ofNat a), .int (x)])) := by
  refine wp_go ?_
  refine wp_st 2 (f' := (2, [some (.ref (t)), some (.int (x))], [.int (x), .ref (t)], A)) rfl ?_
  obtain ⟨A1, e2⟩ : ∃ B, B = A.set (t) (1, [.ref (c), .int (Int32.ofNat n), .int (Int32.ofNat a), .int (x)]) := ⟨_, rfl⟩
  refine wp_pf rfl rfl hT rfl rfl (decide_eq_true (by omega)) rfl e2.symm ?_
  have g3 : A1[t]? = some (1, [.ref (c), .int (Int32.ofNat n), .int (Int32.ofNat a), .int (x)]) := by rw [e2]; exact sb_ss hT
  have g4 : A1[c]? = some (102, cs.map sb_c) := by rw [e2]; exact sb_so (by omega) hC
  refine wp_st 1 (f' := (6, [some (.ref (t)), some (.int (x))], [.int (Int32.ofNat 0)], A1)) rfl ?_
  refine wp_rt rfl rfl rfl ?_
  simp_all [List.set_set]
theorem tx_char {d t c n a : Nat} {f : Int32} {cs : List Nat} {A : am_H} {k : Nat} (hk : k ≤ 1000) (hT : A[t]? = some (1, [.ref c, .int (Int32.ofNat n), .int (Int32.ofNat a), .int f])) (hC : A[c]? = some (102, cs.map sb_c)) (hl : cs.length = 120) (hn : n ≤ 120) (ha : a ≤ 120) (hb : ∀ k, cs.getD k 0 < 128) (h45 : 45 ≤ t) (hct : c ≠ t) : am_go d 30 [.ref t, .int (Int32.ofNat k)] A (.inl (some (.int (sb_chr cs n k))), A) := by
  refine wp_go ?_
  refine wp_st 1 (f' := (1, [some (.ref (t)), some (.int (Int32.ofNat k))], [.int (Int32.ofNat k)], A)) rfl ?_
  refine wp_izF rfl rfl (Int32.ofNat_not_neg (by omega)) ?_
  refine wp_st 2 (f' := (6, [some (.ref (t)), some (.int (Int32.ofNat k))], [.ref (t), .int (Int32.ofNat k)], A)) rfl ?_
  refine wp_gf rfl rfl hT rfl rfl ?_
  refine wp_if rfl rfl rfl (fun (h1 : Int32.ofNat n ≤ Int32.ofNat k) => ?_) (fun (h1 : ¬ (Int32.ofNat n ≤ Int32.ofNat k)) => ?_)
  · skip
    rw [i32_le (by omega) (by omega)] at h1
    refine wp_st 1 (f' := (22, [some (.ref (t)), some (.int (Int32.ofNat k))], [.int ((-1))], A)) rfl ?_
    refine wp_rt rfl rfl rfl ?_
    simp_all [sb_chr, Nat.not_lt]
  · skip
    rw [i32_le (by omega) (by omega)] at h1
    refine wp_st 1 (f' := (13, [some (.ref (t)), some (.int (Int32.ofNat k))], [.ref (t)], A)) rfl ?_
    refine wp_gf rfl rfl hT rfl rfl ?_
    refine wp_st 1 (f' := (17, [some (.ref (t)), some (.int (Int32.ofNat k))], [.int (Int32.ofNat k), .ref (c)], A)) rfl ?_
    refine wp_al rfl (Or.inr (Or.inr (Or.inl ⟨rfl, rfl⟩))) rfl hC (by omega) (sb_gd 0 (by omega)) rfl ?_
    refine wp_st 1 (f' := (22, [some (.ref (t)), some (.int (Int32.ofNat k))], [.int (Int32.ofNat (cs.getD k 0))], A)) rfl ?_
    refine wp_rt rfl rfl rfl ?_
    simp_all [sb_chr, Nat.not_lt]
