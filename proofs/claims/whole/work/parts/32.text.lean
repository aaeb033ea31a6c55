/-! The class Text. -/
theorem tx_start {d t n a : Nat} {f : Int32} {cs : List Nat} {A : am_H} (h : sb_T A t cs n a f) : am_go d 26 [.ref t] A (.inl none, A.set t (sb_tc t n (0) (-1))) := by
  obtain ⟨hT, hC, hl, hn, ha, hb, h45⟩ := h
  unfold sb_tc at hT
  refine wp_go ?_
  refine wp_st 2 (f' := (2, [some (.ref (t))], [.int (Int32.ofNat 0), .ref (t)], A)) rfl ?_
  obtain ⟨A1, e2⟩ : ∃ B, B = A.set (t) (1, [.ref (t + 1), .int (Int32.ofNat n), .int (Int32.ofNat 0), .int (f)]) := ⟨_, rfl⟩
  refine wp_pf rfl rfl hT rfl rfl (decide_eq_true (by omega)) rfl e2.symm ?_
  have g3 : A1[t]? = some (1, [.ref (t + 1), .int (Int32.ofNat n), .int (Int32.ofNat 0), .int (f)]) := by rw [e2]; exact sb_ss hT
  have g4 : A1[t + 1]? = some (102, cs.map sb_c) := by rw [e2]; exact sb_so (by omega) hC
  refine wp_st 2 (f' := (7, [some (.ref (t))], [.int ((-1)), .ref (t)], A1)) rfl ?_
  obtain ⟨A5, e6⟩ : ∃ B, B = A1.set (t) (1, [.ref (t + 1), .int (Int32.ofNat n), .int (Int32.ofNat 0), .int ((-1))]) := ⟨_, rfl⟩
  refine wp_pf rfl rfl g3 rfl rfl (decide_eq_true (by omega)) rfl e6.symm ?_
  have g7 : A5[t]? = some (1, [.ref (t + 1), .int (Int32.ofNat n), .int (Int32.ofNat 0), .int ((-1))]) := by rw [e6]; exact sb_ss g3
  have g8 : A5[t + 1]? = some (102, cs.map sb_c) := by rw [e6]; exact sb_so (by omega) g4
  refine wp_rt rfl rfl rfl ?_
  subst e2
  subst e6
  first | rfl | (rw [List.set_set]; rfl) | (simp only [List.set_set]; rfl)
theorem tx_refuse {d t n a : Nat} {f : Int32} {cs : List Nat} {A : am_H} {x : Int32} (h : sb_T A t cs n a f) : am_go d 39 [.ref t, .int x] A (.inl (some (.int 0)), A.set t (sb_tc t n (a) (x))) := by
  obtain ⟨hT, hC, hl, hn, ha, hb, h45⟩ := h
  unfold sb_tc at hT
  refine wp_go ?_
  refine wp_st 2 (f' := (2, [some (.ref (t)), some (.int (x))], [.int (x), .ref (t)], A)) rfl ?_
  obtain ⟨A1, e2⟩ : ∃ B, B = A.set (t) (1, [.ref (t + 1), .int (Int32.ofNat n), .int (Int32.ofNat a), .int (x)]) := ⟨_, rfl⟩
  refine wp_pf rfl rfl hT rfl rfl (decide_eq_true (by omega)) rfl e2.symm ?_
  have g3 : A1[t]? = some (1, [.ref (t + 1), .int (Int32.ofNat n), .int (Int32.ofNat a), .int (x)]) := by rw [e2]; exact sb_ss hT
  have g4 : A1[t + 1]? = some (102, cs.map sb_c) := by rw [e2]; exact sb_so (by omega) hC
  refine wp_st 1 (f' := (6, [some (.ref (t)), some (.int (x))], [.int (Int32.ofNat 0)], A1)) rfl ?_
  refine wp_rt rfl rfl rfl ?_
  subst e2
  first | rfl | (rw [List.set_set]; rfl) | (simp only [List.set_set]; rfl)
theorem tx_char {d t n a : Nat} {f : Int32} {cs : List Nat} {A : am_H} {k : Nat} (hk : k ≤ 1000) (h : sb_T A t cs n a f) : am_go d 30 [.ref t, .int (Int32.ofNat k)] A (.inl (some (.int (sb_chr cs n k))), A) := by
  obtain ⟨hT, hC, hl, hn, ha, hb, h45⟩ := h
  unfold sb_tc at hT
  refine wp_go ?_
  refine wp_st 1 (f' := (1, [some (.ref (t)), some (.int (Int32.ofNat k))], [.int (Int32.ofNat k)], A)) rfl ?_
  refine wp_izF rfl rfl (Int32.ofNat_not_neg (by omega)) ?_
  refine wp_st 2 (f' := (6, [some (.ref (t)), some (.int (Int32.ofNat k))], [.ref (t), .int (Int32.ofNat k)], A)) rfl ?_
  refine wp_gf rfl rfl hT rfl rfl ?_
  refine wp_if rfl rfl rfl (fun (h1 : Int32.ofNat n ≤ Int32.ofNat k) => ?_) (fun (h1 : ¬ (Int32.ofNat n ≤ Int32.ofNat k)) => ?_)
  · skip
    rw [i32_le (by omega) (by omega)] at h1
    refine wp_st 1 (f' := (22, [some (.ref (t)), some (.int (Int32.ofNat k))], [.int ((-1))], A)) rfl ?_
    refine wp_rt rfl rfl rfl ?_
    rw [sb_chr, if_neg (by omega)]
  · skip
    rw [i32_le (by omega) (by omega)] at h1
    refine wp_st 1 (f' := (13, [some (.ref (t)), some (.int (Int32.ofNat k))], [.ref (t)], A)) rfl ?_
    refine wp_gf rfl rfl hT rfl rfl ?_
    refine wp_st 1 (f' := (17, [some (.ref (t)), some (.int (Int32.ofNat k))], [.int (Int32.ofNat k), .ref (t + 1)], A)) rfl ?_
    refine wp_al rfl (Or.inr (Or.inr (Or.inl ⟨rfl, rfl⟩))) rfl hC (by omega) (sb_gd 0 (by omega)) rfl ?_
    refine wp_st 1 (f' := (22, [some (.ref (t)), some (.int (Int32.ofNat k))], [.int (Int32.ofNat (cs.getD k 0))], A)) rfl ?_
    refine wp_rt rfl rfl rfl ?_
    rw [sb_chr, if_pos (by omega)]
theorem tx_take1 {d t n a : Nat} {f : Int32} {cs : List Nat} {A : am_H} {x : Nat} (hx : x < 128) (h1 : a < n) (h2 : cs.getD a 0 = x) (h : sb_T A t cs n a f) : am_go d 34 [.ref t, .int (Int32.ofNat x)] A (.inl (some (.int 1)), A.set t (sb_tc t n (a + 1) (f))) := by
  have hba := h.2.2.2.2.2.1 a
  obtain ⟨hT, hC, hl, hn, ha, hb, h45⟩ := h
  unfold sb_tc at hT
  refine wp_go ?_
  refine wp_st 1 (f' := (1, [some (.ref (t)), some (.int (Int32.ofNat x))], [.ref (t)], A)) rfl ?_
  refine wp_gf rfl rfl hT rfl rfl ?_
  refine wp_izF rfl rfl (Int32.ofNat_not_neg (by omega)) ?_
  refine wp_st 1 (f' := (8, [some (.ref (t)), some (.int (Int32.ofNat x))], [.ref (t)], A)) rfl ?_
  refine wp_gf rfl rfl hT rfl rfl ?_
  refine wp_st 1 (f' := (12, [some (.ref (t)), some (.int (Int32.ofNat x))], [.ref (t), .int (Int32.ofNat a)], A)) rfl ?_
  refine wp_gf rfl rfl hT rfl rfl ?_
  refine wp_ifF rfl rfl (fun q => absurd ((i32_le (a := n) (b := a) (by omega) (by omega)).mp q) (by omega)) ?_
  refine wp_st 1 (f' := (19, [some (.ref (t)), some (.int (Int32.ofNat x))], [.ref (t)], A)) rfl ?_
  refine wp_gf rfl rfl hT rfl rfl ?_
  refine wp_st 1 (f' := (23, [some (.ref (t)), some (.int (Int32.ofNat x))], [.ref (t), .ref (t + 1)], A)) rfl ?_
  refine wp_gf rfl rfl hT rfl rfl ?_
  refine wp_al rfl (Or.inr (Or.inr (Or.inl ⟨rfl, rfl⟩))) rfl hC (by omega) (sb_gd 0 (by omega)) rfl ?_
  refine wp_st 1 (f' := (28, [some (.ref (t)), some (.int (Int32.ofNat x))], [.int (Int32.ofNat x), .int (Int32.ofNat (cs.getD a 0))], A)) rfl ?_
  refine wp_ifT rfl rfl ((i32_eq (a := cs.getD a 0) (b := x) (by omega) (by omega)).mpr (by omega)) ?_
  refine wp_st 2 (f' := (35, [some (.ref (t)), some (.int (Int32.ofNat x))], [.ref (t), .ref (t)], A)) rfl ?_
  refine wp_gf rfl rfl hT rfl rfl ?_
  refine wp_st 2 (f' := (40, [some (.ref (t)), some (.int (Int32.ofNat x))], [.int ((Int32.ofNat a) + (Int32.ofNat 1)), .ref (t)], A)) rfl ?_
  rw [i32_add (a) (1)]
  obtain ⟨A1, e2⟩ : ∃ B, B = A.set (t) (1, [.ref (t + 1), .int (Int32.ofNat n), .int (Int32.ofNat (a + 1)), .int (f)]) := ⟨_, rfl⟩
  refine wp_pf rfl rfl hT rfl rfl (decide_eq_true (by omega)) rfl e2.symm ?_
  have g3 : A1[t]? = some (1, [.ref (t + 1), .int (Int32.ofNat n), .int (Int32.ofNat (a + 1)), .int (f)]) := by rw [e2]; exact sb_ss hT
  have g4 : A1[t + 1]? = some (102, cs.map sb_c) := by rw [e2]; exact sb_so (by omega) hC
  refine wp_st 1 (f' := (44, [some (.ref (t)), some (.int (Int32.ofNat x))], [.int (Int32.ofNat 1)], A1)) rfl ?_
  refine wp_rt rfl rfl rfl ?_
  subst e2
  first | rfl | (rw [List.set_set]; rfl) | (simp only [List.set_set]; rfl)
theorem tx_take0 {d t n a : Nat} {f : Int32} {cs : List Nat} {A : am_H} {x : Nat} (hx : x < 128) (h2 : ¬ (a < n ∧ cs.getD a 0 = x)) (h : sb_T A t cs n a f) : am_go d 34 [.ref t, .int (Int32.ofNat x)] A (.inl (some (.int 0)), A) := by
  have hba := h.2.2.2.2.2.1 a
  obtain ⟨hT, hC, hl, hn, ha, hb, h45⟩ := h
  unfold sb_tc at hT
  refine wp_go ?_
  refine wp_st 1 (f' := (1, [some (.ref (t)), some (.int (Int32.ofNat x))], [.ref (t)], A)) rfl ?_
  refine wp_gf rfl rfl hT rfl rfl ?_
  refine wp_izF rfl rfl (Int32.ofNat_not_neg (by omega)) ?_
  refine wp_st 1 (f' := (8, [some (.ref (t)), some (.int (Int32.ofNat x))], [.ref (t)], A)) rfl ?_
  refine wp_gf rfl rfl hT rfl rfl ?_
  refine wp_st 1 (f' := (12, [some (.ref (t)), some (.int (Int32.ofNat x))], [.ref (t), .int (Int32.ofNat a)], A)) rfl ?_
  refine wp_gf rfl rfl hT rfl rfl ?_
  refine wp_if rfl rfl rfl (fun (h1 : Int32.ofNat n ≤ Int32.ofNat a) => ?_) (fun (h1 : ¬ (Int32.ofNat n ≤ Int32.ofNat a)) => ?_)
  · skip
    rw [i32_le (by omega) (by omega)] at h1
    refine wp_st 1 (f' := (32, [some (.ref (t)), some (.int (Int32.ofNat x))], [.int (Int32.ofNat 0)], A)) rfl ?_
    refine wp_rt rfl rfl rfl ?_
    rfl
  · skip
    rw [i32_le (by omega) (by omega)] at h1
    refine wp_st 1 (f' := (19, [some (.ref (t)), some (.int (Int32.ofNat x))], [.ref (t)], A)) rfl ?_
    refine wp_gf rfl rfl hT rfl rfl ?_
    refine wp_st 1 (f' := (23, [some (.ref (t)), some (.int (Int32.ofNat x))], [.ref (t), .ref (t + 1)], A)) rfl ?_
    refine wp_gf rfl rfl hT rfl rfl ?_
    refine wp_al rfl (Or.inr (Or.inr (Or.inl ⟨rfl, rfl⟩))) rfl hC (by omega) (sb_gd 0 (by omega)) rfl ?_
    refine wp_st 1 (f' := (28, [some (.ref (t)), some (.int (Int32.ofNat x))], [.int (Int32.ofNat x), .int (Int32.ofNat (cs.getD a 0))], A)) rfl ?_
    refine wp_if rfl rfl rfl (fun (h2 : Int32.ofNat (cs.getD a 0) = Int32.ofNat x) => ?_) (fun (h2 : ¬ (Int32.ofNat (cs.getD a 0) = Int32.ofNat x)) => ?_)
    · skip
      rw [i32_eq (by omega) (by omega)] at h2
      refine wp_st 2 (f' := (35, [some (.ref (t)), some (.int (Int32.ofNat x))], [.ref (t), .ref (t)], A)) rfl ?_
      refine wp_gf rfl rfl hT rfl rfl ?_
      refine wp_st 2 (f' := (40, [some (.ref (t)), some (.int (Int32.ofNat x))], [.int ((Int32.ofNat a) + (Int32.ofNat 1)), .ref (t)], A)) rfl ?_
      rw [i32_add (a) (1)]
      obtain ⟨A3, e4⟩ : ∃ B, B = A.set (t) (1, [.ref (t + 1), .int (Int32.ofNat n), .int (Int32.ofNat (a + 1)), .int (f)]) := ⟨_, rfl⟩
      refine wp_pf rfl rfl hT rfl rfl (decide_eq_true (by omega)) rfl e4.symm ?_
      have g5 : A3[t]? = some (1, [.ref (t + 1), .int (Int32.ofNat n), .int (Int32.ofNat (a + 1)), .int (f)]) := by rw [e4]; exact sb_ss hT
      have g6 : A3[t + 1]? = some (102, cs.map sb_c) := by rw [e4]; exact sb_so (by omega) hC
      refine wp_st 1 (f' := (44, [some (.ref (t)), some (.int (Int32.ofNat x))], [.int (Int32.ofNat 1)], A3)) rfl ?_
      refine wp_rt rfl rfl rfl ?_
      exfalso
      omega
    · skip
      rw [i32_eq (by omega) (by omega)] at h2
      refine wp_st 1 (f' := (32, [some (.ref (t)), some (.int (Int32.ofNat x))], [.int (Int32.ofNat 0)], A)) rfl ?_
      refine wp_rt rfl rfl rfl ?_
      rfl
theorem tx_rowEnd_l {d t n a : Nat} {f : Int32} {cs : List Nat} {A : am_H} {lo hi : Nat} (hlo : lo < 128) (hhi : hi < 128) (h : sb_T A t cs n a f) : ∀ (k e : Nat), n - e = k → e ≤ 120 → am_wp d 37 (5, [some (.ref t), some (.int (Int32.ofNat lo)), some (.int (Int32.ofNat hi)), some (.int (Int32.ofNat e))], [], A) (fun q => q = (.inl (some (.int (Int32.ofNat (sb_end lo hi cs n k e)))), A)) := by
  obtain ⟨hT, hC, hl, hn, ha, hb, h45⟩ := h
  unfold sb_tc at hT
  intro k
  induction k with
  | zero =>
    intro e h1 h2
    refine wp_st 1 (f' := (6, [some (.ref (t)), some (.int (Int32.ofNat lo)), some (.int (Int32.ofNat hi)), some (.int (Int32.ofNat e))], [.int (Int32.ofNat e)], A)) rfl ?_
    refine wp_izF rfl rfl (Int32.ofNat_not_neg (by omega)) ?_
    refine wp_st 2 (f' := (11, [some (.ref (t)), some (.int (Int32.ofNat lo)), some (.int (Int32.ofNat hi)), some (.int (Int32.ofNat e))], [.ref (t), .int (Int32.ofNat e)], A)) rfl ?_
    refine wp_gf rfl rfl hT rfl rfl ?_
    refine wp_ifT rfl rfl ((i32_le (a := n) (b := e) (by omega) (by omega)).mpr (by omega)) ?_
    refine wp_st 1 (f' := (44, [some (.ref (t)), some (.int (Int32.ofNat lo)), some (.int (Int32.ofNat hi)), some (.int (Int32.ofNat e))], [.int (Int32.ofNat e)], A)) rfl ?_
    refine wp_rt rfl rfl rfl ?_
    rfl
  | succ k ih =>
    intro e h1 h2
    have hbe := hb e
    refine wp_st 1 (f' := (6, [some (.ref (t)), some (.int (Int32.ofNat lo)), some (.int (Int32.ofNat hi)), some (.int (Int32.ofNat e))], [.int (Int32.ofNat e)], A)) rfl ?_
    refine wp_izF rfl rfl (Int32.ofNat_not_neg (by omega)) ?_
    refine wp_st 2 (f' := (11, [some (.ref (t)), some (.int (Int32.ofNat lo)), some (.int (Int32.ofNat hi)), some (.int (Int32.ofNat e))], [.ref (t), .int (Int32.ofNat e)], A)) rfl ?_
    refine wp_gf rfl rfl hT rfl rfl ?_
    refine wp_ifF rfl rfl (fun q => absurd ((i32_le (a := n) (b := e) (by omega) (by omega)).mp q) (by omega)) ?_
    refine wp_st 1 (f' := (18, [some (.ref (t)), some (.int (Int32.ofNat lo)), some (.int (Int32.ofNat hi)), some (.int (Int32.ofNat e))], [.ref (t)], A)) rfl ?_
    refine wp_gf rfl rfl hT rfl rfl ?_
    refine wp_st 1 (f' := (22, [some (.ref (t)), some (.int (Int32.ofNat lo)), some (.int (Int32.ofNat hi)), some (.int (Int32.ofNat e))], [.int (Int32.ofNat e), .ref (t + 1)], A)) rfl ?_
    refine wp_al rfl (Or.inr (Or.inr (Or.inl ⟨rfl, rfl⟩))) rfl hC (by omega) (sb_gd 0 (by omega)) rfl ?_
    refine wp_st 1 (f' := (24, [some (.ref (t)), some (.int (Int32.ofNat lo)), some (.int (Int32.ofNat hi)), some (.int (Int32.ofNat e))], [.int (Int32.ofNat lo), .int (Int32.ofNat (cs.getD e 0))], A)) rfl ?_
    refine wp_if rfl rfl rfl (fun (h1 : Int32.ofNat (cs.getD e 0) < Int32.ofNat lo) => ?_) (fun (h1 : ¬ (Int32.ofNat (cs.getD e 0) < Int32.ofNat lo)) => ?_)
    · skip
      rw [i32_lt (by omega) (by omega)] at h1
      refine wp_st 1 (f' := (44, [some (.ref (t)), some (.int (Int32.ofNat lo)), some (.int (Int32.ofNat hi)), some (.int (Int32.ofNat e))], [.int (Int32.ofNat e)], A)) rfl ?_
      refine wp_rt rfl rfl rfl ?_
      rw [sb_end, if_neg (by omega)]
    · skip
      rw [i32_lt (by omega) (by omega)] at h1
      refine wp_st 1 (f' := (28, [some (.ref (t)), some (.int (Int32.ofNat lo)), some (.int (Int32.ofNat hi)), some (.int (Int32.ofNat e))], [.ref (t)], A)) rfl ?_
      refine wp_gf rfl rfl hT rfl rfl ?_
      refine wp_st 1 (f' := (32, [some (.ref (t)), some (.int (Int32.ofNat lo)), some (.int (Int32.ofNat hi)), some (.int (Int32.ofNat e))], [.int (Int32.ofNat e), .ref (t + 1)], A)) rfl ?_
      refine wp_al rfl (Or.inr (Or.inr (Or.inl ⟨rfl, rfl⟩))) rfl hC (by omega) (sb_gd 0 (by omega)) rfl ?_
      refine wp_st 1 (f' := (34, [some (.ref (t)), some (.int (Int32.ofNat lo)), some (.int (Int32.ofNat hi)), some (.int (Int32.ofNat e))], [.int (Int32.ofNat hi), .int (Int32.ofNat (cs.getD e 0))], A)) rfl ?_
      refine wp_if rfl rfl rfl (fun (h2 : Int32.ofNat hi < Int32.ofNat (cs.getD e 0)) => ?_) (fun (h2 : ¬ (Int32.ofNat hi < Int32.ofNat (cs.getD e 0))) => ?_)
      · skip
        rw [i32_lt (by omega) (by omega)] at h2
        refine wp_st 1 (f' := (44, [some (.ref (t)), some (.int (Int32.ofNat lo)), some (.int (Int32.ofNat hi)), some (.int (Int32.ofNat e))], [.int (Int32.ofNat e)], A)) rfl ?_
        refine wp_rt rfl rfl rfl ?_
        rw [sb_end, if_neg (by omega)]
      · skip
        rw [i32_lt (by omega) (by omega)] at h2
        refine wp_st 1 (f' := (40, [some (.ref (t)), some (.int (Int32.ofNat lo)), some (.int (Int32.ofNat hi)), some (.int ((Int32.ofNat e) + (Int32.ofNat 1)))], [], A)) rfl ?_
        rw [i32_add (e) (1)]
        refine wp_st 1 (f' := (5, [some (.ref (t)), some (.int (Int32.ofNat lo)), some (.int (Int32.ofNat hi)), some (.int (Int32.ofNat (e + 1)))], [], A)) rfl ?_
        have h9 := ih (e + 1) (by omega) (by omega)
        rw [sb_end, if_pos ⟨by omega, by omega⟩]
        exact h9
theorem tx_rowEnd {d t n a : Nat} {f : Int32} {cs : List Nat} {A : am_H} {lo hi : Nat} (hlo : lo < 128) (hhi : hi < 128) (h : sb_T A t cs n a f) : am_go d 37 [.ref t, .int (Int32.ofNat lo), .int (Int32.ofNat hi)] A (.inl (some (.int (Int32.ofNat (sb_re lo hi cs n a)))), A) := by
  have hh := h
  obtain ⟨hT, hC, hl, hn, ha, hb, h45⟩ := h
  unfold sb_tc at hT
  refine wp_go ?_
  refine wp_st 1 (f' := (1, [some (.ref (t)), some (.int (Int32.ofNat lo)), some (.int (Int32.ofNat hi)), none], [.ref (t)], A)) rfl ?_
  refine wp_gf rfl rfl hT rfl rfl ?_
  refine wp_st 1 (f' := (5, [some (.ref (t)), some (.int (Int32.ofNat lo)), some (.int (Int32.ofNat hi)), some (.int (Int32.ofNat a))], [], A)) rfl ?_
  exact tx_rowEnd_l hlo hhi hh (n - a) a rfl ha
theorem tx_skip {d t n a : Nat} {f : Int32} {cs : List Nat} {A : am_H} (hd : 1 ≤ d) (h : sb_T A t cs n a f) : am_go d 36 [.ref t] A (.inl none, A.set t (sb_tc t n (sb_re 32 32 cs n a) (f))) := by
  have hh := h
  obtain ⟨hT, hC, hl, hn, ha, hb, h45⟩ := h
  unfold sb_tc at hT
  refine wp_go ?_
  refine wp_st 4 (f' := (6, [some (.ref (t))], [.int (Int32.ofNat 32), .int (Int32.ofNat 32), .ref (t), .ref (t)], A)) rfl ?_
  refine wp_cv (A' := A) (v := some (.int (Int32.ofNat (sb_re 32 32 cs n a)))) rfl rfl rfl rfl rfl hT (by omega) (tx_rowEnd (by omega) (by omega) hh) rfl ?_
  show am_wp d 36 (9, [some (.ref (t))], [.int (Int32.ofNat (sb_re 32 32 cs n a)), .ref (t)], A) _
  obtain ⟨A1, e2⟩ : ∃ B, B = A.set (t) (1, [.ref (t + 1), .int (Int32.ofNat n), .int (Int32.ofNat (sb_re 32 32 cs n a)), .int (f)]) := ⟨_, rfl⟩
  refine wp_pf rfl rfl hT rfl rfl (decide_eq_true (by omega)) rfl e2.symm ?_
  have g3 : A1[t]? = some (1, [.ref (t + 1), .int (Int32.ofNat n), .int (Int32.ofNat (sb_re 32 32 cs n a)), .int (f)]) := by rw [e2]; exact sb_ss hT
  have g4 : A1[t + 1]? = some (102, cs.map sb_c) := by rw [e2]; exact sb_so (by omega) hC
  refine wp_rt rfl rfl rfl ?_
  subst e2
  first | rfl | (rw [List.set_set]; rfl) | (simp only [List.set_set]; rfl)
theorem tx_need1 {d t n a : Nat} {f : Int32} {cs : List Nat} {A : am_H} {x : Nat} (hd : 1 ≤ d) (hx : x < 128) (h1 : a < n) (h2 : cs.getD a 0 = x) (h : sb_T A t cs n a f) : am_go d 41 [.ref t, .int (Int32.ofNat x)] A (.inl (some (.int 1)), A.set t (sb_tc t n (a + 1) (f))) := by
  have hh := h
  obtain ⟨hT, hC, hl, hn, ha, hb, h45⟩ := h
  unfold sb_tc at hT
  refine wp_go ?_
  refine wp_st 2 (f' := (2, [some (.ref (t)), some (.int (Int32.ofNat x))], [.int (Int32.ofNat x), .ref (t)], A)) rfl ?_
  obtain ⟨A1, e2⟩ : ∃ B, B = A.set (t) (1, [.ref (t + 1), .int (Int32.ofNat n), .int (Int32.ofNat (a + 1)), .int (f)]) := ⟨_, rfl⟩
  have g3 : A1[t]? = some (1, [.ref (t + 1), .int (Int32.ofNat n), .int (Int32.ofNat (a + 1)), .int (f)]) := by rw [e2]; exact sb_ss hT
  have g4 : A1[t + 1]? = some (102, cs.map sb_c) := by rw [e2]; exact sb_so (by omega) hC
  refine wp_cv (A' := A1) (v := some (.int (Int32.ofNat 1))) rfl rfl rfl rfl rfl hT (by omega) (by rw [e2]; exact tx_take1 hx h1 h2 hh) rfl ?_
  show am_wp d 41 (5, [some (.ref (t)), some (.int (Int32.ofNat x))], [.int (Int32.ofNat 1)], A1) _
  refine wp_izT rfl rfl (by show (1 : Int32) ≠ 0; decide) ?_
  refine wp_st 2 (f' := (24, [some (.ref (t)), some (.int (Int32.ofNat x))], [.int (Int32.ofNat 1)], A1)) rfl ?_
  refine wp_rt rfl rfl rfl ?_
  subst e2
  first | rfl | (rw [List.set_set]; rfl) | (simp only [List.set_set]; rfl)
theorem tx_need0 {d t n a : Nat} {f : Int32} {cs : List Nat} {A : am_H} {x : Nat} (hd : 1 ≤ d) (hx : x < 128) (h2 : ¬ (a < n ∧ cs.getD a 0 = x)) (h : sb_T A t cs n a f) : am_go d 41 [.ref t, .int (Int32.ofNat x)] A (.inl (some (.int 0)), A.set t (sb_tc t n (a) (Int32.ofNat a))) := by
  have hh := h
  obtain ⟨hT, hC, hl, hn, ha, hb, h45⟩ := h
  unfold sb_tc at hT
  refine wp_go ?_
  refine wp_st 2 (f' := (2, [some (.ref (t)), some (.int (Int32.ofNat x))], [.int (Int32.ofNat x), .ref (t)], A)) rfl ?_
  refine wp_cv (A' := A) (v := some (.int (Int32.ofNat 0))) rfl rfl rfl rfl rfl hT (by omega) (tx_take0 hx h2 hh) rfl ?_
  show am_wp d 41 (5, [some (.ref (t)), some (.int (Int32.ofNat x))], [.int (Int32.ofNat 0)], A) _
  refine wp_izF rfl rfl (by show ¬ ((0 : Int32) ≠ 0); decide) ?_
  refine wp_st 2 (f' := (10, [some (.ref (t)), some (.int (Int32.ofNat x))], [.ref (t), .ref (t)], A)) rfl ?_
  refine wp_gf rfl rfl hT rfl rfl ?_
  obtain ⟨A1, e2⟩ : ∃ B, B = A.set (t) (1, [.ref (t + 1), .int (Int32.ofNat n), .int (Int32.ofNat a), .int (Int32.ofNat a)]) := ⟨_, rfl⟩
  have g3 : A1[t]? = some (1, [.ref (t + 1), .int (Int32.ofNat n), .int (Int32.ofNat a), .int (Int32.ofNat a)]) := by rw [e2]; exact sb_ss hT
  have g4 : A1[t + 1]? = some (102, cs.map sb_c) := by rw [e2]; exact sb_so (by omega) hC
  refine wp_cv (A' := A1) (v := some (.int (Int32.ofNat 0))) rfl rfl rfl rfl rfl hT (by omega) (by rw [e2]; exact tx_refuse hh) rfl ?_
  show am_wp d 41 (16, [some (.ref (t)), some (.int (Int32.ofNat x))], [.int (Int32.ofNat 0)], A1) _
  refine wp_izT rfl rfl (rfl) ?_
  refine wp_st 1 (f' := (24, [some (.ref (t)), some (.int (Int32.ofNat x))], [.int (Int32.ofNat 0)], A1)) rfl ?_
  refine wp_rt rfl rfl rfl ?_
  subst e2
  first | rfl | (rw [List.set_set]; rfl) | (simp only [List.set_set]; rfl)
theorem tx_pack_l {d t n e : Nat} {cs : List Nat} (hen : e ≤ n) : ∀ (k j : Nat) (f : Int32) (w : Int64) (A : am_H), e - j = k → j ≤ e → sb_T A t cs n j f → am_wp d 40 (2, [some (.ref t), some (.int (Int32.ofNat e)), some (.long w), none], [], A) (fun q => q = (.inl (some (.long (sb_pk cs k j w))), A.set t (sb_tc t n e f))) := by
  intro k
  induction k with
  | zero =>
    intro j f w A h1 h2 h
    obtain ⟨hT, hC, hl, hn, ha, hb, h45⟩ := h
    unfold sb_tc at hT
    obtain rfl : j = e := by omega
    refine wp_st 1 (f' := (3, [some (.ref (t)), some (.int (Int32.ofNat j)), some (.long (w)), none], [.ref (t)], A)) rfl ?_
    refine wp_gf rfl rfl hT rfl rfl ?_
    refine wp_st 1 (f' := (7, [some (.ref (t)), some (.int (Int32.ofNat j)), some (.long (w)), none], [.int (Int32.ofNat j), .int (Int32.ofNat j)], A)) rfl ?_
    refine wp_ifT rfl rfl ((i32_le (a := j) (b := j) (by omega) (by omega)).mpr (by omega)) ?_
    refine wp_st 1 (f' := (51, [some (.ref (t)), some (.int (Int32.ofNat j)), some (.long (w)), none], [.long (w)], A)) rfl ?_
    refine wp_rt rfl rfl rfl ?_
    rw [show A.set t (sb_tc t n j f) = A from sb_set_same hT]
    rfl
  | succ k ih =>
    intro j f w A h1 h2 h
    have hh := h
    obtain ⟨hT, hC, hl, hn, ha, hb, h45⟩ := h
    unfold sb_tc at hT
    have hbj := hb j
    refine wp_st 1 (f' := (3, [some (.ref (t)), some (.int (Int32.ofNat e)), some (.long (w)), none], [.ref (t)], A)) rfl ?_
    refine wp_gf rfl rfl hT rfl rfl ?_
    refine wp_st 1 (f' := (7, [some (.ref (t)), some (.int (Int32.ofNat e)), some (.long (w)), none], [.int (Int32.ofNat e), .int (Int32.ofNat j)], A)) rfl ?_
    refine wp_ifF rfl rfl (fun q => absurd ((i32_le (a := e) (b := j) (by omega) (by omega)).mp q) (by omega)) ?_
    refine wp_st 1 (f' := (11, [some (.ref (t)), some (.int (Int32.ofNat e)), some (.long (w)), none], [.ref (t)], A)) rfl ?_
    refine wp_gf rfl rfl hT rfl rfl ?_
    refine wp_st 1 (f' := (15, [some (.ref (t)), some (.int (Int32.ofNat e)), some (.long (w)), none], [.ref (t), .int (Int32.ofNat j)], A)) rfl ?_
    refine wp_gf rfl rfl hT rfl rfl ?_
    refine wp_ifF rfl rfl (fun q => absurd ((i32_le (a := n) (b := j) (by omega) (by omega)).mp q) (by omega)) ?_
    refine wp_st 4 (f' := (26, [some (.ref (t)), some (.int (Int32.ofNat e)), some (.long (w)), none], [.ref (t), .long (w <<< ((Int32.ofNat 8).toInt64 &&& 63))], A)) rfl ?_
    refine wp_gf rfl rfl hT rfl rfl ?_
    refine wp_st 1 (f' := (30, [some (.ref (t)), some (.int (Int32.ofNat e)), some (.long (w)), none], [.ref (t), .ref (t + 1), .long (w <<< ((Int32.ofNat 8).toInt64 &&& 63))], A)) rfl ?_
    refine wp_gf rfl rfl hT rfl rfl ?_
    refine wp_al rfl (Or.inr (Or.inr (Or.inl ⟨rfl, rfl⟩))) rfl hC (by omega) (sb_gd 0 (by omega)) rfl ?_
    refine wp_st 1 (f' := (35, [some (.ref (t)), some (.int (Int32.ofNat e)), some (.long (w)), none], [.long ((Int32.ofNat (cs.getD j 0)).toInt64), .long (w <<< ((Int32.ofNat 8).toInt64 &&& 63))], A)) rfl ?_
    rw [i64_of (b := cs.getD j 0) (by omega)]
    refine wp_st 4 (f' := (39, [some (.ref (t)), some (.int (Int32.ofNat e)), some (.long ((w <<< ((Int32.ofNat 8).toInt64 &&& 63)) ||| (Int64.ofNat (cs.getD j 0)))), none], [.ref (t), .ref (t)], A)) rfl ?_
    refine wp_gf rfl rfl hT rfl rfl ?_
    refine wp_st 2 (f' := (44, [some (.ref (t)), some (.int (Int32.ofNat e)), some (.long ((w <<< ((Int32.ofNat 8).toInt64 &&& 63)) ||| (Int64.ofNat (cs.getD j 0)))), none], [.int ((Int32.ofNat j) + (Int32.ofNat 1)), .ref (t)], A)) rfl ?_
    rw [i32_add (j) (1)]
    obtain ⟨A1, e2⟩ : ∃ B, B = A.set (t) (1, [.ref (t + 1), .int (Int32.ofNat n), .int (Int32.ofNat (j + 1)), .int (f)]) := ⟨_, rfl⟩
    refine wp_pf rfl rfl hT rfl rfl (decide_eq_true (by omega)) rfl e2.symm ?_
    have g3 : A1[t]? = some (1, [.ref (t + 1), .int (Int32.ofNat n), .int (Int32.ofNat (j + 1)), .int (f)]) := by rw [e2]; exact sb_ss hT
    have g4 : A1[t + 1]? = some (102, cs.map sb_c) := by rw [e2]; exact sb_so (by omega) hC
    refine wp_st 1 (f' := (2, [some (.ref (t)), some (.int (Int32.ofNat e)), some (.long ((w <<< ((Int32.ofNat 8).toInt64 &&& 63)) ||| (Int64.ofNat (cs.getD j 0)))), none], [], A1)) rfl ?_
    have h9 := ih (j + 1) f (w <<< ((Int32.ofNat 8).toInt64 &&& 63) ||| Int64.ofNat (cs.getD j 0)) A1 (by omega) (by omega) (by rw [e2]; exact hh.set (by omega))
    rw [e2, List.set_set] at h9
    rw [e2]
    exact h9
theorem tx_pack {d t n a e : Nat} {f : Int32} {cs : List Nat} {A : am_H} (hen : e ≤ n) (hae : a ≤ e) (h : sb_T A t cs n a f) : am_go d 40 [.ref t, .int (Int32.ofNat e)] A (.inl (some (.long (sb_pk cs (e - a) a 0))), A.set t (sb_tc t n e f)) := by
  have hh := h
  obtain ⟨hT, hC, hl, hn, ha, hb, h45⟩ := h
  unfold sb_tc at hT
  refine wp_go ?_
  refine wp_st 2 (f' := (2, [some (.ref (t)), some (.int (Int32.ofNat e)), some (.long (Int64.ofNat 0)), none], [], A)) rfl ?_
  exact tx_pack_l hen (e - a) a f (Int64.ofNat 0) A rfl hae hh
theorem tx_num_l {d t n e mo : Nat} {cs : List Nat} (hen : e ≤ n) : ∀ (k j : Nat) (f : Int32) (w : Nat) (A : am_H), e - j = k → j ≤ e → (∀ i, j ≤ i → i < e → 48 ≤ cs.getD i 0) → sb_T A t cs n j f → am_wp d 54 (57, [some (.ref t), some (.int (Int32.ofNat mo)), some (.int (Int32.ofNat e)), some (.int (Int32.ofNat w))], [], A) (fun q => q = (.inl (some (.int (Int32.ofNat (sb_num cs k j w)))), A.set t (sb_tc t n e f))) := by
  intro k
  induction k with
  | zero =>
    intro j f w A h1 h2 h3 h
    obtain ⟨hT, hC, hl, hn, ha, hb, h45⟩ := h
    unfold sb_tc at hT
    obtain rfl : j = e := by omega
    refine wp_st 1 (f' := (58, [some (.ref (t)), some (.int (Int32.ofNat mo)), some (.int (Int32.ofNat j)), some (.int (Int32.ofNat w))], [.ref (t)], A)) rfl ?_
    refine wp_gf rfl rfl hT rfl rfl ?_
    refine wp_st 1 (f' := (62, [some (.ref (t)), some (.int (Int32.ofNat mo)), some (.int (Int32.ofNat j)), some (.int (Int32.ofNat w))], [.int (Int32.ofNat j), .int (Int32.ofNat j)], A)) rfl ?_
    refine wp_ifT rfl rfl ((i32_le (a := j) (b := j) (by omega) (by omega)).mpr (by omega)) ?_
    refine wp_st 1 (f' := (108, [some (.ref (t)), some (.int (Int32.ofNat mo)), some (.int (Int32.ofNat j)), some (.int (Int32.ofNat w))], [.int (Int32.ofNat w)], A)) rfl ?_
    refine wp_rt rfl rfl rfl ?_
    rw [show A.set t (sb_tc t n j f) = A from sb_set_same hT]
    rfl
  | succ k ih =>
    intro j f w A h1 h2 h3 h
    have hh := h
    obtain ⟨hT, hC, hl, hn, ha, hb, h45⟩ := h
    unfold sb_tc at hT
    have hbj := hb j
    have hdj := h3 j (by omega) (by omega)
    refine wp_st 1 (f' := (58, [some (.ref (t)), some (.int (Int32.ofNat mo)), some (.int (Int32.ofNat e)), some (.int (Int32.ofNat w))], [.ref (t)], A)) rfl ?_
    refine wp_gf rfl rfl hT rfl rfl ?_
    refine wp_st 1 (f' := (62, [some (.ref (t)), some (.int (Int32.ofNat mo)), some (.int (Int32.ofNat e)), some (.int (Int32.ofNat w))], [.int (Int32.ofNat e), .int (Int32.ofNat j)], A)) rfl ?_
    refine wp_ifF rfl rfl (fun q => absurd ((i32_le (a := e) (b := j) (by omega) (by omega)).mp q) (by omega)) ?_
    refine wp_st 1 (f' := (66, [some (.ref (t)), some (.int (Int32.ofNat mo)), some (.int (Int32.ofNat e)), some (.int (Int32.ofNat w))], [.ref (t)], A)) rfl ?_
    refine wp_gf rfl rfl hT rfl rfl ?_
    refine wp_st 1 (f' := (70, [some (.ref (t)), some (.int (Int32.ofNat mo)), some (.int (Int32.ofNat e)), some (.int (Int32.ofNat w))], [.ref (t), .int (Int32.ofNat j)], A)) rfl ?_
    refine wp_gf rfl rfl hT rfl rfl ?_
    refine wp_ifF rfl rfl (fun q => absurd ((i32_le (a := n) (b := j) (by omega) (by omega)).mp q) (by omega)) ?_
    refine wp_st 3 (f' := (80, [some (.ref (t)), some (.int (Int32.ofNat mo)), some (.int (Int32.ofNat e)), some (.int (Int32.ofNat w))], [.int ((Int32.ofNat w) * (Int32.ofNat 10))], A)) rfl ?_
    rw [i32_mul (w) (10)]
    refine wp_st 1 (f' := (81, [some (.ref (t)), some (.int (Int32.ofNat mo)), some (.int (Int32.ofNat e)), some (.int (Int32.ofNat w))], [.ref (t), .int (Int32.ofNat (w * 10))], A)) rfl ?_
    refine wp_gf rfl rfl hT rfl rfl ?_
    refine wp_st 1 (f' := (85, [some (.ref (t)), some (.int (Int32.ofNat mo)), some (.int (Int32.ofNat e)), some (.int (Int32.ofNat w))], [.ref (t), .ref (t + 1), .int (Int32.ofNat (w * 10))], A)) rfl ?_
    refine wp_gf rfl rfl hT rfl rfl ?_
    refine wp_al rfl (Or.inr (Or.inr (Or.inl ⟨rfl, rfl⟩))) rfl hC (by omega) (sb_gd 0 (by omega)) rfl ?_
    refine wp_st 2 (f' := (92, [some (.ref (t)), some (.int (Int32.ofNat mo)), some (.int (Int32.ofNat e)), some (.int (Int32.ofNat w))], [.int ((Int32.ofNat (cs.getD j 0)) - (Int32.ofNat 48)), .int (Int32.ofNat (w * 10))], A)) rfl ?_
    rw [i32_sub (a := cs.getD j 0) (b := 48) (by omega)]
    refine wp_st 1 (f' := (93, [some (.ref (t)), some (.int (Int32.ofNat mo)), some (.int (Int32.ofNat e)), some (.int (Int32.ofNat w))], [.int ((Int32.ofNat (w * 10)) + (Int32.ofNat ((cs.getD j 0) - 48)))], A)) rfl ?_
    rw [i32_add (w * 10) ((cs.getD j 0) - 48)]
    refine wp_st 3 (f' := (96, [some (.ref (t)), some (.int (Int32.ofNat mo)), some (.int (Int32.ofNat e)), some (.int (Int32.ofNat (w * 10 + ((cs.getD j 0) - 48))))], [.ref (t), .ref (t)], A)) rfl ?_
    refine wp_gf rfl rfl hT rfl rfl ?_
    refine wp_st 2 (f' := (101, [some (.ref (t)), some (.int (Int32.ofNat mo)), some (.int (Int32.ofNat e)), some (.int (Int32.ofNat (w * 10 + ((cs.getD j 0) - 48))))], [.int ((Int32.ofNat j) + (Int32.ofNat 1)), .ref (t)], A)) rfl ?_
    rw [i32_add (j) (1)]
    obtain ⟨A1, e2⟩ : ∃ B, B = A.set (t) (1, [.ref (t + 1), .int (Int32.ofNat n), .int (Int32.ofNat (j + 1)), .int (f)]) := ⟨_, rfl⟩
    refine wp_pf rfl rfl hT rfl rfl (decide_eq_true (by omega)) rfl e2.symm ?_
    have g3 : A1[t]? = some (1, [.ref (t + 1), .int (Int32.ofNat n), .int (Int32.ofNat (j + 1)), .int (f)]) := by rw [e2]; exact sb_ss hT
    have g4 : A1[t + 1]? = some (102, cs.map sb_c) := by rw [e2]; exact sb_so (by omega) hC
    refine wp_st 1 (f' := (57, [some (.ref (t)), some (.int (Int32.ofNat mo)), some (.int (Int32.ofNat e)), some (.int (Int32.ofNat (w * 10 + ((cs.getD j 0) - 48))))], [], A1)) rfl ?_
    have h9 := ih (j + 1) f (w * 10 + (cs.getD j 0 - 48)) A1 (by omega) (by omega) (fun i q1 q2 => h3 i (by omega) q2) (by rw [e2]; exact hh.set (by omega))
    rw [e2, List.set_set] at h9
    rw [e2]
    exact h9
theorem tx_num1 {d t n a mo : Nat} {f : Int32} {cs : List Nat} {A : am_H} (hd : 1 ≤ d) (hmo : mo ≤ 9) (han : a ≤ n) {e : Nat} (he : e = sb_re 48 57 cs n a) (h1 : a < e) (h2 : e - a ≤ mo) (h : sb_T A t cs n a f) : am_go d 54 [.ref t, .int (Int32.ofNat mo)] A (.inl (some (.int (Int32.ofNat (sb_num cs (e - a) a 0)))), A.set t (sb_tc t n e f)) := by
  have hh := h
  have hle := sb_re_le (lo := 48) (hi := 57) (cs := cs) (n := n) (a := a)
  rw [← he] at hle
  have hle2 := hle.2.1 han
  obtain ⟨hT, hC, hl, hn, ha, hb, h45⟩ := h
  unfold sb_tc at hT
  refine wp_go ?_
  refine wp_st 3 (f' := (5, [some (.ref (t)), some (.int (Int32.ofNat mo)), none, none], [.int (Int32.ofNat 57), .int (Int32.ofNat 48), .ref (t)], A)) rfl ?_
  refine wp_cv (A' := A) (v := some (.int (Int32.ofNat e))) rfl rfl rfl rfl rfl hT (by omega) (by rw [he]; exact tx_rowEnd (by omega) (by omega) hh) rfl ?_
  show am_wp d 54 (8, [some (.ref (t)), some (.int (Int32.ofNat mo)), none, none], [.int (Int32.ofNat e)], A) _
  refine wp_st 3 (f' := (11, [some (.ref (t)), some (.int (Int32.ofNat mo)), some (.int (Int32.ofNat e)), none], [.ref (t), .int (Int32.ofNat e)], A)) rfl ?_
  refine wp_gf rfl rfl hT rfl rfl ?_
  refine wp_ifF rfl rfl (fun q => absurd ((i32_eq (a := e) (b := a) (by omega) (by omega)).mp q) (by omega)) ?_
  refine wp_st 2 (f' := (19, [some (.ref (t)), some (.int (Int32.ofNat mo)), some (.int (Int32.ofNat e)), none], [.ref (t), .int (Int32.ofNat e)], A)) rfl ?_
  refine wp_gf rfl rfl hT rfl rfl ?_
  refine wp_st 1 (f' := (23, [some (.ref (t)), some (.int (Int32.ofNat mo)), some (.int (Int32.ofNat e)), none], [.int ((Int32.ofNat e) - (Int32.ofNat a))], A)) rfl ?_
  rw [i32_sub (a := e) (b := a) (by omega)]
  refine wp_st 1 (f' := (24, [some (.ref (t)), some (.int (Int32.ofNat mo)), some (.int (Int32.ofNat e)), none], [.int (Int32.ofNat mo), .int (Int32.ofNat (e - a))], A)) rfl ?_
  refine wp_ifT rfl rfl ((i32_le (a := e - a) (b := mo) (by omega) (by omega)).mpr (by omega)) ?_
  refine wp_st 2 (f' := (57, [some (.ref (t)), some (.int (Int32.ofNat mo)), some (.int (Int32.ofNat e)), some (.int (Int32.ofNat 0))], [], A)) rfl ?_
  have h9 := tx_num_l (d := d) (mo := mo) (e := e) (by omega) (e - a) a f 0 A rfl (by omega) (fun i q1 q2 => (sb_re_in (lo := 48) (hi := 57) (n := n) q1 (by omega)).1) hh
  exact h9
theorem tx_num0a {d t n a mo : Nat} {f : Int32} {cs : List Nat} {A : am_H} (hd : 1 ≤ d) (hmo : mo ≤ 9) (han : a ≤ n) {e : Nat} (he : e = sb_re 48 57 cs n a) (h1 : a = e) (h : sb_T A t cs n a f) : am_go d 54 [.ref t, .int (Int32.ofNat mo)] A (.inl (some (.int (-1))), A.set t (sb_tc t n a (Int32.ofNat a))) := by
  have hh := h
  obtain ⟨hT, hC, hl, hn, ha, hb, h45⟩ := h
  unfold sb_tc at hT
  refine wp_go ?_
  refine wp_st 3 (f' := (5, [some (.ref (t)), some (.int (Int32.ofNat mo)), none, none], [.int (Int32.ofNat 57), .int (Int32.ofNat 48), .ref (t)], A)) rfl ?_
  refine wp_cv (A' := A) (v := some (.int (Int32.ofNat e))) rfl rfl rfl rfl rfl hT (by omega) (by rw [he]; exact tx_rowEnd (by omega) (by omega) hh) rfl ?_
  show am_wp d 54 (8, [some (.ref (t)), some (.int (Int32.ofNat mo)), none, none], [.int (Int32.ofNat e)], A) _
  refine wp_st 3 (f' := (11, [some (.ref (t)), some (.int (Int32.ofNat mo)), some (.int (Int32.ofNat e)), none], [.ref (t), .int (Int32.ofNat e)], A)) rfl ?_
  refine wp_gf rfl rfl hT rfl rfl ?_
  refine wp_ifT rfl rfl ((i32_eq (a := e) (b := a) (by omega) (by omega)).mpr (by omega)) ?_
  refine wp_st 3 (f' := (30, [some (.ref (t)), some (.int (Int32.ofNat mo)), some (.int (Int32.ofNat e)), none], [.ref (t), .int (Int32.ofNat e), .ref (t)], A)) rfl ?_
  refine wp_gf rfl rfl hT rfl rfl ?_
  refine wp_ifF rfl rfl (fun q => q ((i32_eq (a := e) (b := a) (by omega) (by omega)).mpr (by omega))) ?_
  refine wp_st 1 (f' := (37, [some (.ref (t)), some (.int (Int32.ofNat mo)), some (.int (Int32.ofNat e)), none], [.ref (t), .ref (t)], A)) rfl ?_
  refine wp_gf rfl rfl hT rfl rfl ?_
  refine wp_st 1 (f' := (49, [some (.ref (t)), some (.int (Int32.ofNat mo)), some (.int (Int32.ofNat e)), none], [.int (Int32.ofNat a), .ref (t)], A)) rfl ?_
  obtain ⟨A1, e2⟩ : ∃ B, B = A.set (t) (1, [.ref (t + 1), .int (Int32.ofNat n), .int (Int32.ofNat a), .int (Int32.ofNat a)]) := ⟨_, rfl⟩
  have g3 : A1[t]? = some (1, [.ref (t + 1), .int (Int32.ofNat n), .int (Int32.ofNat a), .int (Int32.ofNat a)]) := by rw [e2]; exact sb_ss hT
  have g4 : A1[t + 1]? = some (102, cs.map sb_c) := by rw [e2]; exact sb_so (by omega) hC
  refine wp_cv (A' := A1) (v := some (.int (Int32.ofNat 0))) rfl rfl rfl rfl rfl hT (by omega) (by rw [e2]; exact tx_refuse hh) rfl ?_
  show am_wp d 54 (52, [some (.ref (t)), some (.int (Int32.ofNat mo)), some (.int (Int32.ofNat e)), none], [.int (Int32.ofNat 0)], A1) _
  refine wp_st 2 (f' := (54, [some (.ref (t)), some (.int (Int32.ofNat mo)), some (.int (Int32.ofNat e)), none], [.int ((-1))], A1)) rfl ?_
  refine wp_rt rfl rfl rfl ?_
  subst e2
  first | rfl | (rw [List.set_set]; rfl) | (simp only [List.set_set]; rfl)
theorem tx_num0b {d t n a mo : Nat} {f : Int32} {cs : List Nat} {A : am_H} (hd : 1 ≤ d) (hmo : mo ≤ 9) (han : a ≤ n) {e : Nat} (he : e = sb_re 48 57 cs n a) (h1 : a < e) (h2 : mo < e - a) (h : sb_T A t cs n a f) : am_go d 54 [.ref t, .int (Int32.ofNat mo)] A (.inl (some (.int (-1))), A.set t (sb_tc t n a (Int32.ofNat (a + mo)))) := by
  have hh := h
  have hle := sb_re_le (lo := 48) (hi := 57) (cs := cs) (n := n) (a := a)
  rw [← he] at hle
  have hle2 := hle.2.1 han
  obtain ⟨hT, hC, hl, hn, ha, hb, h45⟩ := h
  unfold sb_tc at hT
  refine wp_go ?_
  refine wp_st 3 (f' := (5, [some (.ref (t)), some (.int (Int32.ofNat mo)), none, none], [.int (Int32.ofNat 57), .int (Int32.ofNat 48), .ref (t)], A)) rfl ?_
  refine wp_cv (A' := A) (v := some (.int (Int32.ofNat e))) rfl rfl rfl rfl rfl hT (by omega) (by rw [he]; exact tx_rowEnd (by omega) (by omega) hh) rfl ?_
  show am_wp d 54 (8, [some (.ref (t)), some (.int (Int32.ofNat mo)), none, none], [.int (Int32.ofNat e)], A) _
  refine wp_st 3 (f' := (11, [some (.ref (t)), some (.int (Int32.ofNat mo)), some (.int (Int32.ofNat e)), none], [.ref (t), .int (Int32.ofNat e)], A)) rfl ?_
  refine wp_gf rfl rfl hT rfl rfl ?_
  refine wp_ifF rfl rfl (fun q => absurd ((i32_eq (a := e) (b := a) (by omega) (by omega)).mp q) (by omega)) ?_
  refine wp_st 2 (f' := (19, [some (.ref (t)), some (.int (Int32.ofNat mo)), some (.int (Int32.ofNat e)), none], [.ref (t), .int (Int32.ofNat e)], A)) rfl ?_
  refine wp_gf rfl rfl hT rfl rfl ?_
  refine wp_st 1 (f' := (23, [some (.ref (t)), some (.int (Int32.ofNat mo)), some (.int (Int32.ofNat e)), none], [.int ((Int32.ofNat e) - (Int32.ofNat a))], A)) rfl ?_
  rw [i32_sub (a := e) (b := a) (by omega)]
  refine wp_st 1 (f' := (24, [some (.ref (t)), some (.int (Int32.ofNat mo)), some (.int (Int32.ofNat e)), none], [.int (Int32.ofNat mo), .int (Int32.ofNat (e - a))], A)) rfl ?_
  refine wp_ifF rfl rfl (fun q => absurd ((i32_le (a := e - a) (b := mo) (by omega) (by omega)).mp q) (by omega)) ?_
  refine wp_st 3 (f' := (30, [some (.ref (t)), some (.int (Int32.ofNat mo)), some (.int (Int32.ofNat e)), none], [.ref (t), .int (Int32.ofNat e), .ref (t)], A)) rfl ?_
  refine wp_gf rfl rfl hT rfl rfl ?_
  refine wp_ifT rfl rfl (fun q => absurd ((i32_eq (a := e) (b := a) (by omega) (by omega)).mp q) (by omega)) ?_
  refine wp_st 1 (f' := (44, [some (.ref (t)), some (.int (Int32.ofNat mo)), some (.int (Int32.ofNat e)), none], [.ref (t), .ref (t)], A)) rfl ?_
  refine wp_gf rfl rfl hT rfl rfl ?_
  refine wp_st 2 (f' := (49, [some (.ref (t)), some (.int (Int32.ofNat mo)), some (.int (Int32.ofNat e)), none], [.int ((Int32.ofNat a) + (Int32.ofNat mo)), .ref (t)], A)) rfl ?_
  rw [i32_add (a) (mo)]
  obtain ⟨A1, e2⟩ : ∃ B, B = A.set (t) (1, [.ref (t + 1), .int (Int32.ofNat n), .int (Int32.ofNat a), .int (Int32.ofNat (a + mo))]) := ⟨_, rfl⟩
  have g3 : A1[t]? = some (1, [.ref (t + 1), .int (Int32.ofNat n), .int (Int32.ofNat a), .int (Int32.ofNat (a + mo))]) := by rw [e2]; exact sb_ss hT
  have g4 : A1[t + 1]? = some (102, cs.map sb_c) := by rw [e2]; exact sb_so (by omega) hC
  refine wp_cv (A' := A1) (v := some (.int (Int32.ofNat 0))) rfl rfl rfl rfl rfl hT (by omega) (by rw [e2]; exact tx_refuse hh) rfl ?_
  show am_wp d 54 (52, [some (.ref (t)), some (.int (Int32.ofNat mo)), some (.int (Int32.ofNat e)), none], [.int (Int32.ofNat 0)], A1) _
  refine wp_st 2 (f' := (54, [some (.ref (t)), some (.int (Int32.ofNat mo)), some (.int (Int32.ofNat e)), none], [.int ((-1))], A1)) rfl ?_
  refine wp_rt rfl rfl rfl ?_
  subst e2
  first | rfl | (rw [List.set_set]; rfl) | (simp only [List.set_set]; rfl)
