/-! Output's methods. -/
theorem op_put {d u x : Nat} {w : List Nat} {A : am_H} (hx : x < 65536) (h : sb_O A u w) : sb_wrt d 102 [.ref u, .int (Int32.ofNat x)] A u w [x] := by
  have hh := h
  obtain ⟨cs, q0, q1, hl, hw, hk, h45⟩ := h
  unfold sb_oc at q0
  refine wp_goC ?_
  refine wp_st 1 (f' := (1, [some (.ref (u)), some (.int (Int32.ofNat x))], [.ref (u)], A)) rfl ?_
  refine wp_gf rfl rfl q0 rfl rfl ?_
  refine wp_izF rfl rfl (Int32.ofNat_not_neg (by omega)) ?_
  refine wp_st 1 (f' := (8, [some (.ref (u)), some (.int (Int32.ofNat x))], [.ref (u)], A)) rfl ?_
  refine wp_gf rfl rfl q0 rfl rfl ?_
  refine wp_st 1 (f' := (14, [some (.ref (u)), some (.int (Int32.ofNat x))], [.int (Int32.ofNat 160), .int (Int32.ofNat (w.length))], A)) rfl ?_
  refine wp_if rfl rfl rfl (fun (h1 : (Int32.ofNat (w.length)) < (Int32.ofNat 160)) => ?_) (fun (h1 : ¬ ((Int32.ofNat (w.length)) < (Int32.ofNat 160))) => ?_)
  · skip
    rw [i32_lt (by omega) (by omega)] at h1
    refine wp_st 1 (f' := (20, [some (.ref (u)), some (.int (Int32.ofNat x))], [.ref (u)], A)) rfl ?_
    refine wp_gf rfl rfl q0 rfl rfl ?_
    refine wp_st 1 (f' := (24, [some (.ref (u)), some (.int (Int32.ofNat x))], [.ref (u), .ref (u + 1)], A)) rfl ?_
    refine wp_gf rfl rfl q0 rfl rfl ?_
    refine wp_st 2 (f' := (29, [some (.ref (u)), some (.int (Int32.ofNat x))], [.int (((Int32.ofNat x).toUInt32 % 65536).toInt32), .int (Int32.ofNat (w.length)), .ref (u + 1)], A)) rfl ?_
    rw [i32_i2c (b := x) (by omega)]
    obtain ⟨A2, e3⟩ : ∃ B, B = A.set (u + 1) (102, (cs.set w.length x).map sb_c) := ⟨_, rfl⟩
    refine wp_as (A' := A2) rfl (Or.inr (Or.inl ⟨rfl, rfl, rfl⟩)) q1 (by omega) (by simp; omega) (decide_eq_true (by omega)) rfl (by rw [e3]; rw [sb_sc (by omega)]) ?_
    have g4 : A2[u]? = some (7, [.ref (u + 1), .int (Int32.ofNat (w.length))]) := by rw [e3]; exact sb_so (by omega) q0
    have g5 : A2[u + 1]? = some (102, (cs.set w.length x).map sb_c) := by rw [e3]; exact sb_ss q1
    have f6 : sb_fr A A2 u (u + 2) := (sb_fr.refl A u (u + 2)).set e3 q1 (by simp) (by omega) (by omega)
    refine wp_st 2 (f' := (32, [some (.ref (u)), some (.int (Int32.ofNat x))], [.ref (u), .ref (u)], A2)) rfl ?_
    refine wp_gf rfl rfl g4 rfl rfl ?_
    refine wp_st 2 (f' := (37, [some (.ref (u)), some (.int (Int32.ofNat x))], [.int ((Int32.ofNat (w.length)) + (Int32.ofNat 1)), .ref (u)], A2)) rfl ?_
    rw [i32_add (w.length) (1)]
    obtain ⟨A7, e8⟩ : ∃ B, B = A2.set (u) (7, [.ref (u + 1), .int (Int32.ofNat (w.length + 1))]) := ⟨_, rfl⟩
    refine wp_pf (A' := A7) rfl rfl g4 rfl rfl (decide_eq_true (by omega)) rfl e8.symm ?_
    have g9 : A7[u]? = some (7, [.ref (u + 1), .int (Int32.ofNat (w.length + 1))]) := by rw [e8]; exact sb_ss g4
    have g10 : A7[u + 1]? = some (102, (cs.set w.length x).map sb_c) := by rw [e8]; exact sb_so (by omega) g5
    have f11 : sb_fr A A7 u (u + 2) := f6.set e8 g4 (by simp) (by omega) (by omega)
    refine wp_st 1 (f' := (41, [some (.ref (u)), some (.int (Int32.ofNat x))], [.int (Int32.ofNat 0)], A7)) rfl ?_
    refine wp_rt rfl rfl rfl ?_
    refine ⟨0, w ++ [x], rfl, Or.inl ⟨by simp; omega, rfl, rfl⟩, ⟨_, ?_, g10, by simp [hl], by simp; omega, sb_take_set hk (by omega), h45⟩, f11⟩
    rw [g9, sb_oc, List.length_append]; rfl
  · skip
    rw [i32_lt (by omega) (by omega)] at h1
    refine wp_st 1 (f' := (18, [some (.ref (u)), some (.int (Int32.ofNat x))], [.int (Int32.ofNat 3)], A)) rfl ?_
    refine wp_rt rfl rfl rfl ?_
    exact ⟨3, w, rfl, Or.inr ⟨by simp; omega, rfl⟩, hh, (sb_fr.refl A u (u + 2))⟩
