/-! String, as far as the class calls it. -/
theorem js_coder {d s v : Nat} {bs : List Nat} {A : am_H} (h : sb_S A s v bs) : am_go d 46 [.ref s] A (.inl (some (.int 0)), A) := by
  have hh := h
  obtain ⟨hS, hV, hb, hL⟩ := h
  refine wp_go ?_
  refine wp_st 1 (f' := (3, [some (.ref (s))], [.int (Int32.ofNat 1)], A)) rfl ?_
  refine wp_izF rfl rfl (by show ¬ ((1 : Int32) = 0); decide) ?_
  refine wp_st 1 (f' := (7, [some (.ref (s))], [.ref (s)], A)) rfl ?_
  refine wp_gf rfl rfl hS rfl rfl ?_
  refine wp_st 1 (f' := (14, [some (.ref (s))], [.int (Int32.ofNat 0)], A)) rfl ?_
  refine wp_rt rfl rfl rfl ?_
  first | rfl | (rw [List.set_set]; rfl) | (simp only [List.set_set]; rfl)
theorem js_latin {d s v : Nat} {bs : List Nat} {A : am_H} (h : sb_S A s v bs) : am_go d 48 [.ref s] A (.inl (some (.int 1)), A) := by
  have hh := h
  obtain ⟨hS, hV, hb, hL⟩ := h
  refine wp_go ?_
  refine wp_st 1 (f' := (3, [some (.ref (s))], [.int (Int32.ofNat 1)], A)) rfl ?_
  refine wp_izF rfl rfl (by show ¬ ((1 : Int32) = 0); decide) ?_
  refine wp_st 1 (f' := (7, [some (.ref (s))], [.ref (s)], A)) rfl ?_
  refine wp_gf rfl rfl hS rfl rfl ?_
  refine wp_izF rfl rfl (by show ¬ ((0 : Int32) ≠ 0); decide) ?_
  refine wp_st 2 (f' := (18, [some (.ref (s))], [.int (Int32.ofNat 1)], A)) rfl ?_
  refine wp_rt rfl rfl rfl ?_
  first | rfl | (rw [List.set_set]; rfl) | (simp only [List.set_set]; rfl)
theorem js_len {d s v : Nat} {bs : List Nat} {A : am_H} (hd : 1 ≤ d) (h : sb_S A s v bs) : am_go d 45 [.ref s] A (.inl (some (.int (Int32.ofNat bs.length))), A) := by
  have hh := h
  obtain ⟨hS, hV, hb, hL⟩ := h
  refine wp_go ?_
  refine wp_st 1 (f' := (1, [some (.ref (s))], [.ref (s)], A)) rfl ?_
  refine wp_gf rfl rfl hS rfl rfl ?_
  refine wp_ln rfl hV rfl rfl rfl ?_
  rw [show (bs.map sb_c).length = bs.length from by simp]
  refine wp_st 1 (f' := (6, [some (.ref (s))], [.ref (s), .int (Int32.ofNat (bs.length))], A)) rfl ?_
  refine wp_cv (A' := A) (v := some (.int (Int32.ofNat 0))) rfl rfl rfl rfl rfl hS (by omega) (js_coder hh) rfl ?_
  show am_wp d 45 (9, [some (.ref (s))], [.int (Int32.ofNat 0), .int (Int32.ofNat (bs.length))], A) _
  refine wp_st 1 (f' := (10, [some (.ref (s))], [.int ((Int32.ofNat (bs.length)) >>> ((Int32.ofNat 0) &&& 31))], A)) rfl ?_
  rw [i32_shr0]
  refine wp_rt rfl rfl rfl ?_
  first | rfl | (rw [List.set_set]; rfl) | (simp only [List.set_set]; rfl)
theorem js_ci {d k n : Nat} {A : am_H} (hk : k < n) (hn : n < 1000) : am_go d 51 [.int (Int32.ofNat k), .int (Int32.ofNat n), .retAddr 0] A (.inl (some (.int (Int32.ofNat k))), A) := by
  refine wp_go ?_
  refine wp_st 1 (f' := (1, [some (.int (Int32.ofNat k)), some (.int (Int32.ofNat n)), some (.retAddr 0)], [.int (Int32.ofNat k)], A)) rfl ?_
  refine wp_izF rfl rfl (Int32.ofNat_not_neg (by omega)) ?_
  refine wp_st 2 (f' := (6, [some (.int (Int32.ofNat k)), some (.int (Int32.ofNat n)), some (.retAddr 0)], [.int (Int32.ofNat n), .int (Int32.ofNat k)], A)) rfl ?_
  refine wp_ifT rfl rfl ((i32_lt (a := k) (b := n) (by omega) (by omega)).mpr (by omega)) ?_
  refine wp_st 1 (f' := (17, [some (.int (Int32.ofNat k)), some (.int (Int32.ofNat n)), some (.retAddr 0)], [.int (Int32.ofNat k)], A)) rfl ?_
  refine wp_rt rfl rfl rfl ?_
  first | rfl | (rw [List.set_set]; rfl) | (simp only [List.set_set]; rfl)
theorem js_ck {d k n : Nat} {A : am_H} (hd : 1 ≤ d) (hk : k < n) (hn : n < 1000) : am_go d 50 [.int (Int32.ofNat k), .int (Int32.ofNat n)] A (.inl none, A) := by
  refine wp_go ?_
  refine wp_st 3 (f' := (5, [some (.int (Int32.ofNat k)), some (.int (Int32.ofNat n))], [.retAddr 0, .int (Int32.ofNat n), .int (Int32.ofNat k)], A)) rfl ?_
  refine wp_cs (n := 0) (A' := A) (v := some (.int (Int32.ofNat k))) rfl rfl rfl (by omega) (js_ci hk hn) rfl ?_
  show am_wp d 50 (8, [some (.int (Int32.ofNat k)), some (.int (Int32.ofNat n))], [.int (Int32.ofNat k)], A) _
  refine wp_st 1 (f' := (9, [some (.int (Int32.ofNat k)), some (.int (Int32.ofNat n))], [], A)) rfl ?_
  refine wp_rt rfl rfl rfl ?_
  first | rfl | (rw [List.set_set]; rfl) | (simp only [List.set_set]; rfl)
theorem js_lat {d s v k : Nat} {bs : List Nat} {A : am_H} (hd : 2 ≤ d) (hk : k < bs.length) (h : sb_S A s v bs) : am_go d 49 [.ref v, .int (Int32.ofNat k)] A (.inl (some (.int (Int32.ofNat (bs.getD k 0)))), A) := by
  have hbk := h.2.2.1 k
  have hh := h
  obtain ⟨hS, hV, hb, hL⟩ := h
  refine wp_go ?_
  refine wp_st 2 (f' := (2, [some (.ref (v)), some (.int (Int32.ofNat k))], [.ref (v), .int (Int32.ofNat k)], A)) rfl ?_
  refine wp_ln rfl hV rfl rfl rfl ?_
  rw [show (bs.map sb_c).length = bs.length from by simp]
  refine wp_cs (n := 0) (A' := A) (v := none) rfl rfl rfl (by omega) (js_ck (by omega) hk (by omega)) rfl ?_
  show am_wp d 49 (6, [some (.ref (v)), some (.int (Int32.ofNat k))], [], A) _
  refine wp_st 2 (f' := (8, [some (.ref (v)), some (.int (Int32.ofNat k))], [.int (Int32.ofNat k), .ref (v)], A)) rfl ?_
  refine wp_al rfl (Or.inr (Or.inr (Or.inr (Or.inl ⟨rfl, rfl⟩)))) rfl hV (by omega) (sb_gd 0 (by omega)) rfl ?_
  refine wp_st 2 (f' := (13, [some (.ref (v)), some (.int (Int32.ofNat k))], [.int ((Int32.ofNat (bs.getD k 0)) &&& (Int32.ofNat 255))], A)) rfl ?_
  rw [i32_and255 (b := bs.getD k 0) (by omega)]
  refine wp_st 1 (f' := (14, [some (.ref (v)), some (.int (Int32.ofNat k))], [.int (((Int32.ofNat (bs.getD k 0)).toUInt32 % 65536).toInt32)], A)) rfl ?_
  rw [i32_i2c (b := bs.getD k 0) (by omega)]
  refine wp_rt rfl rfl (sb_ret rfl (sb_fitc (by omega))) ?_
  first | rfl | (rw [List.set_set]; rfl) | (simp only [List.set_set]; rfl)
theorem js_charAt {d s v k : Nat} {bs : List Nat} {A : am_H} (hd : 3 ≤ d) (hk : k < bs.length) (h : sb_S A s v bs) : am_go d 47 [.ref s, .int (Int32.ofNat k)] A (.inl (some (.int (Int32.ofNat (bs.getD k 0)))), A) := by
  have hbk := h.2.2.1 k
  have hh := h
  obtain ⟨hS, hV, hb, hL⟩ := h
  refine wp_go ?_
  refine wp_st 1 (f' := (1, [some (.ref (s)), some (.int (Int32.ofNat k))], [.ref (s)], A)) rfl ?_
  refine wp_cv (A' := A) (v := some (.int (Int32.ofNat 1))) rfl rfl rfl rfl rfl hS (by omega) (js_latin hh) rfl ?_
  show am_wp d 47 (4, [some (.ref (s)), some (.int (Int32.ofNat k))], [.int (Int32.ofNat 1)], A) _
  refine wp_izF rfl rfl (by show ¬ ((1 : Int32) = 0); decide) ?_
  refine wp_st 1 (f' := (8, [some (.ref (s)), some (.int (Int32.ofNat k))], [.ref (s)], A)) rfl ?_
  refine wp_gf rfl rfl hS rfl rfl ?_
  refine wp_st 1 (f' := (12, [some (.ref (s)), some (.int (Int32.ofNat k))], [.int (Int32.ofNat k), .ref (v)], A)) rfl ?_
  refine wp_cs (n := 0) (A' := A) (v := some (.int (Int32.ofNat (bs.getD k 0)))) rfl rfl rfl (by omega) (js_lat (by omega) hk hh) rfl ?_
  show am_wp d 47 (15, [some (.ref (s)), some (.int (Int32.ofNat k))], [.int (Int32.ofNat (bs.getD k 0))], A) _
  refine wp_rt rfl rfl (sb_ret rfl (sb_fitc (by omega))) ?_
  first | rfl | (rw [List.set_set]; rfl) | (simp only [List.set_set]; rfl)
theorem tx_word_l {d t n a e s v : Nat} {f : Int32} {cs bs : List Nat} {A : am_H} (hd : 4 ≤ d) (hen : a + bs.length ≤ n) (h : sb_T A t cs n a f) (h9 : sb_S A s v bs) : ∀ (k j : Nat), bs.length - j = k → j ≤ bs.length → am_wp d 44 (25, [some (.ref t), some (.ref s), some (.int (Int32.ofNat e)), some (.int (Int32.ofNat j))], [], A) (fun q => q = (.inl (some (.int (sb_i (sb_eqw cs bs a k j)))), A)) := by
  have hh := h
  have hw := h9
  obtain ⟨hT, hC, hl, hn, ha, hb, h45⟩ := h
  unfold sb_tc at hT
  obtain ⟨hS, hV, hc, hL⟩ := h9
  intro k
  induction k with
  | zero =>
    intro j h1 h2
    refine wp_st 2 (f' := (27, [some (.ref (t)), some (.ref (s)), some (.int (Int32.ofNat e)), some (.int (Int32.ofNat j))], [.ref (s), .int (Int32.ofNat j)], A)) rfl ?_
    refine wp_cv (A' := A) (v := some (.int (Int32.ofNat (bs.length)))) rfl rfl rfl rfl rfl hS (by omega) (js_len (by omega) hw) rfl ?_
    show am_wp d 44 (30, [some (.ref (t)), some (.ref (s)), some (.int (Int32.ofNat e)), some (.int (Int32.ofNat j))], [.int (Int32.ofNat (bs.length)), .int (Int32.ofNat j)], A) _
    refine wp_ifT rfl rfl ((i32_le (a := bs.length) (b := j) (by omega) (by omega)).mpr (by omega)) ?_
    refine wp_st 1 (f' := (61, [some (.ref (t)), some (.ref (s)), some (.int (Int32.ofNat e)), some (.int (Int32.ofNat j))], [.int (Int32.ofNat 1)], A)) rfl ?_
    refine wp_rt rfl rfl rfl ?_
    rfl
  | succ k ih =>
    intro j h1 h2
    have hbj := hb (a + j)
    have hcj := hc j
    refine wp_st 2 (f' := (27, [some (.ref (t)), some (.ref (s)), some (.int (Int32.ofNat e)), some (.int (Int32.ofNat j))], [.ref (s), .int (Int32.ofNat j)], A)) rfl ?_
    refine wp_cv (A' := A) (v := some (.int (Int32.ofNat (bs.length)))) rfl rfl rfl rfl rfl hS (by omega) (js_len (by omega) hw) rfl ?_
    show am_wp d 44 (30, [some (.ref (t)), some (.ref (s)), some (.int (Int32.ofNat e)), some (.int (Int32.ofNat j))], [.int (Int32.ofNat (bs.length)), .int (Int32.ofNat j)], A) _
    refine wp_ifF rfl rfl (fun q => absurd ((i32_le (a := bs.length) (b := j) (by omega) (by omega)).mp q) (by omega)) ?_
    refine wp_st 1 (f' := (34, [some (.ref (t)), some (.ref (s)), some (.int (Int32.ofNat e)), some (.int (Int32.ofNat j))], [.ref (t)], A)) rfl ?_
    refine wp_gf rfl rfl hT rfl rfl ?_
    refine wp_st 1 (f' := (38, [some (.ref (t)), some (.ref (s)), some (.int (Int32.ofNat e)), some (.int (Int32.ofNat j))], [.ref (t), .ref (t + 1)], A)) rfl ?_
    refine wp_gf rfl rfl hT rfl rfl ?_
    refine wp_st 2 (f' := (43, [some (.ref (t)), some (.ref (s)), some (.int (Int32.ofNat e)), some (.int (Int32.ofNat j))], [.int ((Int32.ofNat a) + (Int32.ofNat j)), .ref (t + 1)], A)) rfl ?_
    rw [i32_add (a) (j)]
    refine wp_al rfl (Or.inr (Or.inr (Or.inl ⟨rfl, rfl⟩))) rfl hC (by omega) (sb_gd 0 (by omega)) rfl ?_
    refine wp_st 2 (f' := (46, [some (.ref (t)), some (.ref (s)), some (.int (Int32.ofNat e)), some (.int (Int32.ofNat j))], [.int (Int32.ofNat j), .ref (s), .int (Int32.ofNat (cs.getD (a + j) 0))], A)) rfl ?_
    refine wp_cv (A' := A) (v := some (.int (Int32.ofNat (bs.getD j 0)))) rfl rfl rfl rfl rfl hS (by omega) (js_charAt (by omega) (by omega) hw) rfl ?_
    show am_wp d 44 (49, [some (.ref (t)), some (.ref (s)), some (.int (Int32.ofNat e)), some (.int (Int32.ofNat j))], [.int (Int32.ofNat (bs.getD j 0)), .int (Int32.ofNat (cs.getD (a + j) 0))], A) _
    refine wp_if rfl rfl rfl (fun (h1 : Int32.ofNat (cs.getD (a + j) 0) = Int32.ofNat (bs.getD j 0)) => ?_) (fun (h1 : ¬ (Int32.ofNat (cs.getD (a + j) 0) = Int32.ofNat (bs.getD j 0))) => ?_)
    · skip
      rw [i32_eq (by omega) (by omega)] at h1
      refine wp_st 1 (f' := (57, [some (.ref (t)), some (.ref (s)), some (.int (Int32.ofNat e)), some (.int ((Int32.ofNat j) + (Int32.ofNat 1)))], [], A)) rfl ?_
      rw [i32_add (j) (1)]
      refine wp_st 1 (f' := (25, [some (.ref (t)), some (.ref (s)), some (.int (Int32.ofNat e)), some (.int (Int32.ofNat (j + 1)))], [], A)) rfl ?_
      have h8 := ih (j + 1) (by omega) (by omega)
      rw [sb_eqw, if_pos (by omega)]
      exact h8
    · skip
      rw [i32_eq (by omega) (by omega)] at h1
      refine wp_st 1 (f' := (53, [some (.ref (t)), some (.ref (s)), some (.int (Int32.ofNat e)), some (.int (Int32.ofNat j))], [.int (Int32.ofNat 0)], A)) rfl ?_
      refine wp_rt rfl rfl rfl ?_
      rw [sb_eqw, if_neg (by omega)]
      rfl
theorem tx_word1 {d t n a e s v : Nat} {f : Int32} {cs bs : List Nat} {A : am_H} (hd : 4 ≤ d) (hae : a ≤ e) (hen : e ≤ n) (h1 : e - a = bs.length) (h : sb_T A t cs n a f) (h9 : sb_S A s v bs) : am_go d 44 [.ref t, .ref s, .int (Int32.ofNat e)] A (.inl (some (.int (sb_i (sb_eqw cs bs a bs.length 0)))), A) := by
  have hh := h
  have hw := h9
  obtain ⟨hT, hC, hl, hn, ha, hb, h45⟩ := h
  unfold sb_tc at hT
  obtain ⟨hS, hV, hc, hL⟩ := h9
  refine wp_go ?_
  refine wp_st 2 (f' := (2, [some (.ref (t)), some (.ref (s)), some (.int (Int32.ofNat e)), none], [.ref (t), .int (Int32.ofNat e)], A)) rfl ?_
  refine wp_gf rfl rfl hT rfl rfl ?_
  refine wp_st 1 (f' := (6, [some (.ref (t)), some (.ref (s)), some (.int (Int32.ofNat e)), none], [.int ((Int32.ofNat e) - (Int32.ofNat a))], A)) rfl ?_
  rw [i32_sub (a := e) (b := a) (by omega)]
  refine wp_st 1 (f' := (7, [some (.ref (t)), some (.ref (s)), some (.int (Int32.ofNat e)), none], [.ref (s), .int (Int32.ofNat (e - a))], A)) rfl ?_
  refine wp_cv (A' := A) (v := some (.int (Int32.ofNat (bs.length)))) rfl rfl rfl rfl rfl hS (by omega) (js_len (by omega) hw) rfl ?_
  show am_wp d 44 (10, [some (.ref (t)), some (.ref (s)), some (.int (Int32.ofNat e)), none], [.int (Int32.ofNat (bs.length)), .int (Int32.ofNat (e - a))], A) _
  refine wp_ifF rfl rfl (fun q => q ((i32_eq (a := e - a) (b := bs.length) (by omega) (by omega)).mpr (by omega))) ?_
  refine wp_st 2 (f' := (15, [some (.ref (t)), some (.ref (s)), some (.int (Int32.ofNat e)), none], [.ref (t), .int (Int32.ofNat e)], A)) rfl ?_
  refine wp_gf rfl rfl hT rfl rfl ?_
  refine wp_ifT rfl rfl ((i32_le (a := e) (b := n) (by omega) (by omega)).mpr (by omega)) ?_
  refine wp_st 2 (f' := (25, [some (.ref (t)), some (.ref (s)), some (.int (Int32.ofNat e)), some (.int (Int32.ofNat 0))], [], A)) rfl ?_
  exact tx_word_l hd (by omega) hh hw bs.length 0 (by omega) (by omega)
theorem tx_word0 {d t n a e s v : Nat} {f : Int32} {cs bs : List Nat} {A : am_H} (hd : 4 ≤ d) (hae : a ≤ e) (hen : e ≤ n) (h1 : e - a ≠ bs.length) (h : sb_T A t cs n a f) (h9 : sb_S A s v bs) : am_go d 44 [.ref t, .ref s, .int (Int32.ofNat e)] A (.inl (some (.int 0)), A) := by
  have hh := h
  have hw := h9
  obtain ⟨hT, hC, hl, hn, ha, hb, h45⟩ := h
  unfold sb_tc at hT
  obtain ⟨hS, hV, hc, hL⟩ := h9
  refine wp_go ?_
  refine wp_st 2 (f' := (2, [some (.ref (t)), some (.ref (s)), some (.int (Int32.ofNat e)), none], [.ref (t), .int (Int32.ofNat e)], A)) rfl ?_
  refine wp_gf rfl rfl hT rfl rfl ?_
  refine wp_st 1 (f' := (6, [some (.ref (t)), some (.ref (s)), some (.int (Int32.ofNat e)), none], [.int ((Int32.ofNat e) - (Int32.ofNat a))], A)) rfl ?_
  rw [i32_sub (a := e) (b := a) (by omega)]
  refine wp_st 1 (f' := (7, [some (.ref (t)), some (.ref (s)), some (.int (Int32.ofNat e)), none], [.ref (s), .int (Int32.ofNat (e - a))], A)) rfl ?_
  refine wp_cv (A' := A) (v := some (.int (Int32.ofNat (bs.length)))) rfl rfl rfl rfl rfl hS (by omega) (js_len (by omega) hw) rfl ?_
  show am_wp d 44 (10, [some (.ref (t)), some (.ref (s)), some (.int (Int32.ofNat e)), none], [.int (Int32.ofNat (bs.length)), .int (Int32.ofNat (e - a))], A) _
  refine wp_ifT rfl rfl (fun q => absurd ((i32_eq (a := e - a) (b := bs.length) (by omega) (by omega)).mp q) (by omega)) ?_
  refine wp_st 1 (f' := (22, [some (.ref (t)), some (.ref (s)), some (.int (Int32.ofNat e)), none], [.int (Int32.ofNat 0)], A)) rfl ?_
  refine wp_rt rfl rfl rfl ?_
  first | rfl | (rw [List.set_set]; rfl) | (simp only [List.set_set]; rfl)
