/-! MessageReader: names. -/
theorem mr_name0 {d r t m n a e : Nat} {z f : Int32} {cs : List Nat} {A : am_H} (hd : 1 ≤ d) (han : a ≤ n) (hrt : r ≠ t) (he : e = sb_re 97 122 cs n a) (hR : A[r]? = some (8, [.ref t, .ref m, .int z])) (h : sb_T A t cs n a f) (h1 : e = a) : am_go d 38 [.ref r] A (.inl (some (.int (-1))), A.set t (sb_tc t n a (Int32.ofNat a))) := by
  have hh := h
  have hle := sb_re_le (lo := 97) (hi := 122) (cs := cs) (n := n) (a := a)
  rw [← he] at hle
  have hle2 := hle.2.1 han
  obtain ⟨hT, hC, hl, hn, ha, hb, h45⟩ := h
  unfold sb_tc at hT
  refine wp_go ?_
  refine wp_st 1 (f' := (1, [some (.ref (r)), none, none], [.ref (r)], A)) rfl ?_
  refine wp_gf rfl rfl hR rfl rfl ?_
  refine wp_st 2 (f' := (8, [some (.ref (r)), none, none], [.int (Int32.ofNat 122), .int (Int32.ofNat 97), .ref (t)], A)) rfl ?_
  refine wp_cv (A' := A) (v := some (.int (Int32.ofNat e))) rfl rfl rfl rfl rfl hT (by omega) (by rw [he]; exact tx_rowEnd (by omega) (by omega) hh) rfl ?_
  show am_wp d 38 (11, [some (.ref (r)), none, none], [.int (Int32.ofNat e)], A) _
  refine wp_st 3 (f' := (14, [some (.ref (r)), some (.int (Int32.ofNat e)), none], [.ref (r), .int (Int32.ofNat e)], A)) rfl ?_
  refine wp_gf rfl rfl hR rfl rfl ?_
  refine wp_gf rfl rfl hT rfl rfl ?_
  refine wp_st 1 (f' := (21, [some (.ref (r)), some (.int (Int32.ofNat e)), none], [.int ((Int32.ofNat e) - (Int32.ofNat a))], A)) rfl ?_
  rw [i32_sub (a := e) (b := a) (by omega)]
  refine wp_st 2 (f' := (23, [some (.ref (r)), some (.int (Int32.ofNat e)), some (.int (Int32.ofNat (e - a)))], [.int (Int32.ofNat (e - a))], A)) rfl ?_
  refine wp_izT rfl rfl ((i32_eq (a := e - a) (b := 0) (by omega) (by omega)).mpr (by omega)) ?_
  refine wp_st 1 (f' := (32, [some (.ref (r)), some (.int (Int32.ofNat e)), some (.int (Int32.ofNat (e - a)))], [.ref (r)], A)) rfl ?_
  refine wp_gf rfl rfl hR rfl rfl ?_
  refine wp_st 1 (f' := (36, [some (.ref (r)), some (.int (Int32.ofNat e)), some (.int (Int32.ofNat (e - a)))], [.int (Int32.ofNat (e - a)), .ref (t)], A)) rfl ?_
  refine wp_izF rfl rfl (fun q => q ((i32_eq (a := e - a) (b := 0) (by omega) (by omega)).mpr (by omega))) ?_
  refine wp_st 1 (f' := (40, [some (.ref (r)), some (.int (Int32.ofNat e)), some (.int (Int32.ofNat (e - a)))], [.ref (r), .ref (t)], A)) rfl ?_
  refine wp_gf rfl rfl hR rfl rfl ?_
  refine wp_gf rfl rfl hT rfl rfl ?_
  refine wp_st 1 (f' := (58, [some (.ref (r)), some (.int (Int32.ofNat e)), some (.int (Int32.ofNat (e - a)))], [.int (Int32.ofNat a), .ref (t)], A)) rfl ?_
  obtain ⟨A1, e2⟩ : ∃ B, B = A.set (t) (1, [.ref (t + 1), .int (Int32.ofNat n), .int (Int32.ofNat a), .int (Int32.ofNat a)]) := ⟨_, rfl⟩
  have g3 : A1[r]? = some (8, [.ref (t), .ref (m), .int (z)]) := by rw [e2]; exact sb_so (fun q => hrt q.symm) hR
  have g4 : A1[t]? = some (1, [.ref (t + 1), .int (Int32.ofNat n), .int (Int32.ofNat a), .int (Int32.ofNat a)]) := by rw [e2]; exact sb_ss hT
  have g5 : A1[t + 1]? = some (102, cs.map sb_c) := by rw [e2]; exact sb_so (by omega) hC
  refine wp_cv (A' := A1) (v := some (.int (Int32.ofNat 0))) rfl rfl rfl rfl rfl hT (by omega) (by rw [e2]; exact tx_refuse hh) rfl ?_
  show am_wp d 38 (61, [some (.ref (r)), some (.int (Int32.ofNat e)), some (.int (Int32.ofNat (e - a)))], [.int (Int32.ofNat 0)], A1) _
  refine wp_st 2 (f' := (63, [some (.ref (r)), some (.int (Int32.ofNat e)), some (.int (Int32.ofNat (e - a)))], [.int ((-1))], A1)) rfl ?_
  refine wp_rt rfl rfl rfl ?_
  subst e2
  first | rfl | (rw [List.set_set]; rfl) | (simp only [List.set_set]; rfl) | (simp only [List.set_set]; done)
theorem mr_name5 {d r t m n a e : Nat} {z f : Int32} {cs : List Nat} {A : am_H} (hd : 1 ≤ d) (han : a ≤ n) (hrt : r ≠ t) (he : e = sb_re 97 122 cs n a) (hR : A[r]? = some (8, [.ref t, .ref m, .int z])) (h : sb_T A t cs n a f) (h1 : 4 < e - a) : am_go d 38 [.ref r] A (.inl (some (.int (-1))), A.set t (sb_tc t n a (Int32.ofNat (a + 4)))) := by
  have hh := h
  have hle := sb_re_le (lo := 97) (hi := 122) (cs := cs) (n := n) (a := a)
  rw [← he] at hle
  have hle2 := hle.2.1 han
  obtain ⟨hT, hC, hl, hn, ha, hb, h45⟩ := h
  unfold sb_tc at hT
  refine wp_go ?_
  refine wp_st 1 (f' := (1, [some (.ref (r)), none, none], [.ref (r)], A)) rfl ?_
  refine wp_gf rfl rfl hR rfl rfl ?_
  refine wp_st 2 (f' := (8, [some (.ref (r)), none, none], [.int (Int32.ofNat 122), .int (Int32.ofNat 97), .ref (t)], A)) rfl ?_
  refine wp_cv (A' := A) (v := some (.int (Int32.ofNat e))) rfl rfl rfl rfl rfl hT (by omega) (by rw [he]; exact tx_rowEnd (by omega) (by omega) hh) rfl ?_
  show am_wp d 38 (11, [some (.ref (r)), none, none], [.int (Int32.ofNat e)], A) _
  refine wp_st 3 (f' := (14, [some (.ref (r)), some (.int (Int32.ofNat e)), none], [.ref (r), .int (Int32.ofNat e)], A)) rfl ?_
  refine wp_gf rfl rfl hR rfl rfl ?_
  refine wp_gf rfl rfl hT rfl rfl ?_
  refine wp_st 1 (f' := (21, [some (.ref (r)), some (.int (Int32.ofNat e)), none], [.int ((Int32.ofNat e) - (Int32.ofNat a))], A)) rfl ?_
  rw [i32_sub (a := e) (b := a) (by omega)]
  refine wp_st 2 (f' := (23, [some (.ref (r)), some (.int (Int32.ofNat e)), some (.int (Int32.ofNat (e - a)))], [.int (Int32.ofNat (e - a))], A)) rfl ?_
  refine wp_izF rfl rfl (fun q => absurd ((i32_eq (a := e - a) (b := 0) (by omega) (by omega)).mp q) (by omega)) ?_
  refine wp_st 2 (f' := (28, [some (.ref (r)), some (.int (Int32.ofNat e)), some (.int (Int32.ofNat (e - a)))], [.int (Int32.ofNat 4), .int (Int32.ofNat (e - a))], A)) rfl ?_
  refine wp_ifF rfl rfl (fun q => absurd ((i32_le (a := e - a) (b := 4) (by omega) (by omega)).mp q) (by omega)) ?_
  refine wp_st 1 (f' := (32, [some (.ref (r)), some (.int (Int32.ofNat e)), some (.int (Int32.ofNat (e - a)))], [.ref (r)], A)) rfl ?_
  refine wp_gf rfl rfl hR rfl rfl ?_
  refine wp_st 1 (f' := (36, [some (.ref (r)), some (.int (Int32.ofNat e)), some (.int (Int32.ofNat (e - a)))], [.int (Int32.ofNat (e - a)), .ref (t)], A)) rfl ?_
  refine wp_izT rfl rfl (fun q => absurd ((i32_eq (a := e - a) (b := 0) (by omega) (by omega)).mp q) (by omega)) ?_
  refine wp_st 1 (f' := (50, [some (.ref (r)), some (.int (Int32.ofNat e)), some (.int (Int32.ofNat (e - a)))], [.ref (r), .ref (t)], A)) rfl ?_
  refine wp_gf rfl rfl hR rfl rfl ?_
  refine wp_gf rfl rfl hT rfl rfl ?_
  refine wp_st 2 (f' := (58, [some (.ref (r)), some (.int (Int32.ofNat e)), some (.int (Int32.ofNat (e - a)))], [.int ((Int32.ofNat a) + (Int32.ofNat 4)), .ref (t)], A)) rfl ?_
  rw [i32_add (a) (4)]
  obtain ⟨A1, e2⟩ : ∃ B, B = A.set (t) (1, [.ref (t + 1), .int (Int32.ofNat n), .int (Int32.ofNat a), .int (Int32.ofNat (a + 4))]) := ⟨_, rfl⟩
  have g3 : A1[r]? = some (8, [.ref (t), .ref (m), .int (z)]) := by rw [e2]; exact sb_so (fun q => hrt q.symm) hR
  have g4 : A1[t]? = some (1, [.ref (t + 1), .int (Int32.ofNat n), .int (Int32.ofNat a), .int (Int32.ofNat (a + 4))]) := by rw [e2]; exact sb_ss hT
  have g5 : A1[t + 1]? = some (102, cs.map sb_c) := by rw [e2]; exact sb_so (by omega) hC
  refine wp_cv (A' := A1) (v := some (.int (Int32.ofNat 0))) rfl rfl rfl rfl rfl hT (by omega) (by rw [e2]; exact tx_refuse hh) rfl ?_
  show am_wp d 38 (61, [some (.ref (r)), some (.int (Int32.ofNat e)), some (.int (Int32.ofNat (e - a)))], [.int (Int32.ofNat 0)], A1) _
  refine wp_st 2 (f' := (63, [some (.ref (r)), some (.int (Int32.ofNat e)), some (.int (Int32.ofNat (e - a)))], [.int ((-1))], A1)) rfl ?_
  refine wp_rt rfl rfl rfl ?_
  subst e2
  first | rfl | (rw [List.set_set]; rfl) | (simp only [List.set_set]; rfl) | (simp only [List.set_set]; done)
theorem mr_name1 {d r t m n a e : Nat} {z f : Int32} {cs : List Nat} {A : am_H} (hd : 1 ≤ d) (han : a ≤ n) (hrt : r ≠ t) (he : e = sb_re 97 122 cs n a) (hR : A[r]? = some (8, [.ref t, .ref m, .int z])) (h : sb_T A t cs n a f) (h1 : a < e) (h2 : e - a ≤ 4) : am_go d 38 [.ref r] A (.inl (some (.int (sb_pk cs (e - a) a 0).toInt32)), A.set t (sb_tc t n e f)) := by
  have hh := h
  have hle := sb_re_le (lo := 97) (hi := 122) (cs := cs) (n := n) (a := a)
  rw [← he] at hle
  have hle2 := hle.2.1 han
  obtain ⟨hT, hC, hl, hn, ha, hb, h45⟩ := h
  unfold sb_tc at hT
  refine wp_go ?_
  refine wp_st 1 (f' := (1, [some (.ref (r)), none, none], [.ref (r)], A)) rfl ?_
  refine wp_gf rfl rfl hR rfl rfl ?_
  refine wp_st 2 (f' := (8, [some (.ref (r)), none, none], [.int (Int32.ofNat 122), .int (Int32.ofNat 97), .ref (t)], A)) rfl ?_
  refine wp_cv (A' := A) (v := some (.int (Int32.ofNat e))) rfl rfl rfl rfl rfl hT (by omega) (by rw [he]; exact tx_rowEnd (by omega) (by omega) hh) rfl ?_
  show am_wp d 38 (11, [some (.ref (r)), none, none], [.int (Int32.ofNat e)], A) _
  refine wp_st 3 (f' := (14, [some (.ref (r)), some (.int (Int32.ofNat e)), none], [.ref (r), .int (Int32.ofNat e)], A)) rfl ?_
  refine wp_gf rfl rfl hR rfl rfl ?_
  refine wp_gf rfl rfl hT rfl rfl ?_
  refine wp_st 1 (f' := (21, [some (.ref (r)), some (.int (Int32.ofNat e)), none], [.int ((Int32.ofNat e) - (Int32.ofNat a))], A)) rfl ?_
  rw [i32_sub (a := e) (b := a) (by omega)]
  refine wp_st 2 (f' := (23, [some (.ref (r)), some (.int (Int32.ofNat e)), some (.int (Int32.ofNat (e - a)))], [.int (Int32.ofNat (e - a))], A)) rfl ?_
  refine wp_izF rfl rfl (fun q => absurd ((i32_eq (a := e - a) (b := 0) (by omega) (by omega)).mp q) (by omega)) ?_
  refine wp_st 2 (f' := (28, [some (.ref (r)), some (.int (Int32.ofNat e)), some (.int (Int32.ofNat (e - a)))], [.int (Int32.ofNat 4), .int (Int32.ofNat (e - a))], A)) rfl ?_
  refine wp_ifT rfl rfl ((i32_le (a := e - a) (b := 4) (by omega) (by omega)).mpr (by omega)) ?_
  refine wp_st 1 (f' := (65, [some (.ref (r)), some (.int (Int32.ofNat e)), some (.int (Int32.ofNat (e - a)))], [.ref (r)], A)) rfl ?_
  refine wp_gf rfl rfl hR rfl rfl ?_
  refine wp_st 1 (f' := (69, [some (.ref (r)), some (.int (Int32.ofNat e)), some (.int (Int32.ofNat (e - a)))], [.int (Int32.ofNat e), .ref (t)], A)) rfl ?_
  obtain ⟨A1, e2⟩ : ∃ B, B = A.set (t) (1, [.ref (t + 1), .int (Int32.ofNat n), .int (Int32.ofNat e), .int (f)]) := ⟨_, rfl⟩
  have g3 : A1[r]? = some (8, [.ref (t), .ref (m), .int (z)]) := by rw [e2]; exact sb_so (fun q => hrt q.symm) hR
  have g4 : A1[t]? = some (1, [.ref (t + 1), .int (Int32.ofNat n), .int (Int32.ofNat e), .int (f)]) := by rw [e2]; exact sb_ss hT
  have g5 : A1[t + 1]? = some (102, cs.map sb_c) := by rw [e2]; exact sb_so (by omega) hC
  refine wp_cv (A' := A1) (v := some (.long (sb_pk cs (e - a) a 0))) rfl rfl rfl rfl rfl hT (by omega) (by rw [e2]; exact tx_pack (by omega) (by omega) hh) rfl ?_
  show am_wp d 38 (72, [some (.ref (r)), some (.int (Int32.ofNat e)), some (.int (Int32.ofNat (e - a)))], [.long (sb_pk cs (e - a) a 0)], A1) _
  refine wp_st 1 (f' := (73, [some (.ref (r)), some (.int (Int32.ofNat e)), some (.int (Int32.ofNat (e - a)))], [.int ((sb_pk cs (e - a) a 0).toInt32)], A1)) rfl ?_
  refine wp_rt rfl rfl rfl ?_
  subst e2
  first | rfl | (rw [List.set_set]; rfl) | (simp only [List.set_set]; rfl) | (simp only [List.set_set]; done)
