/-! RulesReader. -/
theorem ui_opnd {d r t m n a : Nat} {cs : List Nat} {S : rg} {A : am_H} (hd : 4 ≤ d) (han : a ≤ n) (h : ur_I A r t m cs n a (-1) S) : am_wp d 73 (0, am_ent 73 [.ref r], [], A) (un_Q A r t m cs n S (ru_opnd cs n a)) := by
  have hge := h.ge
  have hlk := h.lk
  have hcs := h.T.2.2.2.2.2.1
  have hPB := h.N.P
  refine wp_st 1 (f' := (1, [some (.ref (r)), none, none], [.ref (r)], A)) rfl ?_
  refine wp_gf rfl rfl h.rc rfl rfl ?_
  refine wp_st 2 (f' := (8, [some (.ref (r)), none, none], [.int (Int32.ofNat 122), .int (Int32.ofNat 97), .ref (t)], A)) rfl ?_
  have k1 := sb_re_le (lo := 97) (hi := 122) (cs := cs) (n := n) (a := a)
  have k1a := k1.2.1 (by omega)
  refine wp_cv (A' := A) (v := some (.int (Int32.ofNat (sb_re 97 122 cs n a)))) rfl rfl rfl rfl rfl h.tc (by omega) (ui_row (by omega) (by omega) h) rfl ?_
  show am_wp d 73 (11, [some (.ref (r)), none, none], [.int (Int32.ofNat (sb_re 97 122 cs n a))], A) _
  refine wp_st 5 (f' := (16, [some (.ref (r)), some (.int (Int32.ofNat (sb_re 97 122 cs n a))), some (.int ((-1)))], [.ref (r), .int (Int32.ofNat (sb_re 97 122 cs n a))], A)) rfl ?_
  refine wp_gf rfl rfl h.rc rfl rfl ?_
  refine wp_gf rfl rfl h.tc rfl rfl ?_
  refine wp_st 1 (f' := (23, [some (.ref (r)), some (.int (Int32.ofNat (sb_re 97 122 cs n a))), some (.int ((-1)))], [.int ((Int32.ofNat (sb_re 97 122 cs n a)) - (Int32.ofNat a))], A)) rfl ?_
  rw [i32_sub (a := sb_re 97 122 cs n a) (b := a) (by omega)]
  refine wp_st 1 (f' := (24, [some (.ref (r)), some (.int (Int32.ofNat (sb_re 97 122 cs n a))), some (.int ((-1)))], [.int (Int32.ofNat 1), .int (Int32.ofNat ((sb_re 97 122 cs n a) - a))], A)) rfl ?_
  refine wp_if rfl rfl rfl (fun (h2 : (Int32.ofNat ((sb_re 97 122 cs n a) - a)) ≠ (Int32.ofNat 1)) => ?_) (fun (h2 : ¬ ((Int32.ofNat ((sb_re 97 122 cs n a) - a)) ≠ (Int32.ofNat 1))) => ?_)
  · skip
    rw [ne_eq, i32_eq (by omega) (by omega)] at h2
    refine wp_st 1 (f' := (49, [some (.ref (r)), some (.int (Int32.ofNat (sb_re 97 122 cs n a))), some (.int ((-1)))], [.int ((-1))], A)) rfl ?_
    refine wp_izF rfl rfl (show ¬ (Int32.ofNat 0 ≤ (-1 : Int32)) from by decide) ?_
    refine wp_st 1 (f' := (53, [some (.ref (r)), some (.int (Int32.ofNat (sb_re 97 122 cs n a))), some (.int ((-1)))], [.ref (r)], A)) rfl ?_
    refine wp_gf rfl rfl h.rc rfl rfl ?_
    refine wp_st 1 (f' := (57, [some (.ref (r)), some (.int (Int32.ofNat (sb_re 97 122 cs n a))), some (.int ((-1)))], [.ref (r), .ref (t)], A)) rfl ?_
    refine wp_gf rfl rfl h.rc rfl rfl ?_
    refine wp_gf rfl rfl h.tc rfl rfl ?_
    obtain ⟨A3, g4, h5, f6⟩ := ui_refuse (d := d - 1) (x := Int32.ofNat a) h
    have f7 := (ur_F.refl A t m).trans f6
    refine wp_cv (A' := A3) (v := some (.int (Int32.ofNat 0))) rfl rfl rfl rfl rfl h.tc (by omega) (g4) rfl ?_
    show am_wp d 73 (66, [some (.ref (r)), some (.int (Int32.ofNat (sb_re 97 122 cs n a))), some (.int ((-1)))], [.int (Int32.ofNat 0)], A3) _
    refine wp_st 2 (f' := (68, [some (.ref (r)), some (.int (Int32.ofNat (sb_re 97 122 cs n a))), some (.int ((-1)))], [.int ((-1))], A3)) rfl ?_
    refine wp_rt rfl rfl rfl ?_
    have hres : ru_opnd cs n a = .error (a) := by simp [ru_opnd, h2]
    rw [hres]
    exact un_Q_er h5 f7
  · skip
    rw [ne_eq, i32_eq (by omega) (by omega)] at h2
    replace h2 := Decidable.not_not.mp h2
    refine wp_st 2 (f' := (30, [some (.ref (r)), some (.int (Int32.ofNat (sb_re 97 122 cs n a))), some (.int ((-1)))], [.ref (r), .ref (12)], A)) rfl ?_
    refine wp_gf rfl rfl h.rc rfl rfl ?_
    refine wp_st 1 (f' := (34, [some (.ref (r)), some (.int (Int32.ofNat (sb_re 97 122 cs n a))), some (.int ((-1)))], [.ref (r), .ref (t), .ref (12)], A)) rfl ?_
    refine wp_gf rfl rfl h.rc rfl rfl ?_
    refine wp_gf rfl rfl h.tc rfl rfl ?_
    have hca : a < n := by omega
    have hcl := hlk (a)
    refine wp_cv (A' := A) (v := some (.int (Int32.ofNat (sb_lk cs n a)))) rfl rfl rfl rfl rfl h.tc (by omega) (ui_chr1 hca h) rfl ?_
    show am_wp d 73 (43, [some (.ref (r)), some (.int (Int32.ofNat (sb_re 97 122 cs n a))), some (.int ((-1)))], [.int (Int32.ofNat (sb_lk cs n a)), .ref (12)], A) _
    refine wp_st 1 (f' := (44, [some (.ref (r)), some (.int (Int32.ofNat (sb_re 97 122 cs n a))), some (.int ((-1)))], [.int (((Int32.ofNat (sb_lk cs n a)).toUInt32 % 65536).toInt32), .ref (12)], A)) rfl ?_
    rw [i32_i2c (b := sb_lk cs n a) (by omega)]
    rcases hix : ru_ix (sb_lk cs n a) with _ | o
    · skip
      refine wp_cv (A' := A) (v := some (.int ((-1)))) rfl rfl rfl rfl rfl h.K.wix.1 (by omega) (by have q := js_i2 (d := d - 1) (c := sb_lk cs n a) (by omega) (by omega) (by decide) h.K.wix; rw [show ru_WI.length = 6 from rfl, ru_ix_eq, hix] at q; exact q) rfl ?_
      show am_wp d 73 (47, [some (.ref (r)), some (.int (Int32.ofNat (sb_re 97 122 cs n a))), some (.int ((-1)))], [.int ((-1))], A) _
      refine wp_st 2 (f' := (49, [some (.ref (r)), some (.int (Int32.ofNat (sb_re 97 122 cs n a))), some (.int ((-1)))], [.int ((-1))], A)) rfl ?_
      refine wp_izF rfl rfl (show ¬ (Int32.ofNat 0 ≤ (-1 : Int32)) from by decide) ?_
      refine wp_st 1 (f' := (53, [some (.ref (r)), some (.int (Int32.ofNat (sb_re 97 122 cs n a))), some (.int ((-1)))], [.ref (r)], A)) rfl ?_
      refine wp_gf rfl rfl h.rc rfl rfl ?_
      refine wp_st 1 (f' := (57, [some (.ref (r)), some (.int (Int32.ofNat (sb_re 97 122 cs n a))), some (.int ((-1)))], [.ref (r), .ref (t)], A)) rfl ?_
      refine wp_gf rfl rfl h.rc rfl rfl ?_
      refine wp_gf rfl rfl h.tc rfl rfl ?_
      obtain ⟨A8, g9, h10, f11⟩ := ui_refuse (d := d - 1) (x := Int32.ofNat a) h
      have f12 := (ur_F.refl A t m).trans f11
      refine wp_cv (A' := A8) (v := some (.int (Int32.ofNat 0))) rfl rfl rfl rfl rfl h.tc (by omega) (g9) rfl ?_
      show am_wp d 73 (66, [some (.ref (r)), some (.int (Int32.ofNat (sb_re 97 122 cs n a))), some (.int ((-1)))], [.int (Int32.ofNat 0)], A8) _
      refine wp_st 2 (f' := (68, [some (.ref (r)), some (.int (Int32.ofNat (sb_re 97 122 cs n a))), some (.int ((-1)))], [.int ((-1))], A8)) rfl ?_
      refine wp_rt rfl rfl rfl ?_
      have hres : ru_opnd cs n a = .error (a) := by simp [ru_opnd, h2, hix]
      rw [hres]
      exact un_Q_er h10 f12
    · skip
      have hil := ru_ix_lt hix
      refine wp_cv (A' := A) (v := some (.int (Int32.ofNat o))) rfl rfl rfl rfl rfl h.K.wix.1 (by omega) (by have q := js_i2 (d := d - 1) (c := sb_lk cs n a) (by omega) (by omega) (by decide) h.K.wix; rw [show ru_WI.length = 6 from rfl, ru_ix_eq, hix] at q; exact q) rfl ?_
      show am_wp d 73 (47, [some (.ref (r)), some (.int (Int32.ofNat (sb_re 97 122 cs n a))), some (.int ((-1)))], [.int (Int32.ofNat o)], A) _
      refine wp_st 2 (f' := (49, [some (.ref (r)), some (.int (Int32.ofNat (sb_re 97 122 cs n a))), some (.int (Int32.ofNat o))], [.int (Int32.ofNat o)], A)) rfl ?_
      refine wp_izT rfl rfl ((i32_le (a := 0) (b := o) (by omega) (by omega)).mpr (by omega)) ?_
      refine wp_st 1 (f' := (70, [some (.ref (r)), some (.int (Int32.ofNat (sb_re 97 122 cs n a))), some (.int (Int32.ofNat o))], [.ref (r)], A)) rfl ?_
      refine wp_gf rfl rfl h.rc rfl rfl ?_
      refine wp_st 1 (f' := (74, [some (.ref (r)), some (.int (Int32.ofNat (sb_re 97 122 cs n a))), some (.int (Int32.ofNat o))], [.int (Int32.ofNat (sb_re 97 122 cs n a)), .ref (t)], A)) rfl ?_
      obtain ⟨A13, e14⟩ : ∃ B, B = A.set t (sb_tc t n (sb_re 97 122 cs n a) ((-1))) := ⟨_, rfl⟩
      have q15 := h.set (a' := sb_re 97 122 cs n a) (f' := (-1)) (by omega)
      rw [← e14] at q15
      refine wp_pf (A' := A13) rfl rfl h.tc rfl rfl (decide_eq_true (by have := h.ge; omega)) rfl e14.symm ?_
      have h16 := q15.1
      have f17 := (ur_F.refl A t m).trans q15.2
      refine wp_st 1 (f' := (78, [some (.ref (r)), some (.int (Int32.ofNat (sb_re 97 122 cs n a))), some (.int (Int32.ofNat o))], [.int (Int32.ofNat o)], A13)) rfl ?_
      refine wp_rt rfl rfl rfl ?_
      have hres : ru_opnd cs n a = .ok (sb_re 97 122 cs n a, o) := by simp [ru_opnd, h2, hix]
      rw [hres]
      exact un_Q_ok h16 f17
theorem ui_mod {d r t m n a : Nat} {cs : List Nat} {S : rg} {A : am_H} (hd : 2 ≤ d) (han : a ≤ n) (h : ur_I A r t m cs n a (-1) S) : am_wp d 79 (0, am_ent 79 [.ref r], [], A) (un_Q A r t m cs n S (ru_mod cs n a)) := by
  have hge := h.ge
  have hlk := h.lk
  have hcs := h.T.2.2.2.2.2.1
  have hPB := h.N.P
  refine wp_st 1 (f' := (1, [some (.ref (r)), none, none], [.ref (r)], A)) rfl ?_
  refine wp_gf rfl rfl h.rc rfl rfl ?_
  have k1 := rd_sk_le (cs := cs) (n := n) (a := a) (by omega)
  obtain ⟨A2, g3, h4, f5⟩ := ui_skip (d := d - 1) (by omega) (by omega) h
  have f6 := (ur_F.refl A t m).trans f5
  refine wp_cv (A' := A2) (v := none) rfl rfl rfl rfl rfl h.tc (by omega) (g3) rfl ?_
  show am_wp d 79 (7, [some (.ref (r)), none, none], [], A2) _
  refine wp_st 1 (f' := (8, [some (.ref (r)), none, none], [.ref (r)], A2)) rfl ?_
  refine wp_gf rfl rfl h4.rc rfl rfl ?_
  refine wp_gf rfl rfl h4.tc rfl rfl ?_
  refine wp_st 2 (f' := (16, [some (.ref (r)), some (.int (Int32.ofNat (rd_sk cs n a))), none], [.ref (r)], A2)) rfl ?_
  refine wp_gf rfl rfl h4.rc rfl rfl ?_
  refine wp_st 1 (f' := (20, [some (.ref (r)), some (.int (Int32.ofNat (rd_sk cs n a))), none], [.int (Int32.ofNat 4), .ref (t)], A2)) rfl ?_
  rcases u7 : rd_num cs n 4 (rd_sk cs n a) with e8 | ⟨x9, v10⟩
  · skip
    obtain ⟨A11, g12, h13, f14⟩ := ui_num0 (d := d - 1) (by omega) (by omega) (by omega) u7 h4
    have f15 := f6.trans f14
    refine wp_cv (A' := A11) (v := some (.int ((-1)))) rfl rfl rfl rfl rfl h4.tc (by omega) (g12) rfl ?_
    show am_wp d 79 (23, [some (.ref (r)), some (.int (Int32.ofNat (rd_sk cs n a))), none], [.int ((-1))], A11) _
    refine wp_st 2 (f' := (25, [some (.ref (r)), some (.int (Int32.ofNat (rd_sk cs n a))), some (.int ((-1)))], [.int ((-1))], A11)) rfl ?_
    refine wp_izT rfl rfl (show (-1 : Int32) ≠ (Int32.ofNat 0) from by decide) ?_
    refine wp_st 1 (f' := (40, [some (.ref (r)), some (.int (Int32.ofNat (rd_sk cs n a))), some (.int ((-1)))], [.ref (r)], A11)) rfl ?_
    refine wp_gf rfl rfl h13.rc rfl rfl ?_
    have k16 := rd_sk_le (cs := cs) (n := n) (a := rd_sk cs n a) (by omega)
    obtain ⟨A17, g18, h19, f20⟩ := ui_skip (d := d - 1) (by omega) (by omega) h13
    have f21 := f15.trans f20
    refine wp_cv (A' := A17) (v := none) rfl rfl rfl rfl rfl h13.tc (by omega) (g18) rfl ?_
    show am_wp d 79 (46, [some (.ref (r)), some (.int (Int32.ofNat (rd_sk cs n a))), some (.int ((-1)))], [], A17) _
    refine wp_st 1 (f' := (47, [some (.ref (r)), some (.int (Int32.ofNat (rd_sk cs n a))), some (.int ((-1)))], [.int ((-1))], A17)) rfl ?_
    refine wp_rt rfl rfl rfl ?_
    have hres : ru_mod cs n a = .error (e8) := by simp [ru_mod, u7]
    rw [hres]
    exact un_Q_er h19 f21
  · skip
    have u7l := rd_num_le (by omega) u7
    have u7v := rd_num_v (by omega) (by omega) u7
    obtain ⟨A22, g23, h24, f25⟩ := ui_num1 (d := d - 1) (by omega) (by omega) (by omega) u7 h4
    have f26 := f6.trans f25
    refine wp_cv (A' := A22) (v := some (.int (Int32.ofNat v10))) rfl rfl rfl rfl rfl h4.tc (by omega) (g23) rfl ?_
    show am_wp d 79 (23, [some (.ref (r)), some (.int (Int32.ofNat (rd_sk cs n a))), none], [.int (Int32.ofNat v10)], A22) _
    refine wp_st 2 (f' := (25, [some (.ref (r)), some (.int (Int32.ofNat (rd_sk cs n a))), some (.int (Int32.ofNat v10))], [.int (Int32.ofNat v10)], A22)) rfl ?_
    refine wp_iz rfl rfl rfl (fun (h27 : (Int32.ofNat v10) ≠ (Int32.ofNat 0)) => ?_) (fun (h27 : ¬ ((Int32.ofNat v10) ≠ (Int32.ofNat 0))) => ?_)
    · skip
      rw [ne_eq, i32_eq (by omega) (by omega)] at h27
      refine wp_st 1 (f' := (40, [some (.ref (r)), some (.int (Int32.ofNat (rd_sk cs n a))), some (.int (Int32.ofNat v10))], [.ref (r)], A22)) rfl ?_
      refine wp_gf rfl rfl h24.rc rfl rfl ?_
      have k28 := rd_sk_le (cs := cs) (n := n) (a := x9) (by omega)
      obtain ⟨A29, g30, h31, f32⟩ := ui_skip (d := d - 1) (by omega) (by omega) h24
      have f33 := f26.trans f32
      refine wp_cv (A' := A29) (v := none) rfl rfl rfl rfl rfl h24.tc (by omega) (g30) rfl ?_
      show am_wp d 79 (46, [some (.ref (r)), some (.int (Int32.ofNat (rd_sk cs n a))), some (.int (Int32.ofNat v10))], [], A29) _
      refine wp_st 1 (f' := (47, [some (.ref (r)), some (.int (Int32.ofNat (rd_sk cs n a))), some (.int (Int32.ofNat v10))], [.int (Int32.ofNat v10)], A29)) rfl ?_
      refine wp_rt rfl rfl rfl ?_
      have hres : ru_mod cs n a = .ok (rd_sk cs n x9, v10) := by simp [ru_mod, u7, h27]
      rw [hres]
      exact un_Q_ok h31 f33
    · skip
      rw [ne_eq, i32_eq (by omega) (by omega)] at h27
      replace h27 := Decidable.not_not.mp h27
      refine wp_st 1 (f' := (29, [some (.ref (r)), some (.int (Int32.ofNat (rd_sk cs n a))), some (.int (Int32.ofNat v10))], [.ref (r)], A22)) rfl ?_
      refine wp_gf rfl rfl h24.rc rfl rfl ?_
      refine wp_st 1 (f' := (33, [some (.ref (r)), some (.int (Int32.ofNat (rd_sk cs n a))), some (.int (Int32.ofNat v10))], [.int (Int32.ofNat (rd_sk cs n a)), .ref (t)], A22)) rfl ?_
      obtain ⟨A34, g35, h36, f37⟩ := ui_refuse (d := d - 1) (x := Int32.ofNat (rd_sk cs n a)) h24
      have f38 := f26.trans f37
      refine wp_cv (A' := A34) (v := some (.int (Int32.ofNat 0))) rfl rfl rfl rfl rfl h24.tc (by omega) (g35) rfl ?_
      show am_wp d 79 (36, [some (.ref (r)), some (.int (Int32.ofNat (rd_sk cs n a))), some (.int (Int32.ofNat v10))], [.int (Int32.ofNat 0)], A34) _
      refine wp_st 2 (f' := (38, [some (.ref (r)), some (.int (Int32.ofNat (rd_sk cs n a))), some (.int (Int32.ofNat v10))], [.int ((-1))], A34)) rfl ?_
      refine wp_rt rfl rfl rfl ?_
      have hres : ru_mod cs n a = .error (rd_sk cs n a) := by simp [ru_mod, u7, h27]
      rw [hres]
      exact un_Q_er h36 f38
theorem ui_range {d r t m n a : Nat} {cs : List Nat} {S : rg} {A : am_H} (hd : 2 ≤ d) (han : a ≤ n) (hR : 0 < rg_R S) (hG : 2 * rg_G S + 2 ≤ a) (h : ur_I A r t m cs n a (-1) S) : am_wp d 81 (0, am_ent 81 [.ref r], [], A) (ur_Q A r t m cs n (ru_range cs n a S)) := by
  have hge := h.ge
  have hlk := h.lk
  have hcs := h.T.2.2.2.2.2.1
  have hPB := h.N.P
  refine wp_st 1 (f' := (1, [some (.ref (r)), none, none, none], [.ref (r)], A)) rfl ?_
  refine wp_gf rfl rfl h.rc rfl rfl ?_
  have k1 := rd_sk_le (cs := cs) (n := n) (a := a) (by omega)
  obtain ⟨A2, g3, h4, f5⟩ := ui_skip (d := d - 1) (by omega) (by omega) h
  have f6 := (ur_F.refl A t m).trans f5
  refine wp_cv (A' := A2) (v := none) rfl rfl rfl rfl rfl h.tc (by omega) (g3) rfl ?_
  show am_wp d 81 (7, [some (.ref (r)), none, none, none], [], A2) _
  refine wp_st 1 (f' := (8, [some (.ref (r)), none, none, none], [.ref (r)], A2)) rfl ?_
  refine wp_gf rfl rfl h4.rc rfl rfl ?_
  refine wp_st 1 (f' := (12, [some (.ref (r)), none, none, none], [.int (Int32.ofNat 4), .ref (t)], A2)) rfl ?_
  rcases u7 : rd_num cs n 4 (rd_sk cs n a) with e8 | ⟨x9, v10⟩
  · skip
    obtain ⟨A11, g12, h13, f14⟩ := ui_num0 (d := d - 1) (by omega) (by omega) (by omega) u7 h4
    have f15 := f6.trans f14
    refine wp_cv (A' := A11) (v := some (.int ((-1)))) rfl rfl rfl rfl rfl h4.tc (by omega) (g12) rfl ?_
    show am_wp d 81 (15, [some (.ref (r)), none, none, none], [.int ((-1))], A11) _
    refine wp_st 3 (f' := (18, [some (.ref (r)), some (.int ((-1))), none, none], [.int ((-1)), .int ((-1))], A11)) rfl ?_
    refine wp_ifF rfl rfl (fun q => q rfl) ?_
    refine wp_st 1 (f' := (22, [some (.ref (r)), some (.int ((-1))), none, none], [.int (Int32.ofNat 0)], A11)) rfl ?_
    refine wp_rt rfl rfl rfl ?_
    have hres : ru_range cs n a S = .error (e8) := by simp [ru_range, u7]
    rw [hres]
    exact ur_Q_er h13 f15
  · skip
    have u7l := rd_num_le (by omega) u7
    have u7v := rd_num_v (by omega) (by omega) u7
    obtain ⟨A16, g17, h18, f19⟩ := ui_num1 (d := d - 1) (by omega) (by omega) (by omega) u7 h4
    have f20 := f6.trans f19
    refine wp_cv (A' := A16) (v := some (.int (Int32.ofNat v10))) rfl rfl rfl rfl rfl h4.tc (by omega) (g17) rfl ?_
    show am_wp d 81 (15, [some (.ref (r)), none, none, none], [.int (Int32.ofNat v10)], A16) _
    refine wp_st 3 (f' := (18, [some (.ref (r)), some (.int (Int32.ofNat v10)), none, none], [.int ((-1)), .int (Int32.ofNat v10)], A16)) rfl ?_
    refine wp_ifT rfl rfl (i32_neg1 (by omega)) ?_
    refine wp_st 3 (f' := (26, [some (.ref (r)), some (.int (Int32.ofNat v10)), some (.int (Int32.ofNat v10)), none], [.ref (r)], A16)) rfl ?_
    refine wp_gf rfl rfl h18.rc rfl rfl ?_
    have k21 := rd_sk_le (cs := cs) (n := n) (a := x9) (by omega)
    obtain ⟨A22, g23, h24, f25⟩ := ui_skip (d := d - 1) (by omega) (by omega) h18
    have f26 := f20.trans f25
    refine wp_cv (A' := A22) (v := none) rfl rfl rfl rfl rfl h18.tc (by omega) (g23) rfl ?_
    show am_wp d 81 (32, [some (.ref (r)), some (.int (Int32.ofNat v10)), some (.int (Int32.ofNat v10)), none], [], A22) _
    refine wp_st 1 (f' := (33, [some (.ref (r)), some (.int (Int32.ofNat v10)), some (.int (Int32.ofNat v10)), none], [.ref (r)], A22)) rfl ?_
    refine wp_gf rfl rfl h24.rc rfl rfl ?_
    refine wp_st 1 (f' := (38, [some (.ref (r)), some (.int (Int32.ofNat v10)), some (.int (Int32.ofNat v10)), none], [.int (Int32.ofNat 46), .ref (t)], A22)) rfl ?_
    by_cases c27 : sb_lk cs n (rd_sk cs n x9) = 46
    · skip
      have c27p : rd_sk cs n x9 < n := sb_lk_pos (cs := cs) (by omega)
      obtain ⟨A28, g29, h30, f31⟩ := ui_take1 (d := d - 1) (by omega) (by omega) c27 h24
      have f32 := f26.trans f31
      refine wp_cv (A' := A28) (v := some (.int (Int32.ofNat 1))) rfl rfl rfl rfl rfl h24.tc (by omega) (g29) rfl ?_
      show am_wp d 81 (41, [some (.ref (r)), some (.int (Int32.ofNat v10)), some (.int (Int32.ofNat v10)), none], [.int (Int32.ofNat 1)], A28) _
      refine wp_izF rfl rfl (show ¬ ((Int32.ofNat 1) = (Int32.ofNat 0)) from by decide) ?_
      refine wp_st 1 (f' := (45, [some (.ref (r)), some (.int (Int32.ofNat v10)), some (.int (Int32.ofNat v10)), none], [.ref (r)], A28)) rfl ?_
      refine wp_gf rfl rfl h30.rc rfl rfl ?_
      refine wp_st 1 (f' := (50, [some (.ref (r)), some (.int (Int32.ofNat v10)), some (.int (Int32.ofNat v10)), none], [.int (Int32.ofNat 46), .ref (t)], A28)) rfl ?_
      by_cases c33 : sb_lk cs n (rd_sk cs n x9 + 1) = 46
      · skip
        have c33p : rd_sk cs n x9 + 1 < n := sb_lk_pos (cs := cs) (by omega)
        obtain ⟨A34, g35, h36, f37⟩ := ui_need1 (d := d - 1) (by omega) (by omega) (by omega) c33 h30
        have f38 := f32.trans f37
        refine wp_cv (A' := A34) (v := some (.int (Int32.ofNat 1))) rfl rfl rfl rfl rfl h30.tc (by omega) (g35) rfl ?_
        show am_wp d 81 (53, [some (.ref (r)), some (.int (Int32.ofNat v10)), some (.int (Int32.ofNat v10)), none], [.int (Int32.ofNat 1)], A34) _
        refine wp_izT rfl rfl (show (Int32.ofNat 1) ≠ (Int32.ofNat 0) from by decide) ?_
        refine wp_st 1 (f' := (59, [some (.ref (r)), some (.int (Int32.ofNat v10)), some (.int (Int32.ofNat v10)), none], [.ref (r)], A34)) rfl ?_
        refine wp_gf rfl rfl h36.rc rfl rfl ?_
        have k39 := rd_sk_le (cs := cs) (n := n) (a := rd_sk cs n x9 + 1 + 1) (by omega)
        obtain ⟨A40, g41, h42, f43⟩ := ui_skip (d := d - 1) (by omega) (by omega) h36
        have f44 := f38.trans f43
        refine wp_cv (A' := A40) (v := none) rfl rfl rfl rfl rfl h36.tc (by omega) (g41) rfl ?_
        show am_wp d 81 (65, [some (.ref (r)), some (.int (Int32.ofNat v10)), some (.int (Int32.ofNat v10)), none], [], A40) _
        refine wp_st 1 (f' := (66, [some (.ref (r)), some (.int (Int32.ofNat v10)), some (.int (Int32.ofNat v10)), none], [.ref (r)], A40)) rfl ?_
        refine wp_gf rfl rfl h42.rc rfl rfl ?_
        refine wp_gf rfl rfl h42.tc rfl rfl ?_
        refine wp_st 2 (f' := (74, [some (.ref (r)), some (.int (Int32.ofNat v10)), some (.int (Int32.ofNat v10)), some (.int (Int32.ofNat (rd_sk cs n (rd_sk cs n x9 + 1 + 1))))], [.ref (r)], A40)) rfl ?_
        refine wp_gf rfl rfl h42.rc rfl rfl ?_
        refine wp_st 1 (f' := (78, [some (.ref (r)), some (.int (Int32.ofNat v10)), some (.int (Int32.ofNat v10)), some (.int (Int32.ofNat (rd_sk cs n (rd_sk cs n x9 + 1 + 1))))], [.int (Int32.ofNat 4), .ref (t)], A40)) rfl ?_
        rcases u45 : rd_num cs n 4 (rd_sk cs n (rd_sk cs n x9 + 1 + 1)) with e46 | ⟨x47, v48⟩
        · skip
          obtain ⟨A49, g50, h51, f52⟩ := ui_num0 (d := d - 1) (by omega) (by omega) (by omega) u45 h42
          have f53 := f44.trans f52
          refine wp_cv (A' := A49) (v := some (.int ((-1)))) rfl rfl rfl rfl rfl h42.tc (by omega) (g50) rfl ?_
          show am_wp d 81 (81, [some (.ref (r)), some (.int (Int32.ofNat v10)), some (.int (Int32.ofNat v10)), some (.int (Int32.ofNat (rd_sk cs n (rd_sk cs n x9 + 1 + 1))))], [.int ((-1))], A49) _
          refine wp_st 3 (f' := (84, [some (.ref (r)), some (.int (Int32.ofNat v10)), some (.int ((-1))), some (.int (Int32.ofNat (rd_sk cs n (rd_sk cs n x9 + 1 + 1))))], [.int ((-1)), .int ((-1))], A49)) rfl ?_
          refine wp_ifF rfl rfl (fun q => q rfl) ?_
          refine wp_st 1 (f' := (88, [some (.ref (r)), some (.int (Int32.ofNat v10)), some (.int ((-1))), some (.int (Int32.ofNat (rd_sk cs n (rd_sk cs n x9 + 1 + 1))))], [.int (Int32.ofNat 0)], A49)) rfl ?_
          refine wp_rt rfl rfl rfl ?_
          have hres : ru_range cs n a S = .error (e46) := by simp [ru_range, u7, c27, c33, u45]
          rw [hres]
          exact ur_Q_er h51 f53
        · skip
          have u45l := rd_num_le (by omega) u45
          have u45v := rd_num_v (by omega) (by omega) u45
          obtain ⟨A54, g55, h56, f57⟩ := ui_num1 (d := d - 1) (by omega) (by omega) (by omega) u45 h42
          have f58 := f44.trans f57
          refine wp_cv (A' := A54) (v := some (.int (Int32.ofNat v48))) rfl rfl rfl rfl rfl h42.tc (by omega) (g55) rfl ?_
          show am_wp d 81 (81, [some (.ref (r)), some (.int (Int32.ofNat v10)), some (.int (Int32.ofNat v10)), some (.int (Int32.ofNat (rd_sk cs n (rd_sk cs n x9 + 1 + 1))))], [.int (Int32.ofNat v48)], A54) _
          refine wp_st 3 (f' := (84, [some (.ref (r)), some (.int (Int32.ofNat v10)), some (.int (Int32.ofNat v48)), some (.int (Int32.ofNat (rd_sk cs n (rd_sk cs n x9 + 1 + 1))))], [.int ((-1)), .int (Int32.ofNat v48)], A54)) rfl ?_
          refine wp_ifT rfl rfl (i32_neg1 (by omega)) ?_
          refine wp_st 2 (f' := (91, [some (.ref (r)), some (.int (Int32.ofNat v10)), some (.int (Int32.ofNat v48)), some (.int (Int32.ofNat (rd_sk cs n (rd_sk cs n x9 + 1 + 1))))], [.int (Int32.ofNat v10), .int (Int32.ofNat v48)], A54)) rfl ?_
          refine wp_if rfl rfl rfl (fun (h59 : (Int32.ofNat v10) ≤ (Int32.ofNat v48)) => ?_) (fun (h59 : ¬ ((Int32.ofNat v10) ≤ (Int32.ofNat v48))) => ?_)
          · skip
            rw [i32_le (by omega) (by omega)] at h59
            have h59n : ¬ v48 < v10 := by omega
            refine wp_st 1 (f' := (104, [some (.ref (r)), some (.int (Int32.ofNat v10)), some (.int (Int32.ofNat v48)), some (.int (Int32.ofNat (rd_sk cs n (rd_sk cs n x9 + 1 + 1))))], [.ref (r)], A54)) rfl ?_
            refine wp_gf rfl rfl h56.rc rfl rfl ?_
            have k60 := rd_sk_le (cs := cs) (n := n) (a := x47) (by omega)
            obtain ⟨A61, g62, h63, f64⟩ := ui_skip (d := d - 1) (by omega) (by omega) h56
            have f65 := f58.trans f64
            refine wp_cv (A' := A61) (v := none) rfl rfl rfl rfl rfl h56.tc (by omega) (g62) rfl ?_
            show am_wp d 81 (110, [some (.ref (r)), some (.int (Int32.ofNat v10)), some (.int (Int32.ofNat v48)), some (.int (Int32.ofNat (rd_sk cs n (rd_sk cs n x9 + 1 + 1))))], [], A61) _
            refine wp_st 1 (f' := (111, [some (.ref (r)), some (.int (Int32.ofNat v10)), some (.int (Int32.ofNat v48)), some (.int (Int32.ofNat (rd_sk cs n (rd_sk cs n x9 + 1 + 1))))], [.ref (r)], A61)) rfl ?_
            refine wp_gf rfl rfl h63.rc rfl rfl ?_
            refine wp_st 2 (f' := (116, [some (.ref (r)), some (.int (Int32.ofNat v10)), some (.int (Int32.ofNat v48)), some (.int (Int32.ofNat (rd_sk cs n (rd_sk cs n x9 + 1 + 1))))], [.int (Int32.ofNat v48), .int (Int32.ofNat v10), .ref (m)], A61)) rfl ?_
            obtain ⟨A66, g67, h68, f69⟩ := ui_addg (d := d - 1) (x := v10) (y := v48) (by omega) (by omega) (by omega) (by omega) h63
            have f70 := f65.trans f69
            refine wp_cv (A' := A66) (v := none) rfl rfl rfl rfl rfl h63.mc (by omega) (g67) rfl ?_
            show am_wp d 81 (119, [some (.ref (r)), some (.int (Int32.ofNat v10)), some (.int (Int32.ofNat v48)), some (.int (Int32.ofNat (rd_sk cs n (rd_sk cs n x9 + 1 + 1))))], [], A66) _
            refine wp_st 1 (f' := (120, [some (.ref (r)), some (.int (Int32.ofNat v10)), some (.int (Int32.ofNat v48)), some (.int (Int32.ofNat (rd_sk cs n (rd_sk cs n x9 + 1 + 1))))], [.int (Int32.ofNat 1)], A66)) rfl ?_
            refine wp_rt rfl rfl rfl ?_
            have hres : ru_range cs n a S = .ok (rd_sk cs n x47, rg_addg S v10 v48) := by simp [ru_range, u7, c27, c33, u45, h59n]
            rw [hres]
            exact ur_Q_ok h68 f70
          · skip
            rw [i32_le (by omega) (by omega)] at h59
            have h59n : v48 < v10 := by omega
            refine wp_st 1 (f' := (95, [some (.ref (r)), some (.int (Int32.ofNat v10)), some (.int (Int32.ofNat v48)), some (.int (Int32.ofNat (rd_sk cs n (rd_sk cs n x9 + 1 + 1))))], [.ref (r)], A54)) rfl ?_
            refine wp_gf rfl rfl h56.rc rfl rfl ?_
            refine wp_st 1 (f' := (99, [some (.ref (r)), some (.int (Int32.ofNat v10)), some (.int (Int32.ofNat v48)), some (.int (Int32.ofNat (rd_sk cs n (rd_sk cs n x9 + 1 + 1))))], [.int (Int32.ofNat (rd_sk cs n (rd_sk cs n x9 + 1 + 1))), .ref (t)], A54)) rfl ?_
            obtain ⟨A71, g72, h73, f74⟩ := ui_refuse (d := d - 1) (x := Int32.ofNat (rd_sk cs n (rd_sk cs n x9 + 1 + 1))) h56
            have f75 := f58.trans f74
            refine wp_cv (A' := A71) (v := some (.int (Int32.ofNat 0))) rfl rfl rfl rfl rfl h56.tc (by omega) (g72) rfl ?_
            show am_wp d 81 (102, [some (.ref (r)), some (.int (Int32.ofNat v10)), some (.int (Int32.ofNat v48)), some (.int (Int32.ofNat (rd_sk cs n (rd_sk cs n x9 + 1 + 1))))], [.int (Int32.ofNat 0)], A71) _
            refine wp_rt rfl rfl rfl ?_
            have hres : ru_range cs n a S = .error (rd_sk cs n (rd_sk cs n x9 + 1 + 1)) := by simp [ru_range, u7, c27, c33, u45, h59n]
            rw [hres]
            exact ur_Q_er h73 f75
      · skip
        obtain ⟨A76, g77, h78, f79⟩ := ui_need0 (d := d - 1) (by omega) (by omega) c33 h30
        have f80 := f32.trans f79
        refine wp_cv (A' := A76) (v := some (.int (Int32.ofNat 0))) rfl rfl rfl rfl rfl h30.tc (by omega) (g77) rfl ?_
        show am_wp d 81 (53, [some (.ref (r)), some (.int (Int32.ofNat v10)), some (.int (Int32.ofNat v10)), none], [.int (Int32.ofNat 0)], A76) _
        refine wp_izF rfl rfl (show ¬ ((Int32.ofNat 0) ≠ (Int32.ofNat 0)) from by decide) ?_
        refine wp_st 1 (f' := (57, [some (.ref (r)), some (.int (Int32.ofNat v10)), some (.int (Int32.ofNat v10)), none], [.int (Int32.ofNat 0)], A76)) rfl ?_
        refine wp_rt rfl rfl rfl ?_
        have hres : ru_range cs n a S = .error (rd_sk cs n x9 + 1) := by simp [ru_range, u7, c27, c33]
        rw [hres]
        exact ur_Q_er h78 f80
    · skip
      obtain ⟨A81, g82, h83, f84⟩ := ui_take0 (d := d - 1) (by omega) (by omega) c27 h24
      have f85 := f26.trans f84
      refine wp_cv (A' := A81) (v := some (.int (Int32.ofNat 0))) rfl rfl rfl rfl rfl h24.tc (by omega) (g82) rfl ?_
      show am_wp d 81 (41, [some (.ref (r)), some (.int (Int32.ofNat v10)), some (.int (Int32.ofNat v10)), none], [.int (Int32.ofNat 0)], A81) _
      refine wp_izT rfl rfl (show (Int32.ofNat 0) = (Int32.ofNat 0) from by decide) ?_
      refine wp_st 1 (f' := (111, [some (.ref (r)), some (.int (Int32.ofNat v10)), some (.int (Int32.ofNat v10)), none], [.ref (r)], A81)) rfl ?_
      refine wp_gf rfl rfl h83.rc rfl rfl ?_
      refine wp_st 2 (f' := (116, [some (.ref (r)), some (.int (Int32.ofNat v10)), some (.int (Int32.ofNat v10)), none], [.int (Int32.ofNat v10), .int (Int32.ofNat v10), .ref (m)], A81)) rfl ?_
      obtain ⟨A86, g87, h88, f89⟩ := ui_addg (d := d - 1) (x := v10) (y := v10) (by omega) (by omega) (by omega) (by omega) h83
      have f90 := f85.trans f89
      refine wp_cv (A' := A86) (v := none) rfl rfl rfl rfl rfl h83.mc (by omega) (g87) rfl ?_
      show am_wp d 81 (119, [some (.ref (r)), some (.int (Int32.ofNat v10)), some (.int (Int32.ofNat v10)), none], [], A86) _
      refine wp_st 1 (f' := (120, [some (.ref (r)), some (.int (Int32.ofNat v10)), some (.int (Int32.ofNat v10)), none], [.int (Int32.ofNat 1)], A86)) rfl ?_
      refine wp_rt rfl rfl rfl ?_
      have hres : ru_range cs n a S = .ok (rd_sk cs n x9, rg_addg S v10 v10) := by simp [ru_range, u7, c27]
      rw [hres]
      exact ur_Q_ok h88 f90
theorem ui_rngs_l {d r t m n : Nat} {cs : List Nat} {z1 z2 z3 z4 : Int32} (hd : 3 ≤ d) : ∀ (k a : Nat) (S : rg) (A : am_H), k ≤ 60 → a ≤ n → 0 < rg_R S → 2 * rg_G S + 2 ≤ a → ur_I A r t m cs n a (-1) S → am_wp d 72 (92, [some (.ref r), some (.int z1), some (.int z2), some (.int z3), some (.int z4), some (.int (Int32.ofNat (60 - k)))], [], A) (ur_Q A r t m cs n (ru_rngs cs n k a S)) := by
  intro k
  induction k with
  | zero =>
    intro a S A hk han hR hG h
    have hge := h.ge
    have hlk := h.lk
    have hcs := h.T.2.2.2.2.2.1
    have hPB := h.N.P
    refine wp_st 2 (f' := (96, [some (.ref (r)), some (.int (z1)), some (.int (z2)), some (.int (z3)), some (.int (z4)), some (.int (Int32.ofNat (60 - 0)))], [.int (Int32.ofNat 60), .int (Int32.ofNat (60 - 0))], A)) rfl ?_
    refine wp_ifT rfl rfl ((i32_le (a := 60) (b := 60 - 0) (by omega) (by omega)).mpr (by omega)) ?_
    refine wp_st 1 (f' := (129, [some (.ref (r)), some (.int (z1)), some (.int (z2)), some (.int (z3)), some (.int (z4)), some (.int (Int32.ofNat (60 - 0)))], [.ref (r)], A)) rfl ?_
    refine wp_gf rfl rfl h.rc rfl rfl ?_
    refine wp_st 1 (f' := (133, [some (.ref (r)), some (.int (z1)), some (.int (z2)), some (.int (z3)), some (.int (z4)), some (.int (Int32.ofNat (60 - 0)))], [.ref (r), .ref (t)], A)) rfl ?_
    refine wp_gf rfl rfl h.rc rfl rfl ?_
    refine wp_gf rfl rfl h.tc rfl rfl ?_
    obtain ⟨A1, g2, h3, f4⟩ := ui_refuse (d := d - 1) (x := Int32.ofNat a) h
    have f5 := (ur_F.refl A t m).trans f4
    refine wp_cv (A' := A1) (v := some (.int (Int32.ofNat 0))) rfl rfl rfl rfl rfl h.tc (by omega) (g2) rfl ?_
    show am_wp d 72 (142, [some (.ref (r)), some (.int (z1)), some (.int (z2)), some (.int (z3)), some (.int (z4)), some (.int (Int32.ofNat (60 - 0)))], [.int (Int32.ofNat 0)], A1) _
    refine wp_rt rfl rfl rfl ?_
    have hres : ru_rngs cs n 0 a S = .error (a) := by simp [ru_rngs]
    rw [hres]
    exact ur_Q_er h3 f5
  | succ k ih =>
    intro a S A hk han hR hG h
    have hge := h.ge
    have hlk := h.lk
    have hcs := h.T.2.2.2.2.2.1
    have hPB := h.N.P
    refine wp_st 2 (f' := (96, [some (.ref (r)), some (.int (z1)), some (.int (z2)), some (.int (z3)), some (.int (z4)), some (.int (Int32.ofNat (60 - (k + 1))))], [.int (Int32.ofNat 60), .int (Int32.ofNat (60 - (k + 1)))], A)) rfl ?_
    refine wp_ifF rfl rfl (fun q => absurd ((i32_le (a := 60) (b := 60 - (k + 1)) (by omega) (by omega)).mp q) (by omega)) ?_
    refine wp_st 1 (f' := (100, [some (.ref (r)), some (.int (z1)), some (.int (z2)), some (.int (z3)), some (.int (z4)), some (.int (Int32.ofNat (60 - (k + 1))))], [.ref (r)], A)) rfl ?_
    rcases q81 : ru_range cs n a S with e1 | ⟨a1, S1⟩
    · skip
      obtain ⟨a5, M6, A1, g2, h3, f4⟩ := ur_Q0 (ui_range (d := d - 1) (by omega) (by omega) (by omega) (by omega) h) q81
      have f7 := (ur_F.refl A t m).trans f4
      refine wp_cv (A' := A1) (v := some (.int (Int32.ofNat 0))) rfl rfl rfl rfl rfl h.rc (by omega) (g2) rfl ?_
      show am_wp d 72 (103, [some (.ref (r)), some (.int (z1)), some (.int (z2)), some (.int (z3)), some (.int (z4)), some (.int (Int32.ofNat (60 - (k + 1))))], [.int (Int32.ofNat 0)], A1) _
      refine wp_izF rfl rfl (show ¬ ((Int32.ofNat 0) ≠ (Int32.ofNat 0)) from by decide) ?_
      refine wp_st 1 (f' := (107, [some (.ref (r)), some (.int (z1)), some (.int (z2)), some (.int (z3)), some (.int (z4)), some (.int (Int32.ofNat (60 - (k + 1))))], [.int (Int32.ofNat 0)], A1)) rfl ?_
      refine wp_rt rfl rfl rfl ?_
      have hres : ru_rngs cs n (k + 1) a S = .error (e1) := by simp [ru_rngs, q81]
      rw [hres]
      exact ur_Q_er h3 f7
    · skip
      have hrl := ru_range_le (by omega) q81
      obtain ⟨A8, g9, h10, f11⟩ := ur_Q1 (ui_range (d := d - 1) (by omega) (by omega) (by omega) (by omega) h) q81
      have f12 := (ur_F.refl A t m).trans f11
      refine wp_cv (A' := A8) (v := some (.int (Int32.ofNat 1))) rfl rfl rfl rfl rfl h.rc (by omega) (g9) rfl ?_
      show am_wp d 72 (103, [some (.ref (r)), some (.int (z1)), some (.int (z2)), some (.int (z3)), some (.int (z4)), some (.int (Int32.ofNat (60 - (k + 1))))], [.int (Int32.ofNat 1)], A8) _
      refine wp_izT rfl rfl (show (Int32.ofNat 1) ≠ (Int32.ofNat 0) from by decide) ?_
      refine wp_st 1 (f' := (109, [some (.ref (r)), some (.int (z1)), some (.int (z2)), some (.int (z3)), some (.int (z4)), some (.int (Int32.ofNat (60 - (k + 1))))], [.ref (r)], A8)) rfl ?_
      refine wp_gf rfl rfl h10.rc rfl rfl ?_
      refine wp_st 1 (f' := (114, [some (.ref (r)), some (.int (z1)), some (.int (z2)), some (.int (z3)), some (.int (z4)), some (.int (Int32.ofNat (60 - (k + 1))))], [.int (Int32.ofNat 44), .ref (t)], A8)) rfl ?_
      by_cases c13 : sb_lk cs n a1 = 44
      · skip
        have c13p : a1 < n := sb_lk_pos (cs := cs) (by omega)
        obtain ⟨A14, g15, h16, f17⟩ := ui_take1 (d := d - 1) (by omega) (by omega) c13 h10
        have f18 := f12.trans f17
        refine wp_cv (A' := A14) (v := some (.int (Int32.ofNat 1))) rfl rfl rfl rfl rfl h10.tc (by omega) (g15) rfl ?_
        show am_wp d 72 (117, [some (.ref (r)), some (.int (z1)), some (.int (z2)), some (.int (z3)), some (.int (z4)), some (.int (Int32.ofNat (60 - (k + 1))))], [.int (Int32.ofNat 1)], A14) _
        refine wp_izT rfl rfl (show (Int32.ofNat 1) ≠ (Int32.ofNat 0) from by decide) ?_
        refine wp_st 1 (f' := (125, [some (.ref (r)), some (.int (z1)), some (.int (z2)), some (.int (z3)), some (.int (z4)), some (.int ((Int32.ofNat (60 - (k + 1))) + (Int32.ofNat 1)))], [], A14)) rfl ?_
        rw [i32_add (60 - (k + 1)) (1)]
        refine wp_st 1 (f' := (92, [some (.ref (r)), some (.int (z1)), some (.int (z2)), some (.int (z3)), some (.int (z4)), some (.int (Int32.ofNat (60 - (k + 1) + 1)))], [], A14)) rfl ?_
        have hres : ru_rngs cs n (k + 1) a S = ru_rngs cs n k (a1 + 1) S1 := by simp [ru_rngs, q81, c13]
        rw [hres, show 60 - (k + 1) + 1 = 60 - k by omega]
        obtain ⟨q, q1, q2⟩ := ih (a1 + 1) S1 _ (by omega) (by omega) (by omega) (by omega) h16
        exact ⟨q, q1, q2.tr f18⟩
      · skip
        obtain ⟨A19, g20, h21, f22⟩ := ui_take0 (d := d - 1) (by omega) (by omega) c13 h10
        have f23 := f12.trans f22
        refine wp_cv (A' := A19) (v := some (.int (Int32.ofNat 0))) rfl rfl rfl rfl rfl h10.tc (by omega) (g20) rfl ?_
        show am_wp d 72 (117, [some (.ref (r)), some (.int (z1)), some (.int (z2)), some (.int (z3)), some (.int (z4)), some (.int (Int32.ofNat (60 - (k + 1))))], [.int (Int32.ofNat 0)], A19) _
        refine wp_izF rfl rfl (show ¬ ((Int32.ofNat 0) ≠ (Int32.ofNat 0)) from by decide) ?_
        refine wp_st 1 (f' := (121, [some (.ref (r)), some (.int (z1)), some (.int (z2)), some (.int (z3)), some (.int (z4)), some (.int (Int32.ofNat (60 - (k + 1))))], [.int (Int32.ofNat 1)], A19)) rfl ?_
        refine wp_rt rfl rfl rfl ?_
        have hres : ru_rngs cs n (k + 1) a S = .ok (a1, S1) := by simp [ru_rngs, q81, c13]
        rw [hres]
        exact ur_Q_ok h21 f23
theorem ui_rel {d r t m n a : Nat} {cs : List Nat} {S : rg} {A : am_H} {og : Bool} (hd : 5 ≤ d) (han : a ≤ n) (hR : 3 * rg_R S ≤ a) (hG : 2 * rg_G S ≤ a) (h : ur_I A r t m cs n a (-1) S) : am_wp d 72 (0, am_ent 72 [.ref r, .int (sb_i og)], [], A) (ur_Q A r t m cs n (ru_rel cs n og a S)) := by
  have hge := h.ge
  have hlk := h.lk
  have hcs := h.T.2.2.2.2.2.1
  have hPB := h.N.P
  refine wp_st 1 (f' := (1, [some (.ref (r)), some (.int (sb_i og)), none, none, none, none], [.ref (r)], A)) rfl ?_
  refine wp_gf rfl rfl h.rc rfl rfl ?_
  have k1 := rd_sk_le (cs := cs) (n := n) (a := a) (by omega)
  obtain ⟨A2, g3, h4, f5⟩ := ui_skip (d := d - 1) (by omega) (by omega) h
  have f6 := (ur_F.refl A t m).trans f5
  refine wp_cv (A' := A2) (v := none) rfl rfl rfl rfl rfl h.tc (by omega) (g3) rfl ?_
  show am_wp d 72 (7, [some (.ref (r)), some (.int (sb_i og)), none, none, none, none], [], A2) _
  refine wp_st 1 (f' := (8, [some (.ref (r)), some (.int (sb_i og)), none, none, none, none], [.ref (r)], A2)) rfl ?_
  rcases q73 : ru_opnd cs n (rd_sk cs n a) with e2 | ⟨a2, o⟩
  · skip
    obtain ⟨a11, A7, g8, h9, f10⟩ := un_Q0 (ui_opnd (d := d - 1) (by omega) (by omega) h4) q73
    have f12 := f6.trans f10
    refine wp_cv (A' := A7) (v := some (.int ((-1)))) rfl rfl rfl rfl rfl h4.rc (by omega) (g8) rfl ?_
    show am_wp d 72 (11, [some (.ref (r)), some (.int (sb_i og)), none, none, none, none], [.int ((-1))], A7) _
    refine wp_st 3 (f' := (14, [some (.ref (r)), some (.int (sb_i og)), some (.int ((-1))), none, none, none], [.int ((-1)), .int ((-1))], A7)) rfl ?_
    refine wp_ifF rfl rfl (fun q => q rfl) ?_
    refine wp_st 1 (f' := (18, [some (.ref (r)), some (.int (sb_i og)), some (.int ((-1))), none, none, none], [.int (Int32.ofNat 0)], A7)) rfl ?_
    refine wp_rt rfl rfl rfl ?_
    have hres : ru_rel cs n og a S = .error (e2) := by simp [ru_rel, ru_rel2, q73]
    rw [hres]
    exact ur_Q_er h9 f12
  · skip
    have hol := ru_opnd_le (by omega) q73
    obtain ⟨A13, g14, h15, f16⟩ := un_Q1 (ui_opnd (d := d - 1) (by omega) (by omega) h4) q73
    have f17 := f6.trans f16
    refine wp_cv (A' := A13) (v := some (.int (Int32.ofNat o))) rfl rfl rfl rfl rfl h4.rc (by omega) (g14) rfl ?_
    show am_wp d 72 (11, [some (.ref (r)), some (.int (sb_i og)), none, none, none, none], [.int (Int32.ofNat o)], A13) _
    refine wp_st 3 (f' := (14, [some (.ref (r)), some (.int (sb_i og)), some (.int (Int32.ofNat o)), none, none, none], [.int ((-1)), .int (Int32.ofNat o)], A13)) rfl ?_
    refine wp_ifT rfl rfl (i32_neg1 (by omega)) ?_
    refine wp_st 1 (f' := (20, [some (.ref (r)), some (.int (sb_i og)), some (.int (Int32.ofNat o)), none, none, none], [.ref (r)], A13)) rfl ?_
    refine wp_gf rfl rfl h15.rc rfl rfl ?_
    have k18 := rd_sk_le (cs := cs) (n := n) (a := a2) (by omega)
    obtain ⟨A19, g20, h21, f22⟩ := ui_skip (d := d - 1) (by omega) (by omega) h15
    have f23 := f17.trans f22
    refine wp_cv (A' := A19) (v := none) rfl rfl rfl rfl rfl h15.tc (by omega) (g20) rfl ?_
    show am_wp d 72 (26, [some (.ref (r)), some (.int (sb_i og)), some (.int (Int32.ofNat o)), none, none, none], [], A19) _
    refine wp_st 3 (f' := (29, [some (.ref (r)), some (.int (sb_i og)), some (.int (Int32.ofNat o)), some (.int (Int32.ofNat 0)), none, none], [.ref (r)], A19)) rfl ?_
    refine wp_gf rfl rfl h21.rc rfl rfl ?_
    refine wp_st 1 (f' := (34, [some (.ref (r)), some (.int (sb_i og)), some (.int (Int32.ofNat o)), some (.int (Int32.ofNat 0)), none, none], [.int (Int32.ofNat 37), .ref (t)], A19)) rfl ?_
    by_cases c24 : sb_lk cs n (rd_sk cs n a2) = 37
    · skip
      have c24p : rd_sk cs n a2 < n := sb_lk_pos (cs := cs) (by omega)
      obtain ⟨A25, g26, h27, f28⟩ := ui_take1 (d := d - 1) (by omega) (by omega) c24 h21
      have f29 := f23.trans f28
      refine wp_cv (A' := A25) (v := some (.int (Int32.ofNat 1))) rfl rfl rfl rfl rfl h21.tc (by omega) (g26) rfl ?_
      show am_wp d 72 (37, [some (.ref (r)), some (.int (sb_i og)), some (.int (Int32.ofNat o)), some (.int (Int32.ofNat 0)), none, none], [.int (Int32.ofNat 1)], A25) _
      refine wp_izF rfl rfl (show ¬ ((Int32.ofNat 1) = (Int32.ofNat 0)) from by decide) ?_
      refine wp_st 1 (f' := (41, [some (.ref (r)), some (.int (sb_i og)), some (.int (Int32.ofNat o)), some (.int (Int32.ofNat 0)), none, none], [.ref (r)], A25)) rfl ?_
      rcases q79 : ru_mod cs n (rd_sk cs n a2 + 1) with e3 | ⟨a4, mo⟩
      · skip
        obtain ⟨a34, A30, g31, h32, f33⟩ := un_Q0 (ui_mod (d := d - 1) (by omega) (by omega) h27) q79
        have f35 := f29.trans f33
        refine wp_cv (A' := A30) (v := some (.int ((-1)))) rfl rfl rfl rfl rfl h27.rc (by omega) (g31) rfl ?_
        show am_wp d 72 (44, [some (.ref (r)), some (.int (sb_i og)), some (.int (Int32.ofNat o)), some (.int (Int32.ofNat 0)), none, none], [.int ((-1))], A30) _
        refine wp_st 3 (f' := (47, [some (.ref (r)), some (.int (sb_i og)), some (.int (Int32.ofNat o)), some (.int ((-1))), none, none], [.int ((-1)), .int ((-1))], A30)) rfl ?_
        refine wp_ifF rfl rfl (fun q => q rfl) ?_
        refine wp_st 1 (f' := (51, [some (.ref (r)), some (.int (sb_i og)), some (.int (Int32.ofNat o)), some (.int ((-1))), none, none], [.int (Int32.ofNat 0)], A30)) rfl ?_
        refine wp_rt rfl rfl rfl ?_
        have hres : ru_rel cs n og a S = .error (e3) := by simp [ru_rel, ru_rel2, q73, c24, q79]
        rw [hres]
        exact ur_Q_er h32 f35
      · skip
        have hml := ru_mod_le (by omega) q79
        obtain ⟨A36, g37, h38, f39⟩ := un_Q1 (ui_mod (d := d - 1) (by omega) (by omega) h27) q79
        have f40 := f29.trans f39
        refine wp_cv (A' := A36) (v := some (.int (Int32.ofNat mo))) rfl rfl rfl rfl rfl h27.rc (by omega) (g37) rfl ?_
        show am_wp d 72 (44, [some (.ref (r)), some (.int (sb_i og)), some (.int (Int32.ofNat o)), some (.int (Int32.ofNat 0)), none, none], [.int (Int32.ofNat mo)], A36) _
        refine wp_st 3 (f' := (47, [some (.ref (r)), some (.int (sb_i og)), some (.int (Int32.ofNat o)), some (.int (Int32.ofNat mo)), none, none], [.int ((-1)), .int (Int32.ofNat mo)], A36)) rfl ?_
        refine wp_ifT rfl rfl (i32_neg1 (by omega)) ?_
        refine wp_st 1 (f' := (53, [some (.ref (r)), some (.int (sb_i og)), some (.int (Int32.ofNat o)), some (.int (Int32.ofNat mo)), none, none], [.ref (r)], A36)) rfl ?_
        refine wp_gf rfl rfl h38.rc rfl rfl ?_
        refine wp_st 1 (f' := (58, [some (.ref (r)), some (.int (sb_i og)), some (.int (Int32.ofNat o)), some (.int (Int32.ofNat mo)), none, none], [.int (Int32.ofNat 33), .ref (t)], A36)) rfl ?_
        by_cases c41 : sb_lk cs n a4 = 33
        · skip
          have c41p : a4 < n := sb_lk_pos (cs := cs) (by omega)
          obtain ⟨A42, g43, h44, f45⟩ := ui_take1 (d := d - 1) (by omega) (by omega) c41 h38
          have f46 := f40.trans f45
          refine wp_cv (A' := A42) (v := some (.int (Int32.ofNat 1))) rfl rfl rfl rfl rfl h38.tc (by omega) (g43) rfl ?_
          show am_wp d 72 (61, [some (.ref (r)), some (.int (sb_i og)), some (.int (Int32.ofNat o)), some (.int (Int32.ofNat mo)), none, none], [.int (Int32.ofNat 1)], A42) _
          refine wp_st 2 (f' := (64, [some (.ref (r)), some (.int (sb_i og)), some (.int (Int32.ofNat o)), some (.int (Int32.ofNat mo)), some (.int (Int32.ofNat 1)), none], [.ref (r)], A42)) rfl ?_
          refine wp_gf rfl rfl h44.rc rfl rfl ?_
          refine wp_st 1 (f' := (69, [some (.ref (r)), some (.int (sb_i og)), some (.int (Int32.ofNat o)), some (.int (Int32.ofNat mo)), some (.int (Int32.ofNat 1)), none], [.int (Int32.ofNat 61), .ref (t)], A42)) rfl ?_
          by_cases c47 : sb_lk cs n (a4 + 1) = 61
          · skip
            have c47p : a4 + 1 < n := sb_lk_pos (cs := cs) (by omega)
            obtain ⟨A48, g49, h50, f51⟩ := ui_need1 (d := d - 1) (by omega) (by omega) (by omega) c47 h44
            have f52 := f46.trans f51
            refine wp_cv (A' := A48) (v := some (.int (Int32.ofNat 1))) rfl rfl rfl rfl rfl h44.tc (by omega) (g49) rfl ?_
            show am_wp d 72 (72, [some (.ref (r)), some (.int (sb_i og)), some (.int (Int32.ofNat o)), some (.int (Int32.ofNat mo)), some (.int (Int32.ofNat 1)), none], [.int (Int32.ofNat 1)], A48) _
            refine wp_izT rfl rfl (show (Int32.ofNat 1) ≠ (Int32.ofNat 0) from by decide) ?_
            refine wp_st 1 (f' := (78, [some (.ref (r)), some (.int (sb_i og)), some (.int (Int32.ofNat o)), some (.int (Int32.ofNat mo)), some (.int (Int32.ofNat 1)), none], [.ref (r)], A48)) rfl ?_
            refine wp_gf rfl rfl h50.rc rfl rfl ?_
            refine wp_st 4 (f' := (86, [some (.ref (r)), some (.int (sb_i og)), some (.int (Int32.ofNat o)), some (.int (Int32.ofNat mo)), some (.int (Int32.ofNat 1)), none], [.int (sb_i og), .int (Int32.ofNat 1), .int (Int32.ofNat mo), .int (Int32.ofNat o), .ref (m)], A48)) rfl ?_
            obtain ⟨A53, g54, h55, f56⟩ := ui_addr (d := d - 1) (o := o) (mo := mo) (x := true) (y := og) (by omega) (by omega) (by omega) h50
            have f57 := f52.trans f56
            refine wp_cv (A' := A53) (v := none) rfl rfl rfl rfl rfl h50.mc (by omega) (g54) rfl ?_
            show am_wp d 72 (89, [some (.ref (r)), some (.int (sb_i og)), some (.int (Int32.ofNat o)), some (.int (Int32.ofNat mo)), some (.int (Int32.ofNat 1)), none], [], A53) _
            refine wp_st 2 (f' := (92, [some (.ref (r)), some (.int (sb_i og)), some (.int (Int32.ofNat o)), some (.int (Int32.ofNat mo)), some (.int (Int32.ofNat 1)), some (.int (Int32.ofNat 0))], [], A53)) rfl ?_
            have hres : ru_rel cs n og a S = ru_rngs cs n 60 (a4 + 1 + 1) (rg_addr S o mo true og) := by simp [ru_rel, ru_rel2, q73, c24, q79, c41, c47]
            rw [hres]
            obtain ⟨q, q1, q2⟩ := ui_rngs_l (d := d) (by omega) 60 (a4 + 1 + 1) (rg_addr S o mo true og) _ (by omega) (by omega) (by rw [rg_addr_R]; omega) (by rw [rg_addr_G]; omega) h55
            exact ⟨q, q1, q2.tr f57⟩
          · skip
            obtain ⟨A58, g59, h60, f61⟩ := ui_need0 (d := d - 1) (by omega) (by omega) c47 h44
            have f62 := f46.trans f61
            refine wp_cv (A' := A58) (v := some (.int (Int32.ofNat 0))) rfl rfl rfl rfl rfl h44.tc (by omega) (g59) rfl ?_
            show am_wp d 72 (72, [some (.ref (r)), some (.int (sb_i og)), some (.int (Int32.ofNat o)), some (.int (Int32.ofNat mo)), some (.int (Int32.ofNat 1)), none], [.int (Int32.ofNat 0)], A58) _
            refine wp_izF rfl rfl (show ¬ ((Int32.ofNat 0) ≠ (Int32.ofNat 0)) from by decide) ?_
            refine wp_st 1 (f' := (76, [some (.ref (r)), some (.int (sb_i og)), some (.int (Int32.ofNat o)), some (.int (Int32.ofNat mo)), some (.int (Int32.ofNat 1)), none], [.int (Int32.ofNat 0)], A58)) rfl ?_
            refine wp_rt rfl rfl rfl ?_
            have hres : ru_rel cs n og a S = .error (a4 + 1) := by simp [ru_rel, ru_rel2, q73, c24, q79, c41, c47]
            rw [hres]
            exact ur_Q_er h60 f62
        · skip
          obtain ⟨A63, g64, h65, f66⟩ := ui_take0 (d := d - 1) (by omega) (by omega) c41 h38
          have f67 := f40.trans f66
          refine wp_cv (A' := A63) (v := some (.int (Int32.ofNat 0))) rfl rfl rfl rfl rfl h38.tc (by omega) (g64) rfl ?_
          show am_wp d 72 (61, [some (.ref (r)), some (.int (sb_i og)), some (.int (Int32.ofNat o)), some (.int (Int32.ofNat mo)), none, none], [.int (Int32.ofNat 0)], A63) _
          refine wp_st 2 (f' := (64, [some (.ref (r)), some (.int (sb_i og)), some (.int (Int32.ofNat o)), some (.int (Int32.ofNat mo)), some (.int (Int32.ofNat 0)), none], [.ref (r)], A63)) rfl ?_
          refine wp_gf rfl rfl h65.rc rfl rfl ?_
          refine wp_st 1 (f' := (69, [some (.ref (r)), some (.int (sb_i og)), some (.int (Int32.ofNat o)), some (.int (Int32.ofNat mo)), some (.int (Int32.ofNat 0)), none], [.int (Int32.ofNat 61), .ref (t)], A63)) rfl ?_
          by_cases c68 : sb_lk cs n a4 = 61
          · skip
            have c68p : a4 < n := sb_lk_pos (cs := cs) (by omega)
            obtain ⟨A69, g70, h71, f72⟩ := ui_need1 (d := d - 1) (by omega) (by omega) (by omega) c68 h65
            have f73 := f67.trans f72
            refine wp_cv (A' := A69) (v := some (.int (Int32.ofNat 1))) rfl rfl rfl rfl rfl h65.tc (by omega) (g70) rfl ?_
            show am_wp d 72 (72, [some (.ref (r)), some (.int (sb_i og)), some (.int (Int32.ofNat o)), some (.int (Int32.ofNat mo)), some (.int (Int32.ofNat 0)), none], [.int (Int32.ofNat 1)], A69) _
            refine wp_izT rfl rfl (show (Int32.ofNat 1) ≠ (Int32.ofNat 0) from by decide) ?_
            refine wp_st 1 (f' := (78, [some (.ref (r)), some (.int (sb_i og)), some (.int (Int32.ofNat o)), some (.int (Int32.ofNat mo)), some (.int (Int32.ofNat 0)), none], [.ref (r)], A69)) rfl ?_
            refine wp_gf rfl rfl h71.rc rfl rfl ?_
            refine wp_st 4 (f' := (86, [some (.ref (r)), some (.int (sb_i og)), some (.int (Int32.ofNat o)), some (.int (Int32.ofNat mo)), some (.int (Int32.ofNat 0)), none], [.int (sb_i og), .int (Int32.ofNat 0), .int (Int32.ofNat mo), .int (Int32.ofNat o), .ref (m)], A69)) rfl ?_
            obtain ⟨A74, g75, h76, f77⟩ := ui_addr (d := d - 1) (o := o) (mo := mo) (x := false) (y := og) (by omega) (by omega) (by omega) h71
            have f78 := f73.trans f77
            refine wp_cv (A' := A74) (v := none) rfl rfl rfl rfl rfl h71.mc (by omega) (g75) rfl ?_
            show am_wp d 72 (89, [some (.ref (r)), some (.int (sb_i og)), some (.int (Int32.ofNat o)), some (.int (Int32.ofNat mo)), some (.int (Int32.ofNat 0)), none], [], A74) _
            refine wp_st 2 (f' := (92, [some (.ref (r)), some (.int (sb_i og)), some (.int (Int32.ofNat o)), some (.int (Int32.ofNat mo)), some (.int (Int32.ofNat 0)), some (.int (Int32.ofNat 0))], [], A74)) rfl ?_
            have hres : ru_rel cs n og a S = ru_rngs cs n 60 (a4 + 1) (rg_addr S o mo false og) := by simp [ru_rel, ru_rel2, q73, c24, q79, c41, c68]
            rw [hres]
            obtain ⟨q, q1, q2⟩ := ui_rngs_l (d := d) (by omega) 60 (a4 + 1) (rg_addr S o mo false og) _ (by omega) (by omega) (by rw [rg_addr_R]; omega) (by rw [rg_addr_G]; omega) h76
            exact ⟨q, q1, q2.tr f78⟩
          · skip
            obtain ⟨A79, g80, h81, f82⟩ := ui_need0 (d := d - 1) (by omega) (by omega) c68 h65
            have f83 := f67.trans f82
            refine wp_cv (A' := A79) (v := some (.int (Int32.ofNat 0))) rfl rfl rfl rfl rfl h65.tc (by omega) (g80) rfl ?_
            show am_wp d 72 (72, [some (.ref (r)), some (.int (sb_i og)), some (.int (Int32.ofNat o)), some (.int (Int32.ofNat mo)), some (.int (Int32.ofNat 0)), none], [.int (Int32.ofNat 0)], A79) _
            refine wp_izF rfl rfl (show ¬ ((Int32.ofNat 0) ≠ (Int32.ofNat 0)) from by decide) ?_
            refine wp_st 1 (f' := (76, [some (.ref (r)), some (.int (sb_i og)), some (.int (Int32.ofNat o)), some (.int (Int32.ofNat mo)), some (.int (Int32.ofNat 0)), none], [.int (Int32.ofNat 0)], A79)) rfl ?_
            refine wp_rt rfl rfl rfl ?_
            have hres : ru_rel cs n og a S = .error (a4) := by simp [ru_rel, ru_rel2, q73, c24, q79, c41, c68]
            rw [hres]
            exact ur_Q_er h81 f83
    · skip
      obtain ⟨A84, g85, h86, f87⟩ := ui_take0 (d := d - 1) (by omega) (by omega) c24 h21
      have f88 := f23.trans f87
      refine wp_cv (A' := A84) (v := some (.int (Int32.ofNat 0))) rfl rfl rfl rfl rfl h21.tc (by omega) (g85) rfl ?_
      show am_wp d 72 (37, [some (.ref (r)), some (.int (sb_i og)), some (.int (Int32.ofNat o)), some (.int (Int32.ofNat 0)), none, none], [.int (Int32.ofNat 0)], A84) _
      refine wp_izT rfl rfl (show (Int32.ofNat 0) = (Int32.ofNat 0) from by decide) ?_
      refine wp_st 1 (f' := (53, [some (.ref (r)), some (.int (sb_i og)), some (.int (Int32.ofNat o)), some (.int (Int32.ofNat 0)), none, none], [.ref (r)], A84)) rfl ?_
      refine wp_gf rfl rfl h86.rc rfl rfl ?_
      refine wp_st 1 (f' := (58, [some (.ref (r)), some (.int (sb_i og)), some (.int (Int32.ofNat o)), some (.int (Int32.ofNat 0)), none, none], [.int (Int32.ofNat 33), .ref (t)], A84)) rfl ?_
      by_cases c89 : sb_lk cs n (rd_sk cs n a2) = 33
      · skip
        have c89p : rd_sk cs n a2 < n := sb_lk_pos (cs := cs) (by omega)
        obtain ⟨A90, g91, h92, f93⟩ := ui_take1 (d := d - 1) (by omega) (by omega) c89 h86
        have f94 := f88.trans f93
        refine wp_cv (A' := A90) (v := some (.int (Int32.ofNat 1))) rfl rfl rfl rfl rfl h86.tc (by omega) (g91) rfl ?_
        show am_wp d 72 (61, [some (.ref (r)), some (.int (sb_i og)), some (.int (Int32.ofNat o)), some (.int (Int32.ofNat 0)), none, none], [.int (Int32.ofNat 1)], A90) _
        refine wp_st 2 (f' := (64, [some (.ref (r)), some (.int (sb_i og)), some (.int (Int32.ofNat o)), some (.int (Int32.ofNat 0)), some (.int (Int32.ofNat 1)), none], [.ref (r)], A90)) rfl ?_
        refine wp_gf rfl rfl h92.rc rfl rfl ?_
        refine wp_st 1 (f' := (69, [some (.ref (r)), some (.int (sb_i og)), some (.int (Int32.ofNat o)), some (.int (Int32.ofNat 0)), some (.int (Int32.ofNat 1)), none], [.int (Int32.ofNat 61), .ref (t)], A90)) rfl ?_
        by_cases c95 : sb_lk cs n (rd_sk cs n a2 + 1) = 61
        · skip
          have c95p : rd_sk cs n a2 + 1 < n := sb_lk_pos (cs := cs) (by omega)
          obtain ⟨A96, g97, h98, f99⟩ := ui_need1 (d := d - 1) (by omega) (by omega) (by omega) c95 h92
          have f100 := f94.trans f99
          refine wp_cv (A' := A96) (v := some (.int (Int32.ofNat 1))) rfl rfl rfl rfl rfl h92.tc (by omega) (g97) rfl ?_
          show am_wp d 72 (72, [some (.ref (r)), some (.int (sb_i og)), some (.int (Int32.ofNat o)), some (.int (Int32.ofNat 0)), some (.int (Int32.ofNat 1)), none], [.int (Int32.ofNat 1)], A96) _
          refine wp_izT rfl rfl (show (Int32.ofNat 1) ≠ (Int32.ofNat 0) from by decide) ?_
          refine wp_st 1 (f' := (78, [some (.ref (r)), some (.int (sb_i og)), some (.int (Int32.ofNat o)), some (.int (Int32.ofNat 0)), some (.int (Int32.ofNat 1)), none], [.ref (r)], A96)) rfl ?_
          refine wp_gf rfl rfl h98.rc rfl rfl ?_
          refine wp_st 4 (f' := (86, [some (.ref (r)), some (.int (sb_i og)), some (.int (Int32.ofNat o)), some (.int (Int32.ofNat 0)), some (.int (Int32.ofNat 1)), none], [.int (sb_i og), .int (Int32.ofNat 1), .int (Int32.ofNat 0), .int (Int32.ofNat o), .ref (m)], A96)) rfl ?_
          obtain ⟨A101, g102, h103, f104⟩ := ui_addr (d := d - 1) (o := o) (mo := 0) (x := true) (y := og) (by omega) (by omega) (by omega) h98
          have f105 := f100.trans f104
          refine wp_cv (A' := A101) (v := none) rfl rfl rfl rfl rfl h98.mc (by omega) (g102) rfl ?_
          show am_wp d 72 (89, [some (.ref (r)), some (.int (sb_i og)), some (.int (Int32.ofNat o)), some (.int (Int32.ofNat 0)), some (.int (Int32.ofNat 1)), none], [], A101) _
          refine wp_st 2 (f' := (92, [some (.ref (r)), some (.int (sb_i og)), some (.int (Int32.ofNat o)), some (.int (Int32.ofNat 0)), some (.int (Int32.ofNat 1)), some (.int (Int32.ofNat 0))], [], A101)) rfl ?_
          have hres : ru_rel cs n og a S = ru_rngs cs n 60 (rd_sk cs n a2 + 1 + 1) (rg_addr S o 0 true og) := by simp [ru_rel, ru_rel2, q73, c24, c89, c95]
          rw [hres]
          obtain ⟨q, q1, q2⟩ := ui_rngs_l (d := d) (by omega) 60 (rd_sk cs n a2 + 1 + 1) (rg_addr S o 0 true og) _ (by omega) (by omega) (by rw [rg_addr_R]; omega) (by rw [rg_addr_G]; omega) h103
          exact ⟨q, q1, q2.tr f105⟩
        · skip
          obtain ⟨A106, g107, h108, f109⟩ := ui_need0 (d := d - 1) (by omega) (by omega) c95 h92
          have f110 := f94.trans f109
          refine wp_cv (A' := A106) (v := some (.int (Int32.ofNat 0))) rfl rfl rfl rfl rfl h92.tc (by omega) (g107) rfl ?_
          show am_wp d 72 (72, [some (.ref (r)), some (.int (sb_i og)), some (.int (Int32.ofNat o)), some (.int (Int32.ofNat 0)), some (.int (Int32.ofNat 1)), none], [.int (Int32.ofNat 0)], A106) _
          refine wp_izF rfl rfl (show ¬ ((Int32.ofNat 0) ≠ (Int32.ofNat 0)) from by decide) ?_
          refine wp_st 1 (f' := (76, [some (.ref (r)), some (.int (sb_i og)), some (.int (Int32.ofNat o)), some (.int (Int32.ofNat 0)), some (.int (Int32.ofNat 1)), none], [.int (Int32.ofNat 0)], A106)) rfl ?_
          refine wp_rt rfl rfl rfl ?_
          have hres : ru_rel cs n og a S = .error (rd_sk cs n a2 + 1) := by simp [ru_rel, ru_rel2, q73, c24, c89, c95]
          rw [hres]
          exact ur_Q_er h108 f110
      · skip
        obtain ⟨A111, g112, h113, f114⟩ := ui_take0 (d := d - 1) (by omega) (by omega) c89 h86
        have f115 := f88.trans f114
        refine wp_cv (A' := A111) (v := some (.int (Int32.ofNat 0))) rfl rfl rfl rfl rfl h86.tc (by omega) (g112) rfl ?_
        show am_wp d 72 (61, [some (.ref (r)), some (.int (sb_i og)), some (.int (Int32.ofNat o)), some (.int (Int32.ofNat 0)), none, none], [.int (Int32.ofNat 0)], A111) _
        refine wp_st 2 (f' := (64, [some (.ref (r)), some (.int (sb_i og)), some (.int (Int32.ofNat o)), some (.int (Int32.ofNat 0)), some (.int (Int32.ofNat 0)), none], [.ref (r)], A111)) rfl ?_
        refine wp_gf rfl rfl h113.rc rfl rfl ?_
        refine wp_st 1 (f' := (69, [some (.ref (r)), some (.int (sb_i og)), some (.int (Int32.ofNat o)), some (.int (Int32.ofNat 0)), some (.int (Int32.ofNat 0)), none], [.int (Int32.ofNat 61), .ref (t)], A111)) rfl ?_
        by_cases c116 : sb_lk cs n (rd_sk cs n a2) = 61
        · skip
          have c116p : rd_sk cs n a2 < n := sb_lk_pos (cs := cs) (by omega)
          obtain ⟨A117, g118, h119, f120⟩ := ui_need1 (d := d - 1) (by omega) (by omega) (by omega) c116 h113
          have f121 := f115.trans f120
          refine wp_cv (A' := A117) (v := some (.int (Int32.ofNat 1))) rfl rfl rfl rfl rfl h113.tc (by omega) (g118) rfl ?_
          show am_wp d 72 (72, [some (.ref (r)), some (.int (sb_i og)), some (.int (Int32.ofNat o)), some (.int (Int32.ofNat 0)), some (.int (Int32.ofNat 0)), none], [.int (Int32.ofNat 1)], A117) _
          refine wp_izT rfl rfl (show (Int32.ofNat 1) ≠ (Int32.ofNat 0) from by decide) ?_
          refine wp_st 1 (f' := (78, [some (.ref (r)), some (.int (sb_i og)), some (.int (Int32.ofNat o)), some (.int (Int32.ofNat 0)), some (.int (Int32.ofNat 0)), none], [.ref (r)], A117)) rfl ?_
          refine wp_gf rfl rfl h119.rc rfl rfl ?_
          refine wp_st 4 (f' := (86, [some (.ref (r)), some (.int (sb_i og)), some (.int (Int32.ofNat o)), some (.int (Int32.ofNat 0)), some (.int (Int32.ofNat 0)), none], [.int (sb_i og), .int (Int32.ofNat 0), .int (Int32.ofNat 0), .int (Int32.ofNat o), .ref (m)], A117)) rfl ?_
          obtain ⟨A122, g123, h124, f125⟩ := ui_addr (d := d - 1) (o := o) (mo := 0) (x := false) (y := og) (by omega) (by omega) (by omega) h119
          have f126 := f121.trans f125
          refine wp_cv (A' := A122) (v := none) rfl rfl rfl rfl rfl h119.mc (by omega) (g123) rfl ?_
          show am_wp d 72 (89, [some (.ref (r)), some (.int (sb_i og)), some (.int (Int32.ofNat o)), some (.int (Int32.ofNat 0)), some (.int (Int32.ofNat 0)), none], [], A122) _
          refine wp_st 2 (f' := (92, [some (.ref (r)), some (.int (sb_i og)), some (.int (Int32.ofNat o)), some (.int (Int32.ofNat 0)), some (.int (Int32.ofNat 0)), some (.int (Int32.ofNat 0))], [], A122)) rfl ?_
          have hres : ru_rel cs n og a S = ru_rngs cs n 60 (rd_sk cs n a2 + 1) (rg_addr S o 0 false og) := by simp [ru_rel, ru_rel2, q73, c24, c89, c116]
          rw [hres]
          obtain ⟨q, q1, q2⟩ := ui_rngs_l (d := d) (by omega) 60 (rd_sk cs n a2 + 1) (rg_addr S o 0 false og) _ (by omega) (by omega) (by rw [rg_addr_R]; omega) (by rw [rg_addr_G]; omega) h124
          exact ⟨q, q1, q2.tr f126⟩
        · skip
          obtain ⟨A127, g128, h129, f130⟩ := ui_need0 (d := d - 1) (by omega) (by omega) c116 h113
          have f131 := f115.trans f130
          refine wp_cv (A' := A127) (v := some (.int (Int32.ofNat 0))) rfl rfl rfl rfl rfl h113.tc (by omega) (g128) rfl ?_
          show am_wp d 72 (72, [some (.ref (r)), some (.int (sb_i og)), some (.int (Int32.ofNat o)), some (.int (Int32.ofNat 0)), some (.int (Int32.ofNat 0)), none], [.int (Int32.ofNat 0)], A127) _
          refine wp_izF rfl rfl (show ¬ ((Int32.ofNat 0) ≠ (Int32.ofNat 0)) from by decide) ?_
          refine wp_st 1 (f' := (76, [some (.ref (r)), some (.int (sb_i og)), some (.int (Int32.ofNat o)), some (.int (Int32.ofNat 0)), some (.int (Int32.ofNat 0)), none], [.int (Int32.ofNat 0)], A127)) rfl ?_
          refine wp_rt rfl rfl rfl ?_
          have hres : ru_rel cs n og a S = .error (rd_sk cs n a2) := by simp [ru_rel, ru_rel2, q73, c24, c89, c116]
          rw [hres]
          exact ur_Q_er h129 f131
theorem ui_cond_l {d r t m n : Nat} {cs : List Nat} (hd : 6 ≤ d) : ∀ (k a : Nat) (og : Bool) (S : rg) (A : am_H) (b3 : Option Value), k ≤ 120 → a ≤ n → 3 * rg_R S ≤ a → 2 * rg_G S ≤ a → ur_I A r t m cs n a (-1) S → am_wp d 71 (4, [some (.ref r), some (.int (sb_i og)), some (.int (Int32.ofNat (120 - k))), b3], [], A) (ur_Q A r t m cs n (ru_cond cs n k og a S)) := by
  intro k
  induction k with
  | zero =>
    intro a og S A b3 hk han hR hG h
    have hge := h.ge
    have hlk := h.lk
    have hcs := h.T.2.2.2.2.2.1
    have hPB := h.N.P
    refine wp_st 2 (f' := (7, [some (.ref (r)), some (.int (sb_i og)), some (.int (Int32.ofNat (120 - 0))), b3], [.int (Int32.ofNat 120), .int (Int32.ofNat (120 - 0))], A)) rfl ?_
    refine wp_ifT rfl rfl ((i32_le (a := 120) (b := 120 - 0) (by omega) (by omega)).mpr (by omega)) ?_
    refine wp_st 1 (f' := (103, [some (.ref (r)), some (.int (sb_i og)), some (.int (Int32.ofNat (120 - 0))), b3], [.ref (r)], A)) rfl ?_
    refine wp_gf rfl rfl h.rc rfl rfl ?_
    refine wp_st 1 (f' := (107, [some (.ref (r)), some (.int (sb_i og)), some (.int (Int32.ofNat (120 - 0))), b3], [.ref (r), .ref (t)], A)) rfl ?_
    refine wp_gf rfl rfl h.rc rfl rfl ?_
    refine wp_gf rfl rfl h.tc rfl rfl ?_
    obtain ⟨A1, g2, h3, f4⟩ := ui_refuse (d := d - 1) (x := Int32.ofNat a) h
    have f5 := (ur_F.refl A t m).trans f4
    refine wp_cv (A' := A1) (v := some (.int (Int32.ofNat 0))) rfl rfl rfl rfl rfl h.tc (by omega) (g2) rfl ?_
    show am_wp d 71 (116, [some (.ref (r)), some (.int (sb_i og)), some (.int (Int32.ofNat (120 - 0))), b3], [.int (Int32.ofNat 0)], A1) _
    refine wp_rt rfl rfl rfl ?_
    have hres : ru_cond cs n 0 og a S = .error (a) := by simp [ru_cond]
    rw [hres]
    exact ur_Q_er h3 f5
  | succ k ih =>
    intro a og S A b3 hk han hR hG h
    have hge := h.ge
    have hlk := h.lk
    have hcs := h.T.2.2.2.2.2.1
    have hPB := h.N.P
    refine wp_st 2 (f' := (7, [some (.ref (r)), some (.int (sb_i og)), some (.int (Int32.ofNat (120 - (k + 1)))), b3], [.int (Int32.ofNat 120), .int (Int32.ofNat (120 - (k + 1)))], A)) rfl ?_
    refine wp_ifF rfl rfl (fun q => absurd ((i32_le (a := 120) (b := 120 - (k + 1)) (by omega) (by omega)).mp q) (by omega)) ?_
    refine wp_st 2 (f' := (12, [some (.ref (r)), some (.int (sb_i og)), some (.int (Int32.ofNat (120 - (k + 1)))), b3], [.int (sb_i og), .ref (r)], A)) rfl ?_
    rcases q72 : ru_rel cs n og a S with e4 | ⟨a1, S1⟩
    · skip
      obtain ⟨a5, M6, A1, g2, h3, f4⟩ := ur_Q0 (ui_rel (d := d - 1) (og := og) (by omega) (by omega) (by omega) (by omega) h) q72
      have f7 := (ur_F.refl A t m).trans f4
      refine wp_cv (A' := A1) (v := some (.int (Int32.ofNat 0))) rfl rfl rfl rfl rfl h.rc (by omega) (g2) rfl ?_
      show am_wp d 71 (15, [some (.ref (r)), some (.int (sb_i og)), some (.int (Int32.ofNat (120 - (k + 1)))), b3], [.int (Int32.ofNat 0)], A1) _
      refine wp_izF rfl rfl (show ¬ ((Int32.ofNat 0) ≠ (Int32.ofNat 0)) from by decide) ?_
      refine wp_st 1 (f' := (19, [some (.ref (r)), some (.int (sb_i og)), some (.int (Int32.ofNat (120 - (k + 1)))), b3], [.int (Int32.ofNat 0)], A1)) rfl ?_
      refine wp_rt rfl rfl rfl ?_
      have hres : ru_cond cs n (k + 1) og a S = .error (e4) := by simp [ru_cond, q72]
      rw [hres]
      exact ur_Q_er h3 f7
    · skip
      have hrl := ru_rel_le (by omega) q72
      unfold ru_le at hrl
      obtain ⟨A8, g9, h10, f11⟩ := ur_Q1 (ui_rel (d := d - 1) (og := og) (by omega) (by omega) (by omega) (by omega) h) q72
      have f12 := (ur_F.refl A t m).trans f11
      refine wp_cv (A' := A8) (v := some (.int (Int32.ofNat 1))) rfl rfl rfl rfl rfl h.rc (by omega) (g9) rfl ?_
      show am_wp d 71 (15, [some (.ref (r)), some (.int (sb_i og)), some (.int (Int32.ofNat (120 - (k + 1)))), b3], [.int (Int32.ofNat 1)], A8) _
      refine wp_izT rfl rfl (show (Int32.ofNat 1) ≠ (Int32.ofNat 0) from by decide) ?_
      refine wp_st 1 (f' := (21, [some (.ref (r)), some (.int (sb_i og)), some (.int (Int32.ofNat (120 - (k + 1)))), b3], [.ref (r)], A8)) rfl ?_
      refine wp_gf rfl rfl h10.rc rfl rfl ?_
      refine wp_st 2 (f' := (28, [some (.ref (r)), some (.int (sb_i og)), some (.int (Int32.ofNat (120 - (k + 1)))), b3], [.int (Int32.ofNat 122), .int (Int32.ofNat 97), .ref (t)], A8)) rfl ?_
      have k13 := sb_re_le (lo := 97) (hi := 122) (cs := cs) (n := n) (a := a1)
      have k13a := k13.2.1 (by omega)
      refine wp_cv (A' := A8) (v := some (.int (Int32.ofNat (sb_re 97 122 cs n a1)))) rfl rfl rfl rfl rfl h10.tc (by omega) (ui_row (by omega) (by omega) h10) rfl ?_
      show am_wp d 71 (31, [some (.ref (r)), some (.int (sb_i og)), some (.int (Int32.ofNat (120 - (k + 1)))), b3], [.int (Int32.ofNat (sb_re 97 122 cs n a1))], A8) _
      refine wp_st 3 (f' := (34, [some (.ref (r)), some (.int (sb_i og)), some (.int (Int32.ofNat (120 - (k + 1)))), some (.int (Int32.ofNat (sb_re 97 122 cs n a1)))], [.ref (r), .int (Int32.ofNat (sb_re 97 122 cs n a1))], A8)) rfl ?_
      refine wp_gf rfl rfl h10.rc rfl rfl ?_
      refine wp_gf rfl rfl h10.tc rfl rfl ?_
      refine wp_if rfl rfl rfl (fun (h14 : (Int32.ofNat (sb_re 97 122 cs n a1)) ≠ (Int32.ofNat a1)) => ?_) (fun (h14 : ¬ ((Int32.ofNat (sb_re 97 122 cs n a1)) ≠ (Int32.ofNat a1))) => ?_)
      · skip
        rw [ne_eq, i32_eq (by omega) (by omega)] at h14
        refine wp_st 1 (f' := (46, [some (.ref (r)), some (.int (sb_i og)), some (.int (Int32.ofNat (120 - (k + 1)))), some (.int (Int32.ofNat (sb_re 97 122 cs n a1)))], [.ref (r)], A8)) rfl ?_
        refine wp_gf rfl rfl h10.rc rfl rfl ?_
        refine wp_st 2 (f' := (52, [some (.ref (r)), some (.int (sb_i og)), some (.int (Int32.ofNat (120 - (k + 1)))), some (.int (Int32.ofNat (sb_re 97 122 cs n a1)))], [.int (Int32.ofNat (sb_re 97 122 cs n a1)), .ref (13), .ref (t)], A8)) rfl ?_
        refine wp_cv (A' := A8) (v := some (.int (sb_i (rd_is cs rd_WO a1 (sb_re 97 122 cs n a1))))) rfl rfl rfl rfl rfl h10.tc (by omega) (ui_word (by omega) (by omega) (by omega) h10.K.wor h10) rfl ?_
        show am_wp d 71 (55, [some (.ref (r)), some (.int (sb_i og)), some (.int (Int32.ofNat (120 - (k + 1)))), some (.int (Int32.ofNat (sb_re 97 122 cs n a1)))], [.int (sb_i (rd_is cs rd_WO a1 (sb_re 97 122 cs n a1)))], A8) _
        refine wp_st 2 (f' := (57, [some (.ref (r)), some (.int (sb_i (rd_is cs rd_WO a1 (sb_re 97 122 cs n a1)))), some (.int (Int32.ofNat (120 - (k + 1)))), some (.int (Int32.ofNat (sb_re 97 122 cs n a1)))], [.int (sb_i (rd_is cs rd_WO a1 (sb_re 97 122 cs n a1)))], A8)) rfl ?_
        by_cases b15 : (rd_is cs rd_WO a1 (sb_re 97 122 cs n a1)) = true
        · skip
          refine wp_izT rfl rfl (show sb_i (rd_is cs rd_WO a1 (sb_re 97 122 cs n a1)) ≠ 0 from by rw [b15]; decide) ?_
          refine wp_st 1 (f' := (89, [some (.ref (r)), some (.int (sb_i (rd_is cs rd_WO a1 (sb_re 97 122 cs n a1)))), some (.int (Int32.ofNat (120 - (k + 1)))), some (.int (Int32.ofNat (sb_re 97 122 cs n a1)))], [.ref (r)], A8)) rfl ?_
          refine wp_gf rfl rfl h10.rc rfl rfl ?_
          refine wp_st 1 (f' := (93, [some (.ref (r)), some (.int (sb_i (rd_is cs rd_WO a1 (sb_re 97 122 cs n a1)))), some (.int (Int32.ofNat (120 - (k + 1)))), some (.int (Int32.ofNat (sb_re 97 122 cs n a1)))], [.int (Int32.ofNat (sb_re 97 122 cs n a1)), .ref (t)], A8)) rfl ?_
          obtain ⟨A16, e17⟩ : ∃ B, B = A8.set t (sb_tc t n (sb_re 97 122 cs n a1) ((-1))) := ⟨_, rfl⟩
          have q18 := h10.set (a' := sb_re 97 122 cs n a1) (f' := (-1)) (by omega)
          rw [← e17] at q18
          refine wp_pf (A' := A16) rfl rfl h10.tc rfl rfl (decide_eq_true (by have := h10.ge; omega)) rfl e17.symm ?_
          have h19 := q18.1
          have f20 := f12.trans q18.2
          refine wp_st 1 (f' := (99, [some (.ref (r)), some (.int (sb_i (rd_is cs rd_WO a1 (sb_re 97 122 cs n a1)))), some (.int ((Int32.ofNat (120 - (k + 1))) + (Int32.ofNat 1))), some (.int (Int32.ofNat (sb_re 97 122 cs n a1)))], [], A16)) rfl ?_
          rw [i32_add (120 - (k + 1)) (1)]
          refine wp_st 1 (f' := (4, [some (.ref (r)), some (.int (sb_i (rd_is cs rd_WO a1 (sb_re 97 122 cs n a1)))), some (.int (Int32.ofNat (120 - (k + 1) + 1))), some (.int (Int32.ofNat (sb_re 97 122 cs n a1)))], [], A16)) rfl ?_
          have hres : ru_cond cs n (k + 1) og a S = ru_cond cs n k true (sb_re 97 122 cs n a1) S1 := by simp [ru_cond, q72, h14, b15]
          rw [hres, show 120 - (k + 1) + 1 = 120 - k by omega, b15]
          obtain ⟨q, q1, q2⟩ := ih (sb_re 97 122 cs n a1) true S1 _ _ (by omega) (by omega) (by omega) (by omega) h19
          exact ⟨q, q1, q2.tr f20⟩
        · skip
          have b15f : (rd_is cs rd_WO a1 (sb_re 97 122 cs n a1)) = false := by simpa using b15
          refine wp_izF rfl rfl (show ¬ (sb_i (rd_is cs rd_WO a1 (sb_re 97 122 cs n a1)) ≠ 0) from by rw [b15f]; decide) ?_
          refine wp_st 1 (f' := (61, [some (.ref (r)), some (.int (sb_i (rd_is cs rd_WO a1 (sb_re 97 122 cs n a1)))), some (.int (Int32.ofNat (120 - (k + 1)))), some (.int (Int32.ofNat (sb_re 97 122 cs n a1)))], [.ref (r)], A8)) rfl ?_
          refine wp_gf rfl rfl h10.rc rfl rfl ?_
          refine wp_st 2 (f' := (67, [some (.ref (r)), some (.int (sb_i (rd_is cs rd_WO a1 (sb_re 97 122 cs n a1)))), some (.int (Int32.ofNat (120 - (k + 1)))), some (.int (Int32.ofNat (sb_re 97 122 cs n a1)))], [.int (Int32.ofNat (sb_re 97 122 cs n a1)), .ref (14), .ref (t)], A8)) rfl ?_
          refine wp_cv (A' := A8) (v := some (.int (sb_i (rd_is cs rd_WA a1 (sb_re 97 122 cs n a1))))) rfl rfl rfl rfl rfl h10.tc (by omega) (ui_word (by omega) (by omega) (by omega) h10.K.wan h10) rfl ?_
          show am_wp d 71 (70, [some (.ref (r)), some (.int (sb_i (rd_is cs rd_WO a1 (sb_re 97 122 cs n a1)))), some (.int (Int32.ofNat (120 - (k + 1)))), some (.int (Int32.ofNat (sb_re 97 122 cs n a1)))], [.int (sb_i (rd_is cs rd_WA a1 (sb_re 97 122 cs n a1)))], A8) _
          by_cases b21 : (rd_is cs rd_WA a1 (sb_re 97 122 cs n a1)) = true
          · skip
            refine wp_izT rfl rfl (show sb_i (rd_is cs rd_WA a1 (sb_re 97 122 cs n a1)) ≠ 0 from by rw [b21]; decide) ?_
            refine wp_st 1 (f' := (89, [some (.ref (r)), some (.int (sb_i (rd_is cs rd_WO a1 (sb_re 97 122 cs n a1)))), some (.int (Int32.ofNat (120 - (k + 1)))), some (.int (Int32.ofNat (sb_re 97 122 cs n a1)))], [.ref (r)], A8)) rfl ?_
            refine wp_gf rfl rfl h10.rc rfl rfl ?_
            refine wp_st 1 (f' := (93, [some (.ref (r)), some (.int (sb_i (rd_is cs rd_WO a1 (sb_re 97 122 cs n a1)))), some (.int (Int32.ofNat (120 - (k + 1)))), some (.int (Int32.ofNat (sb_re 97 122 cs n a1)))], [.int (Int32.ofNat (sb_re 97 122 cs n a1)), .ref (t)], A8)) rfl ?_
            obtain ⟨A22, e23⟩ : ∃ B, B = A8.set t (sb_tc t n (sb_re 97 122 cs n a1) ((-1))) := ⟨_, rfl⟩
            have q24 := h10.set (a' := sb_re 97 122 cs n a1) (f' := (-1)) (by omega)
            rw [← e23] at q24
            refine wp_pf (A' := A22) rfl rfl h10.tc rfl rfl (decide_eq_true (by have := h10.ge; omega)) rfl e23.symm ?_
            have h25 := q24.1
            have f26 := f12.trans q24.2
            refine wp_st 1 (f' := (99, [some (.ref (r)), some (.int (sb_i (rd_is cs rd_WO a1 (sb_re 97 122 cs n a1)))), some (.int ((Int32.ofNat (120 - (k + 1))) + (Int32.ofNat 1))), some (.int (Int32.ofNat (sb_re 97 122 cs n a1)))], [], A22)) rfl ?_
            rw [i32_add (120 - (k + 1)) (1)]
            refine wp_st 1 (f' := (4, [some (.ref (r)), some (.int (sb_i (rd_is cs rd_WO a1 (sb_re 97 122 cs n a1)))), some (.int (Int32.ofNat (120 - (k + 1) + 1))), some (.int (Int32.ofNat (sb_re 97 122 cs n a1)))], [], A22)) rfl ?_
            have hres : ru_cond cs n (k + 1) og a S = ru_cond cs n k false (sb_re 97 122 cs n a1) S1 := by simp [ru_cond, q72, h14, b15, b21]
            rw [hres, show 120 - (k + 1) + 1 = 120 - k by omega, b15f]
            obtain ⟨q, q1, q2⟩ := ih (sb_re 97 122 cs n a1) false S1 _ _ (by omega) (by omega) (by omega) (by omega) h25
            exact ⟨q, q1, q2.tr f26⟩
          · skip
            have b21f : (rd_is cs rd_WA a1 (sb_re 97 122 cs n a1)) = false := by simpa using b21
            refine wp_izF rfl rfl (show ¬ (sb_i (rd_is cs rd_WA a1 (sb_re 97 122 cs n a1)) ≠ 0) from by rw [b21f]; decide) ?_
            refine wp_st 1 (f' := (74, [some (.ref (r)), some (.int (sb_i (rd_is cs rd_WO a1 (sb_re 97 122 cs n a1)))), some (.int (Int32.ofNat (120 - (k + 1)))), some (.int (Int32.ofNat (sb_re 97 122 cs n a1)))], [.ref (r)], A8)) rfl ?_
            refine wp_gf rfl rfl h10.rc rfl rfl ?_
            refine wp_st 1 (f' := (78, [some (.ref (r)), some (.int (sb_i (rd_is cs rd_WO a1 (sb_re 97 122 cs n a1)))), some (.int (Int32.ofNat (120 - (k + 1)))), some (.int (Int32.ofNat (sb_re 97 122 cs n a1)))], [.ref (r), .ref (t)], A8)) rfl ?_
            refine wp_gf rfl rfl h10.rc rfl rfl ?_
            refine wp_gf rfl rfl h10.tc rfl rfl ?_
            obtain ⟨A27, g28, h29, f30⟩ := ui_refuse (d := d - 1) (x := Int32.ofNat a1) h10
            have f31 := f12.trans f30
            refine wp_cv (A' := A27) (v := some (.int (Int32.ofNat 0))) rfl rfl rfl rfl rfl h10.tc (by omega) (g28) rfl ?_
            show am_wp d 71 (87, [some (.ref (r)), some (.int (sb_i (rd_is cs rd_WO a1 (sb_re 97 122 cs n a1)))), some (.int (Int32.ofNat (120 - (k + 1)))), some (.int (Int32.ofNat (sb_re 97 122 cs n a1)))], [.int (Int32.ofNat 0)], A27) _
            refine wp_rt rfl rfl rfl ?_
            have hres : ru_cond cs n (k + 1) og a S = .error (a1) := by simp [ru_cond, q72, h14, b15, b21]
            rw [hres]
            exact ur_Q_er h29 f31
      · skip
        rw [ne_eq, i32_eq (by omega) (by omega)] at h14
        replace h14 := Decidable.not_not.mp h14
        refine wp_st 1 (f' := (44, [some (.ref (r)), some (.int (sb_i og)), some (.int (Int32.ofNat (120 - (k + 1)))), some (.int (Int32.ofNat (sb_re 97 122 cs n a1)))], [.int (Int32.ofNat 1)], A8)) rfl ?_
        refine wp_rt rfl rfl rfl ?_
        have hres : ru_cond cs n (k + 1) og a S = .ok (a1, S1) := by simp [ru_cond, q72, h14]
        rw [hres]
        exact ur_Q_ok h10 f12
theorem ui_cond {d r t m n a : Nat} {cs : List Nat} {S : rg} {A : am_H} (hd : 6 ≤ d) (han : a ≤ n) (hR : 3 * rg_R S ≤ a) (hG : 2 * rg_G S ≤ a) (h : ur_I A r t m cs n a (-1) S) : am_wp d 71 (0, am_ent 71 [.ref r], [], A) (ur_Q A r t m cs n (ru_cond cs n 120 true a S)) := by
  refine wp_st 4 (f' := (4, [some (.ref (r)), some (.int (Int32.ofNat 1)), some (.int (Int32.ofNat 0)), none], [], A)) rfl ?_
  exact ui_cond_l hd 120 a true S A none (by omega) han hR hG h
/-- what readCategory answers when it has read x up to e, beginning at p -/
def ru_cr (S : rg) (x : Int64) (p e k c : Nat) : Except Nat (Nat × Nat) := match ru_fc S x k c with
  | none => .error p
  | some i => .ok (e, i)
theorem ui_cat_l {d r t m n p e : Nat} {cs : List Nat} {S : rg} {x : Int64} {A : am_H} (hd : 1 ≤ d) (hp : p ≤ 120) (h : ur_I A r t m cs n e (-1) S) : ∀ (k c : Nat), 5 - c = k → c ≤ 5 → am_wp d 69 (39, [some (.ref r), some (.int (Int32.ofNat p)), some (.int (Int32.ofNat e)), some (.long x), none, some (.int (Int32.ofNat c))], [], A) (un_Q A r t m cs n S (ru_cr S x p e k c)) := by
  have hge := h.ge
  have hlk := h.lk
  have hcs := h.T.2.2.2.2.2.1
  have hPB := h.N.P
  intro k
  induction k with
  | zero =>
    intro c h1 h2
    unfold ru_cr
    rw [ru_fc]
    refine wp_st 2 (f' := (42, [some (.ref (r)), some (.int (Int32.ofNat p)), some (.int (Int32.ofNat e)), some (.long (x)), none, some (.int (Int32.ofNat c))], [.int (Int32.ofNat 5), .int (Int32.ofNat c)], A)) rfl ?_
    refine wp_ifT rfl rfl ((i32_le (a := 5) (b := c) (by omega) (by omega)).mpr (by omega)) ?_
    refine wp_st 1 (f' := (78, [some (.ref (r)), some (.int (Int32.ofNat p)), some (.int (Int32.ofNat e)), some (.long (x)), none, some (.int (Int32.ofNat c))], [.ref (r)], A)) rfl ?_
    refine wp_gf rfl rfl h.rc rfl rfl ?_
    refine wp_st 1 (f' := (82, [some (.ref (r)), some (.int (Int32.ofNat p)), some (.int (Int32.ofNat e)), some (.long (x)), none, some (.int (Int32.ofNat c))], [.int (Int32.ofNat p), .ref (t)], A)) rfl ?_
    obtain ⟨A1, g2, h3, f4⟩ := ui_refuse (d := d - 1) (x := Int32.ofNat p) h
    have f5 := (ur_F.refl A t m).trans f4
    refine wp_cv (A' := A1) (v := some (.int (Int32.ofNat 0))) rfl rfl rfl rfl rfl h.tc (by omega) (g2) rfl ?_
    show am_wp d 69 (85, [some (.ref (r)), some (.int (Int32.ofNat p)), some (.int (Int32.ofNat e)), some (.long (x)), none, some (.int (Int32.ofNat c))], [.int (Int32.ofNat 0)], A1) _
    refine wp_st 2 (f' := (87, [some (.ref (r)), some (.int (Int32.ofNat p)), some (.int (Int32.ofNat e)), some (.long (x)), none, some (.int (Int32.ofNat c))], [.int ((-1))], A1)) rfl ?_
    refine wp_rt rfl rfl rfl ?_
    exact un_Q_er h3 f5
  | succ k ih =>
    intro c h1 h2
    refine wp_st 2 (f' := (42, [some (.ref (r)), some (.int (Int32.ofNat p)), some (.int (Int32.ofNat e)), some (.long (x)), none, some (.int (Int32.ofNat c))], [.int (Int32.ofNat 5), .int (Int32.ofNat c)], A)) rfl ?_
    refine wp_ifF rfl rfl (fun q => absurd ((i32_le (a := 5) (b := c) (by omega) (by omega)).mp q) (by omega)) ?_
    refine wp_st 2 (f' := (50, [some (.ref (r)), some (.int (Int32.ofNat p)), some (.int (Int32.ofNat e)), some (.long (x)), none, some (.int (Int32.ofNat c))], [.int (Int32.ofNat c), .ref (2)], A)) rfl ?_
    refine wp_al rfl (Or.inr (Or.inl ⟨rfl, rfl⟩)) rfl (show A[2]? = some (101, ru_CW.map Value.long) from h.K.cat) (by omega) (sb_gd 0 (by show c < 6; omega)) rfl ?_
    refine wp_st 2 (f' := (53, [some (.ref (r)), some (.int (Int32.ofNat p)), some (.int (Int32.ofNat e)), some (.long (x)), none, some (.int (Int32.ofNat c))], [.int (lg_cmp (ru_CW.getD c 0) x)], A)) rfl ?_
    refine wp_iz rfl rfl rfl (fun (h1 : (lg_cmp (ru_CW.getD c 0) x) ≠ (Int32.ofNat 0)) => ?_) (fun (h1 : ¬ ((lg_cmp (ru_CW.getD c 0) x) ≠ (Int32.ofNat 0))) => ?_)
    · skip
      have hcw : ¬ ru_CW.getD c 0 = x := fun q => h1 ((lg_cmp_eq _ _).mpr q)
      refine wp_st 1 (f' := (74, [some (.ref (r)), some (.int (Int32.ofNat p)), some (.int (Int32.ofNat e)), some (.long (x)), none, some (.int ((Int32.ofNat c) + (Int32.ofNat 1)))], [], A)) rfl ?_
      rw [i32_add (c) (1)]
      refine wp_st 1 (f' := (39, [some (.ref (r)), some (.int (Int32.ofNat p)), some (.int (Int32.ofNat e)), some (.long (x)), none, some (.int (Int32.ofNat (c + 1)))], [], A)) rfl ?_
      have hres : ru_cr S x p e (k + 1) c = ru_cr S x p e k (c + 1) := by unfold ru_cr; rw [ru_fc, if_neg]; exact fun q => hcw q.1
      rw [hres]
      exact ih (c + 1) (by omega) (by omega)
    · skip
      replace h1 := Decidable.not_not.mp h1
      have hcw : ru_CW.getD c 0 = x := (lg_cmp_eq _ _).mp h1
      refine wp_st 1 (f' := (57, [some (.ref (r)), some (.int (Int32.ofNat p)), some (.int (Int32.ofNat e)), some (.long (x)), none, some (.int (Int32.ofNat c))], [.ref (r)], A)) rfl ?_
      refine wp_gf rfl rfl h.rc rfl rfl ?_
      refine wp_st 1 (f' := (62, [some (.ref (r)), some (.int (Int32.ofNat p)), some (.int (Int32.ofNat e)), some (.long (x)), none, some (.int (Int32.ofNat c))], [.int (Int32.ofNat c), .ref (m)], A)) rfl ?_
      refine wp_cv (A' := A) (v := some (.int (sb_i (rg_hr S c)))) rfl rfl rfl rfl rfl h.mc (by omega) (gn_has (d := d - 1) (c := c) (by omega) h.N) rfl ?_
      show am_wp d 69 (65, [some (.ref (r)), some (.int (Int32.ofNat p)), some (.int (Int32.ofNat e)), some (.long (x)), none, some (.int (Int32.ofNat c))], [.int (sb_i (rg_hr S c))], A) _
      by_cases b2 : (rg_hr S c) = true
      · skip
        refine wp_izT rfl rfl (show sb_i (rg_hr S c) ≠ 0 from by rw [b2]; decide) ?_
        refine wp_st 1 (f' := (74, [some (.ref (r)), some (.int (Int32.ofNat p)), some (.int (Int32.ofNat e)), some (.long (x)), none, some (.int ((Int32.ofNat c) + (Int32.ofNat 1)))], [], A)) rfl ?_
        rw [i32_add (c) (1)]
        refine wp_st 1 (f' := (39, [some (.ref (r)), some (.int (Int32.ofNat p)), some (.int (Int32.ofNat e)), some (.long (x)), none, some (.int (Int32.ofNat (c + 1)))], [], A)) rfl ?_
        have hres : ru_cr S x p e (k + 1) c = ru_cr S x p e k (c + 1) := by unfold ru_cr; rw [ru_fc, if_neg]; exact fun q => by rw [b2] at q; exact absurd q.2 (by decide)
        rw [hres]
        exact ih (c + 1) (by omega) (by omega)
      · skip
        have b2f : (rg_hr S c) = false := by simpa using b2
        refine wp_izF rfl rfl (show ¬ (sb_i (rg_hr S c) ≠ 0) from by rw [b2f]; decide) ?_
        refine wp_st 1 (f' := (70, [some (.ref (r)), some (.int (Int32.ofNat p)), some (.int (Int32.ofNat e)), some (.long (x)), none, some (.int (Int32.ofNat c))], [.int (Int32.ofNat c)], A)) rfl ?_
        refine wp_rt rfl rfl rfl ?_
        have hres : ru_cr S x p e (k + 1) c = .ok (e, c) := by unfold ru_cr; rw [ru_fc, if_pos ⟨hcw, b2f⟩]
        rw [hres]
        exact un_Q_ok h (ur_F.refl A t m)
theorem un_Q.tr {A B : am_H} {r t m n : Nat} {cs : List Nat} {S : rg} {X : Except Nat (Nat × Nat)} {q : am_O × am_H} (hF : ur_F A B t m) (h : un_Q B r t m cs n S X q) : un_Q A r t m cs n S X q := by
  cases X with
  | ok y => exact ⟨h.1, h.2.1, hF.trans h.2.2⟩
  | error e =>
    obtain ⟨h1, a', h2, h3⟩ := h
    exact ⟨h1, a', h2, hF.trans h3⟩
theorem ui_cat {d r t m n a : Nat} {cs : List Nat} {S : rg} {A : am_H} (hd : 1 ≤ d) (han : a ≤ n) (h : ur_I A r t m cs n a (-1) S) : am_wp d 69 (0, am_ent 69 [.ref r], [], A) (un_Q A r t m cs n S (ru_cat cs n a S)) := by
  have hge := h.ge
  have hlk := h.lk
  have hcs := h.T.2.2.2.2.2.1
  have hPB := h.N.P
  refine wp_st 1 (f' := (1, [some (.ref (r)), none, none, none, none, none], [.ref (r)], A)) rfl ?_
  refine wp_gf rfl rfl h.rc rfl rfl ?_
  refine wp_gf rfl rfl h.tc rfl rfl ?_
  refine wp_st 2 (f' := (9, [some (.ref (r)), some (.int (Int32.ofNat a)), none, none, none, none], [.ref (r)], A)) rfl ?_
  refine wp_gf rfl rfl h.rc rfl rfl ?_
  refine wp_st 2 (f' := (16, [some (.ref (r)), some (.int (Int32.ofNat a)), none, none, none, none], [.int (Int32.ofNat 122), .int (Int32.ofNat 97), .ref (t)], A)) rfl ?_
  have k1 := sb_re_le (lo := 97) (hi := 122) (cs := cs) (n := n) (a := a)
  have k1a := k1.2.1 (by omega)
  refine wp_cv (A' := A) (v := some (.int (Int32.ofNat (sb_re 97 122 cs n a)))) rfl rfl rfl rfl rfl h.tc (by omega) (ui_row (by omega) (by omega) h) rfl ?_
  show am_wp d 69 (19, [some (.ref (r)), some (.int (Int32.ofNat a)), none, none, none, none], [.int (Int32.ofNat (sb_re 97 122 cs n a))], A) _
  refine wp_st 4 (f' := (23, [some (.ref (r)), some (.int (Int32.ofNat a)), some (.int (Int32.ofNat (sb_re 97 122 cs n a))), none, none, none], [.int ((Int32.ofNat (sb_re 97 122 cs n a)) - (Int32.ofNat a))], A)) rfl ?_
  rw [i32_sub (a := sb_re 97 122 cs n a) (b := a) (by omega)]
  refine wp_st 1 (f' := (24, [some (.ref (r)), some (.int (Int32.ofNat a)), some (.int (Int32.ofNat (sb_re 97 122 cs n a))), none, none, none], [.int (Int32.ofNat 4), .int (Int32.ofNat ((sb_re 97 122 cs n a) - a))], A)) rfl ?_
  refine wp_if rfl rfl rfl (fun (h2 : (Int32.ofNat 4) < (Int32.ofNat ((sb_re 97 122 cs n a) - a))) => ?_) (fun (h2 : ¬ ((Int32.ofNat 4) < (Int32.ofNat ((sb_re 97 122 cs n a) - a)))) => ?_)
  · skip
    rw [i32_lt (by omega) (by omega)] at h2
    refine wp_st 1 (f' := (78, [some (.ref (r)), some (.int (Int32.ofNat a)), some (.int (Int32.ofNat (sb_re 97 122 cs n a))), none, none, none], [.ref (r)], A)) rfl ?_
    refine wp_gf rfl rfl h.rc rfl rfl ?_
    refine wp_st 1 (f' := (82, [some (.ref (r)), some (.int (Int32.ofNat a)), some (.int (Int32.ofNat (sb_re 97 122 cs n a))), none, none, none], [.int (Int32.ofNat a), .ref (t)], A)) rfl ?_
    obtain ⟨A3, g4, h5, f6⟩ := ui_refuse (d := d - 1) (x := Int32.ofNat a) h
    have f7 := (ur_F.refl A t m).trans f6
    refine wp_cv (A' := A3) (v := some (.int (Int32.ofNat 0))) rfl rfl rfl rfl rfl h.tc (by omega) (g4) rfl ?_
    show am_wp d 69 (85, [some (.ref (r)), some (.int (Int32.ofNat a)), some (.int (Int32.ofNat (sb_re 97 122 cs n a))), none, none, none], [.int (Int32.ofNat 0)], A3) _
    refine wp_st 2 (f' := (87, [some (.ref (r)), some (.int (Int32.ofNat a)), some (.int (Int32.ofNat (sb_re 97 122 cs n a))), none, none, none], [.int ((-1))], A3)) rfl ?_
    refine wp_rt rfl rfl rfl ?_
    have hres : ru_cat cs n a S = .error a := by unfold ru_cat; rw [if_pos (by omega)]
    rw [hres]
    exact un_Q_er h5 f7
  · skip
    rw [i32_lt (by omega) (by omega)] at h2
    refine wp_st 1 (f' := (28, [some (.ref (r)), some (.int (Int32.ofNat a)), some (.int (Int32.ofNat (sb_re 97 122 cs n a))), none, none, none], [.ref (r)], A)) rfl ?_
    refine wp_gf rfl rfl h.rc rfl rfl ?_
    refine wp_st 1 (f' := (32, [some (.ref (r)), some (.int (Int32.ofNat a)), some (.int (Int32.ofNat (sb_re 97 122 cs n a))), none, none, none], [.int (Int32.ofNat (sb_re 97 122 cs n a)), .ref (t)], A)) rfl ?_
    obtain ⟨A8, g9, h10, f11⟩ := ui_pack (d := d - 1) (e := sb_re 97 122 cs n a) (by omega) (by omega) h
    have f12 := (ur_F.refl A t m).trans f11
    refine wp_cv (A' := A8) (v := some (.long (sb_pk cs (sb_re 97 122 cs n a - a) a 0))) rfl rfl rfl rfl rfl h.tc (by omega) (g9) rfl ?_
    show am_wp d 69 (35, [some (.ref (r)), some (.int (Int32.ofNat a)), some (.int (Int32.ofNat (sb_re 97 122 cs n a))), none, none, none], [.long (sb_pk cs (sb_re 97 122 cs n a - a) a 0)], A8) _
    refine wp_st 3 (f' := (39, [some (.ref (r)), some (.int (Int32.ofNat a)), some (.int (Int32.ofNat (sb_re 97 122 cs n a))), some (.long (sb_pk cs (sb_re 97 122 cs n a - a) a 0)), none, some (.int (Int32.ofNat 0))], [], A8)) rfl ?_
    have hres : ru_cat cs n a S = ru_cr S (sb_pk cs (sb_re 97 122 cs n a - a) a 0) a (sb_re 97 122 cs n a) 5 0 := by unfold ru_cat ru_cr; rw [if_neg (by omega)]; rfl
    rw [hres]
    obtain ⟨q, q1, q2⟩ := ui_cat_l (p := a) (e := sb_re 97 122 cs n a) (x := sb_pk cs (sb_re 97 122 cs n a - a) a 0) hd (by omega) h10 5 0 rfl (by omega)
    exact ⟨q, q1, un_Q.tr f12 q2⟩
theorem ui_rule {d r t m n a : Nat} {cs : List Nat} {S : rg} {A : am_H} (hd : 7 ≤ d) (han : a ≤ n) (hR : 3 * rg_R S ≤ a) (hG : 2 * rg_G S ≤ a) (h : ur_I A r t m cs n a (-1) S) : am_wp d 68 (0, am_ent 68 [.ref r], [], A) (ur_Q A r t m cs n (ru_rule cs n a S)) := by
  have hge := h.ge
  have hlk := h.lk
  have hcs := h.T.2.2.2.2.2.1
  have hPB := h.N.P
  refine wp_st 1 (f' := (1, [some (.ref (r)), none, none], [.ref (r)], A)) rfl ?_
  refine wp_gf rfl rfl h.rc rfl rfl ?_
  have k1 := rd_sk_le (cs := cs) (n := n) (a := a) (by omega)
  obtain ⟨A2, g3, h4, f5⟩ := ui_skip (d := d - 1) (by omega) (by omega) h
  have f6 := (ur_F.refl A t m).trans f5
  refine wp_cv (A' := A2) (v := none) rfl rfl rfl rfl rfl h.tc (by omega) (g3) rfl ?_
  show am_wp d 68 (7, [some (.ref (r)), none, none], [], A2) _
  refine wp_st 1 (f' := (8, [some (.ref (r)), none, none], [.ref (r)], A2)) rfl ?_
  rcases q69 : ru_cat cs n (rd_sk cs n a) S with e5 | ⟨a2, c⟩
  · skip
    obtain ⟨a11, A7, g8, h9, f10⟩ := un_Q0 (ui_cat (d := d - 1) (by omega) (by omega) h4) q69
    have f12 := f6.trans f10
    refine wp_cv (A' := A7) (v := some (.int ((-1)))) rfl rfl rfl rfl rfl h4.rc (by omega) (g8) rfl ?_
    show am_wp d 68 (11, [some (.ref (r)), none, none], [.int ((-1))], A7) _
    refine wp_st 3 (f' := (14, [some (.ref (r)), some (.int ((-1))), none], [.int ((-1)), .int ((-1))], A7)) rfl ?_
    refine wp_ifF rfl rfl (fun q => q rfl) ?_
    refine wp_st 1 (f' := (18, [some (.ref (r)), some (.int ((-1))), none], [.int (Int32.ofNat 0)], A7)) rfl ?_
    refine wp_rt rfl rfl rfl ?_
    have hres : ru_rule cs n a S = .error (e5) := by simp [ru_rule, q69]
    rw [hres]
    exact ur_Q_er h9 f12
  · skip
    have hcl := ru_cat_le (by omega) q69
    obtain ⟨A13, g14, h15, f16⟩ := un_Q1 (ui_cat (d := d - 1) (by omega) (by omega) h4) q69
    have f17 := f6.trans f16
    refine wp_cv (A' := A13) (v := some (.int (Int32.ofNat c))) rfl rfl rfl rfl rfl h4.rc (by omega) (g14) rfl ?_
    show am_wp d 68 (11, [some (.ref (r)), none, none], [.int (Int32.ofNat c)], A13) _
    refine wp_st 3 (f' := (14, [some (.ref (r)), some (.int (Int32.ofNat c)), none], [.int ((-1)), .int (Int32.ofNat c)], A13)) rfl ?_
    refine wp_ifT rfl rfl (i32_neg1 (by omega)) ?_
    refine wp_st 1 (f' := (20, [some (.ref (r)), some (.int (Int32.ofNat c)), none], [.ref (r)], A13)) rfl ?_
    refine wp_gf rfl rfl h15.rc rfl rfl ?_
    have k18 := rd_sk_le (cs := cs) (n := n) (a := a2) (by omega)
    obtain ⟨A19, g20, h21, f22⟩ := ui_skip (d := d - 1) (by omega) (by omega) h15
    have f23 := f17.trans f22
    refine wp_cv (A' := A19) (v := none) rfl rfl rfl rfl rfl h15.tc (by omega) (g20) rfl ?_
    show am_wp d 68 (26, [some (.ref (r)), some (.int (Int32.ofNat c)), none], [], A19) _
    refine wp_st 1 (f' := (27, [some (.ref (r)), some (.int (Int32.ofNat c)), none], [.ref (r)], A19)) rfl ?_
    refine wp_gf rfl rfl h21.rc rfl rfl ?_
    refine wp_st 1 (f' := (32, [some (.ref (r)), some (.int (Int32.ofNat c)), none], [.int (Int32.ofNat 58), .ref (t)], A19)) rfl ?_
    by_cases c24 : sb_lk cs n (rd_sk cs n a2) = 58
    · skip
      have c24p : rd_sk cs n a2 < n := sb_lk_pos (cs := cs) (by omega)
      obtain ⟨A25, g26, h27, f28⟩ := ui_need1 (d := d - 1) (by omega) (by omega) (by omega) c24 h21
      have f29 := f23.trans f28
      refine wp_cv (A' := A25) (v := some (.int (Int32.ofNat 1))) rfl rfl rfl rfl rfl h21.tc (by omega) (g26) rfl ?_
      show am_wp d 68 (35, [some (.ref (r)), some (.int (Int32.ofNat c)), none], [.int (Int32.ofNat 1)], A25) _
      refine wp_izT rfl rfl (show (Int32.ofNat 1) ≠ (Int32.ofNat 0) from by decide) ?_
      refine wp_st 1 (f' := (41, [some (.ref (r)), some (.int (Int32.ofNat c)), none], [.ref (r)], A25)) rfl ?_
      refine wp_gf rfl rfl h27.rc rfl rfl ?_
      refine wp_gf rfl rfl h27.mc rfl rfl ?_
      refine wp_st 2 (f' := (49, [some (.ref (r)), some (.int (Int32.ofNat c)), some (.int (Int32.ofNat (rg_R S)))], [.ref (r)], A25)) rfl ?_
      rcases q71 : ru_cond cs n 120 true (rd_sk cs n a2 + 1) S with e6 | ⟨a4, S4⟩
      · skip
        obtain ⟨a34, M35, A30, g31, h32, f33⟩ := ur_Q0 (ui_cond (d := d - 1) (by omega) (by omega) (by omega) (by omega) h27) q71
        have f36 := f29.trans f33
        refine wp_cv (A' := A30) (v := some (.int (Int32.ofNat 0))) rfl rfl rfl rfl rfl h27.rc (by omega) (g31) rfl ?_
        show am_wp d 68 (52, [some (.ref (r)), some (.int (Int32.ofNat c)), some (.int (Int32.ofNat (rg_R S)))], [.int (Int32.ofNat 0)], A30) _
        refine wp_izF rfl rfl (show ¬ ((Int32.ofNat 0) ≠ (Int32.ofNat 0)) from by decide) ?_
        refine wp_st 1 (f' := (56, [some (.ref (r)), some (.int (Int32.ofNat c)), some (.int (Int32.ofNat (rg_R S)))], [.int (Int32.ofNat 0)], A30)) rfl ?_
        refine wp_rt rfl rfl rfl ?_
        have hres : ru_rule cs n a S = .error (e6) := by simp [ru_rule, q69, c24, q71]
        rw [hres]
        exact ur_Q_er h32 f36
      · skip
        have hdl := ru_cond_le _ _ _ _ _ _ (by omega) q71
        unfold ru_le at hdl
        obtain ⟨A37, g38, h39, f40⟩ := ur_Q1 (ui_cond (d := d - 1) (by omega) (by omega) (by omega) (by omega) h27) q71
        have f41 := f29.trans f40
        refine wp_cv (A' := A37) (v := some (.int (Int32.ofNat 1))) rfl rfl rfl rfl rfl h27.rc (by omega) (g38) rfl ?_
        show am_wp d 68 (52, [some (.ref (r)), some (.int (Int32.ofNat c)), some (.int (Int32.ofNat (rg_R S)))], [.int (Int32.ofNat 1)], A37) _
        refine wp_izT rfl rfl (show (Int32.ofNat 1) ≠ (Int32.ofNat 0) from by decide) ?_
        refine wp_st 1 (f' := (58, [some (.ref (r)), some (.int (Int32.ofNat c)), some (.int (Int32.ofNat (rg_R S)))], [.ref (r)], A37)) rfl ?_
        refine wp_gf rfl rfl h39.rc rfl rfl ?_
        refine wp_st 2 (f' := (63, [some (.ref (r)), some (.int (Int32.ofNat c)), some (.int (Int32.ofNat (rg_R S)))], [.int (Int32.ofNat (rg_R S)), .int (Int32.ofNat c), .ref (m)], A37)) rfl ?_
        obtain ⟨A42, g43, h44, f45⟩ := ui_close (d := d - 1) (c := c) (f0 := rg_R S) (by omega) (by omega) h39
        have f46 := f41.trans f45
        refine wp_cv (A' := A42) (v := none) rfl rfl rfl rfl rfl h39.mc (by omega) (g43) rfl ?_
        show am_wp d 68 (66, [some (.ref (r)), some (.int (Int32.ofNat c)), some (.int (Int32.ofNat (rg_R S)))], [], A42) _
        refine wp_st 1 (f' := (67, [some (.ref (r)), some (.int (Int32.ofNat c)), some (.int (Int32.ofNat (rg_R S)))], [.int (Int32.ofNat 1)], A42)) rfl ?_
        refine wp_rt rfl rfl rfl ?_
        have hres : ru_rule cs n a S = .ok (a4, rg_close S4 c (rg_R S)) := by simp [ru_rule, q69, c24, q71]
        rw [hres]
        exact ur_Q_ok h44 f46
    · skip
      obtain ⟨A47, g48, h49, f50⟩ := ui_need0 (d := d - 1) (by omega) (by omega) c24 h21
      have f51 := f23.trans f50
      refine wp_cv (A' := A47) (v := some (.int (Int32.ofNat 0))) rfl rfl rfl rfl rfl h21.tc (by omega) (g48) rfl ?_
      show am_wp d 68 (35, [some (.ref (r)), some (.int (Int32.ofNat c)), none], [.int (Int32.ofNat 0)], A47) _
      refine wp_izF rfl rfl (show ¬ ((Int32.ofNat 0) ≠ (Int32.ofNat 0)) from by decide) ?_
      refine wp_st 1 (f' := (39, [some (.ref (r)), some (.int (Int32.ofNat c)), none], [.int (Int32.ofNat 0)], A47)) rfl ?_
      refine wp_rt rfl rfl rfl ?_
      have hres : ru_rule cs n a S = .error (rd_sk cs n a2) := by simp [ru_rule, q69, c24]
      rw [hres]
      exact ur_Q_er h49 f51
def uv_Q (A : am_H) (r t m : Nat) (cs : List Nat) (n : Nat) (x : ru_R) (q : am_O × am_H) : Prop := match x with
  | .ok y => q.1 = .inl none ∧ ur_I q.2 r t m cs n y.1 (-1) y.2 ∧ ur_F A q.2 t m
  | .error e => q.1 = .inl none ∧ ∃ a' S', ur_I q.2 r t m cs n a' (Int32.ofNat e) S' ∧ ur_F A q.2 t m
theorem uv_Q_ok {A B : am_H} {r t m n a : Nat} {cs : List Nat} {S : rg} (h : ur_I B r t m cs n a (-1) S) (hF : ur_F A B t m) : uv_Q A r t m cs n (.ok (a, S)) (.inl none, B) := ⟨rfl, h, hF⟩
theorem uv_Q_er {A B : am_H} {r t m n a e : Nat} {cs : List Nat} {S : rg} (h : ur_I B r t m cs n a (Int32.ofNat e) S) (hF : ur_F A B t m) : uv_Q A r t m cs n (.error e) (.inl none, B) := ⟨rfl, a, S, h, hF⟩
theorem uv_Q.tr {A B : am_H} {r t m n : Nat} {cs : List Nat} {X : ru_R} {q : am_O × am_H} (hF : ur_F A B t m) (h : uv_Q B r t m cs n X q) : uv_Q A r t m cs n X q := by
  cases X with
  | ok y => exact ⟨h.1, h.2.1, hF.trans h.2.2⟩
  | error e =>
    obtain ⟨h1, a', S', h2, h3⟩ := h
    exact ⟨h1, a', S', h2, hF.trans h3⟩
theorem ui_rules_l {d r t m n : Nat} {cs : List Nat} (hd : 8 ≤ d) : ∀ (k a : Nat) (S : rg) (A : am_H), k ≤ 120 → a ≤ n → 3 * rg_R S ≤ a → 2 * rg_G S ≤ a → ur_I A r t m cs n a (-1) S → am_wp d 67 (33, [some (.ref r), some (.int (Int32.ofNat 1)), some (.int (Int32.ofNat (120 - k)))], [], A) (uv_Q A r t m cs n (ru_loop cs n k a S)) := by
  intro k
  induction k with
  | zero =>
    intro a S A hk han hR hG h
    have hge := h.ge
    have hlk := h.lk
    have hcs := h.T.2.2.2.2.2.1
    have hPB := h.N.P
    refine wp_st 2 (f' := (36, [some (.ref (r)), some (.int (Int32.ofNat 1)), some (.int (Int32.ofNat (120 - 0)))], [.int (Int32.ofNat 120), .int (Int32.ofNat (120 - 0))], A)) rfl ?_
    refine wp_ifT rfl rfl ((i32_le (a := 120) (b := 120 - 0) (by omega) (by omega)).mpr (by omega)) ?_
    refine wp_rt rfl rfl rfl ?_
    have hres : ru_loop cs n 0 a S = .ok (a, S) := by simp [ru_loop]
    rw [hres]
    exact uv_Q_ok h (ur_F.refl A t m)
  | succ k ih =>
    intro a S A hk han hR hG h
    have hge := h.ge
    have hlk := h.lk
    have hcs := h.T.2.2.2.2.2.1
    have hPB := h.N.P
    refine wp_st 2 (f' := (36, [some (.ref (r)), some (.int (Int32.ofNat 1)), some (.int (Int32.ofNat (120 - (k + 1))))], [.int (Int32.ofNat 120), .int (Int32.ofNat (120 - (k + 1)))], A)) rfl ?_
    refine wp_ifF rfl rfl (fun q => absurd ((i32_le (a := 120) (b := 120 - (k + 1)) (by omega) (by omega)).mp q) (by omega)) ?_
    refine wp_st 1 (f' := (40, [some (.ref (r)), some (.int (Int32.ofNat 1)), some (.int (Int32.ofNat (120 - (k + 1))))], [.int (Int32.ofNat 1)], A)) rfl ?_
    refine wp_izF rfl rfl (show ¬ ((Int32.ofNat 1) = (Int32.ofNat 0)) from by decide) ?_
    refine wp_st 1 (f' := (44, [some (.ref (r)), some (.int (Int32.ofNat 1)), some (.int (Int32.ofNat (120 - (k + 1))))], [.ref (r)], A)) rfl ?_
    rcases q68 : ru_rule cs n a S with e7 | ⟨a1, S1⟩
    · skip
      obtain ⟨a5, M6, A1, g2, h3, f4⟩ := ur_Q0 (ui_rule (d := d - 1) (by omega) (by omega) (by omega) (by omega) h) q68
      have f7 := (ur_F.refl A t m).trans f4
      refine wp_cv (A' := A1) (v := some (.int (Int32.ofNat 0))) rfl rfl rfl rfl rfl h.rc (by omega) (g2) rfl ?_
      show am_wp d 67 (47, [some (.ref (r)), some (.int (Int32.ofNat 1)), some (.int (Int32.ofNat (120 - (k + 1))))], [.int (Int32.ofNat 0)], A1) _
      refine wp_izT rfl rfl (show (Int32.ofNat 0) = (Int32.ofNat 0) from by decide) ?_
      refine wp_st 3 (f' := (89, [some (.ref (r)), some (.int (Int32.ofNat 0)), some (.int ((Int32.ofNat (120 - (k + 1))) + (Int32.ofNat 1)))], [], A1)) rfl ?_
      rw [i32_add (120 - (k + 1)) (1)]
      refine wp_st 1 (f' := (33, [some (.ref (r)), some (.int (Int32.ofNat 0)), some (.int (Int32.ofNat (120 - (k + 1) + 1)))], [], A1)) rfl ?_
      refine wp_st 2 (f' := (36, [some (.ref (r)), some (.int (Int32.ofNat 0)), some (.int (Int32.ofNat (120 - (k + 1) + 1)))], [.int (Int32.ofNat 120), .int (Int32.ofNat (120 - (k + 1) + 1))], A1)) rfl ?_
      refine wp_if rfl rfl rfl (fun (h8 : (Int32.ofNat 120) ≤ (Int32.ofNat (120 - (k + 1) + 1))) => ?_) (fun (h8 : ¬ ((Int32.ofNat 120) ≤ (Int32.ofNat (120 - (k + 1) + 1)))) => ?_)
      · skip
        rw [i32_le (by omega) (by omega)] at h8
        refine wp_rt rfl rfl rfl ?_
        have hres : ru_loop cs n (k + 1) a S = .error (e7) := by simp [ru_loop, q68]
        rw [hres]
        exact uv_Q_er h3 f7
      · skip
        rw [i32_le (by omega) (by omega)] at h8
        refine wp_st 1 (f' := (40, [some (.ref (r)), some (.int (Int32.ofNat 0)), some (.int (Int32.ofNat (120 - (k + 1) + 1)))], [.int (Int32.ofNat 0)], A1)) rfl ?_
        refine wp_izT rfl rfl (show (Int32.ofNat 0) = (Int32.ofNat 0) from by decide) ?_
        refine wp_rt rfl rfl rfl ?_
        have hres : ru_loop cs n (k + 1) a S = .error (e7) := by simp [ru_loop, q68]
        rw [hres]
        exact uv_Q_er h3 f7
    · skip
      have hrl := ru_rule_le (by omega) q68
      unfold ru_le at hrl
      obtain ⟨A9, g10, h11, f12⟩ := ur_Q1 (ui_rule (d := d - 1) (by omega) (by omega) (by omega) (by omega) h) q68
      have f13 := (ur_F.refl A t m).trans f12
      refine wp_cv (A' := A9) (v := some (.int (Int32.ofNat 1))) rfl rfl rfl rfl rfl h.rc (by omega) (g10) rfl ?_
      show am_wp d 67 (47, [some (.ref (r)), some (.int (Int32.ofNat 1)), some (.int (Int32.ofNat (120 - (k + 1))))], [.int (Int32.ofNat 1)], A9) _
      refine wp_izF rfl rfl (show ¬ ((Int32.ofNat 1) = (Int32.ofNat 0)) from by decide) ?_
      refine wp_st 1 (f' := (51, [some (.ref (r)), some (.int (Int32.ofNat 1)), some (.int (Int32.ofNat (120 - (k + 1))))], [.ref (r)], A9)) rfl ?_
      refine wp_gf rfl rfl h11.rc rfl rfl ?_
      refine wp_st 1 (f' := (55, [some (.ref (r)), some (.int (Int32.ofNat 1)), some (.int (Int32.ofNat (120 - (k + 1))))], [.ref (r), .ref (t)], A9)) rfl ?_
      refine wp_gf rfl rfl h11.rc rfl rfl ?_
      refine wp_gf rfl rfl h11.tc rfl rfl ?_
      by_cases c14 : a1 < n
      · skip
        have c14l := hlk (a1)
        have c14n : ¬ n ≤ a1 := by omega
        refine wp_cv (A' := A9) (v := some (.int (Int32.ofNat (sb_lk cs n a1)))) rfl rfl rfl rfl rfl h11.tc (by omega) (ui_chr1 c14 h11) rfl ?_
        show am_wp d 67 (64, [some (.ref (r)), some (.int (Int32.ofNat 1)), some (.int (Int32.ofNat (120 - (k + 1))))], [.int (Int32.ofNat (sb_lk cs n a1))], A9) _
        refine wp_st 1 (f' := (65, [some (.ref (r)), some (.int (Int32.ofNat 1)), some (.int (Int32.ofNat (120 - (k + 1))))], [.int ((-1)), .int (Int32.ofNat (sb_lk cs n a1))], A9)) rfl ?_
        refine wp_ifF rfl rfl (i32_neg1 (by omega)) ?_
        refine wp_st 1 (f' := (69, [some (.ref (r)), some (.int (Int32.ofNat 1)), some (.int (Int32.ofNat (120 - (k + 1))))], [.ref (r)], A9)) rfl ?_
        refine wp_gf rfl rfl h11.rc rfl rfl ?_
        refine wp_st 1 (f' := (74, [some (.ref (r)), some (.int (Int32.ofNat 1)), some (.int (Int32.ofNat (120 - (k + 1))))], [.int (Int32.ofNat 59), .ref (t)], A9)) rfl ?_
        by_cases c15 : sb_lk cs n a1 = 59
        · skip
          have c15p : a1 < n := sb_lk_pos (cs := cs) (by omega)
          obtain ⟨A16, g17, h18, f19⟩ := ui_need1 (d := d - 1) (by omega) (by omega) (by omega) c15 h11
          have f20 := f13.trans f19
          refine wp_cv (A' := A16) (v := some (.int (Int32.ofNat 1))) rfl rfl rfl rfl rfl h11.tc (by omega) (g17) rfl ?_
          show am_wp d 67 (77, [some (.ref (r)), some (.int (Int32.ofNat 1)), some (.int (Int32.ofNat (120 - (k + 1))))], [.int (Int32.ofNat 1)], A16) _
          refine wp_izF rfl rfl (show ¬ ((Int32.ofNat 1) = (Int32.ofNat 0)) from by decide) ?_
          refine wp_st 4 (f' := (89, [some (.ref (r)), some (.int (Int32.ofNat 1)), some (.int ((Int32.ofNat (120 - (k + 1))) + (Int32.ofNat 1)))], [], A16)) rfl ?_
          rw [i32_add (120 - (k + 1)) (1)]
          refine wp_st 1 (f' := (33, [some (.ref (r)), some (.int (Int32.ofNat 1)), some (.int (Int32.ofNat (120 - (k + 1) + 1)))], [], A16)) rfl ?_
          have hres : ru_loop cs n (k + 1) a S = ru_loop cs n k (a1 + 1) S1 := by simp [ru_loop, q68, c14n, c15]
          rw [hres, show 120 - (k + 1) + 1 = 120 - k by omega]
          obtain ⟨q, q1, q2⟩ := ih (a1 + 1) S1 _ (by omega) (by omega) (by omega) (by omega) h18
          exact ⟨q, q1, q2.tr f20⟩
        · skip
          obtain ⟨A21, g22, h23, f24⟩ := ui_need0 (d := d - 1) (by omega) (by omega) c15 h11
          have f25 := f13.trans f24
          refine wp_cv (A' := A21) (v := some (.int (Int32.ofNat 0))) rfl rfl rfl rfl rfl h11.tc (by omega) (g22) rfl ?_
          show am_wp d 67 (77, [some (.ref (r)), some (.int (Int32.ofNat 1)), some (.int (Int32.ofNat (120 - (k + 1))))], [.int (Int32.ofNat 0)], A21) _
          refine wp_izT rfl rfl (show (Int32.ofNat 0) = (Int32.ofNat 0) from by decide) ?_
          refine wp_st 3 (f' := (89, [some (.ref (r)), some (.int (Int32.ofNat 0)), some (.int ((Int32.ofNat (120 - (k + 1))) + (Int32.ofNat 1)))], [], A21)) rfl ?_
          rw [i32_add (120 - (k + 1)) (1)]
          refine wp_st 1 (f' := (33, [some (.ref (r)), some (.int (Int32.ofNat 0)), some (.int (Int32.ofNat (120 - (k + 1) + 1)))], [], A21)) rfl ?_
          refine wp_st 2 (f' := (36, [some (.ref (r)), some (.int (Int32.ofNat 0)), some (.int (Int32.ofNat (120 - (k + 1) + 1)))], [.int (Int32.ofNat 120), .int (Int32.ofNat (120 - (k + 1) + 1))], A21)) rfl ?_
          refine wp_if rfl rfl rfl (fun (h26 : (Int32.ofNat 120) ≤ (Int32.ofNat (120 - (k + 1) + 1))) => ?_) (fun (h26 : ¬ ((Int32.ofNat 120) ≤ (Int32.ofNat (120 - (k + 1) + 1)))) => ?_)
          · skip
            rw [i32_le (by omega) (by omega)] at h26
            refine wp_rt rfl rfl rfl ?_
            have hres : ru_loop cs n (k + 1) a S = .error (a1) := by simp [ru_loop, q68, c14n, c15]
            rw [hres]
            exact uv_Q_er h23 f25
          · skip
            rw [i32_le (by omega) (by omega)] at h26
            refine wp_st 1 (f' := (40, [some (.ref (r)), some (.int (Int32.ofNat 0)), some (.int (Int32.ofNat (120 - (k + 1) + 1)))], [.int (Int32.ofNat 0)], A21)) rfl ?_
            refine wp_izT rfl rfl (show (Int32.ofNat 0) = (Int32.ofNat 0) from by decide) ?_
            refine wp_rt rfl rfl rfl ?_
            have hres : ru_loop cs n (k + 1) a S = .error (a1) := by simp [ru_loop, q68, c14n, c15]
            rw [hres]
            exact uv_Q_er h23 f25
      · skip
        have c14n : n ≤ a1 := by omega
        refine wp_cv (A' := A9) (v := some (.int ((-1)))) rfl rfl rfl rfl rfl h11.tc (by omega) (ui_chr0 c14 (by omega) h11) rfl ?_
        show am_wp d 67 (64, [some (.ref (r)), some (.int (Int32.ofNat 1)), some (.int (Int32.ofNat (120 - (k + 1))))], [.int ((-1))], A9) _
        refine wp_st 1 (f' := (65, [some (.ref (r)), some (.int (Int32.ofNat 1)), some (.int (Int32.ofNat (120 - (k + 1))))], [.int ((-1)), .int ((-1))], A9)) rfl ?_
        refine wp_ifT rfl rfl (rfl) ?_
        refine wp_st 3 (f' := (89, [some (.ref (r)), some (.int (Int32.ofNat 0)), some (.int ((Int32.ofNat (120 - (k + 1))) + (Int32.ofNat 1)))], [], A9)) rfl ?_
        rw [i32_add (120 - (k + 1)) (1)]
        refine wp_st 1 (f' := (33, [some (.ref (r)), some (.int (Int32.ofNat 0)), some (.int (Int32.ofNat (120 - (k + 1) + 1)))], [], A9)) rfl ?_
        refine wp_st 2 (f' := (36, [some (.ref (r)), some (.int (Int32.ofNat 0)), some (.int (Int32.ofNat (120 - (k + 1) + 1)))], [.int (Int32.ofNat 120), .int (Int32.ofNat (120 - (k + 1) + 1))], A9)) rfl ?_
        refine wp_if rfl rfl rfl (fun (h27 : (Int32.ofNat 120) ≤ (Int32.ofNat (120 - (k + 1) + 1))) => ?_) (fun (h27 : ¬ ((Int32.ofNat 120) ≤ (Int32.ofNat (120 - (k + 1) + 1)))) => ?_)
        · skip
          rw [i32_le (by omega) (by omega)] at h27
          refine wp_rt rfl rfl rfl ?_
          have hres : ru_loop cs n (k + 1) a S = .ok (a1, S1) := by simp [ru_loop, q68, c14n]
          rw [hres]
          exact uv_Q_ok h11 f13
        · skip
          rw [i32_le (by omega) (by omega)] at h27
          refine wp_st 1 (f' := (40, [some (.ref (r)), some (.int (Int32.ofNat 0)), some (.int (Int32.ofNat (120 - (k + 1) + 1)))], [.int (Int32.ofNat 0)], A9)) rfl ?_
          refine wp_izT rfl rfl (show (Int32.ofNat 0) = (Int32.ofNat 0) from by decide) ?_
          refine wp_rt rfl rfl rfl ?_
          have hres : ru_loop cs n (k + 1) a S = .ok (a1, S1) := by simp [ru_loop, q68, c14n]
          rw [hres]
          exact uv_Q_ok h11 f13
theorem ui_rules {d r t m n : Nat} {cs : List Nat} {S : rg} {A : am_H} (hd : 8 ≤ d) (hR : rg_R S = 0) (hG : rg_G S = 0) (h : ur_I A r t m cs n 0 (-1) S) : am_wp d 67 (0, am_ent 67 [.ref r], [], A) (uv_Q A r t m cs n (ru_all cs n S)) := by
  have hge := h.ge
  have hlk := h.lk
  have hcs := h.T.2.2.2.2.2.1
  have hPB := h.N.P
  refine wp_st 1 (f' := (1, [some (.ref (r)), none, none], [.ref (r)], A)) rfl ?_
  refine wp_gf rfl rfl h.rc rfl rfl ?_
  have k1 := rd_sk_le (cs := cs) (n := n) (a := 0) (by omega)
  obtain ⟨A2, g3, h4, f5⟩ := ui_skip (d := d - 1) (by omega) (by omega) h
  have f6 := (ur_F.refl A t m).trans f5
  refine wp_cv (A' := A2) (v := none) rfl rfl rfl rfl rfl h.tc (by omega) (g3) rfl ?_
  show am_wp d 67 (7, [some (.ref (r)), none, none], [], A2) _
  refine wp_st 1 (f' := (8, [some (.ref (r)), none, none], [.ref (r)], A2)) rfl ?_
  refine wp_gf rfl rfl h4.rc rfl rfl ?_
  refine wp_st 1 (f' := (12, [some (.ref (r)), none, none], [.ref (r), .ref (t)], A2)) rfl ?_
  refine wp_gf rfl rfl h4.rc rfl rfl ?_
  refine wp_gf rfl rfl h4.tc rfl rfl ?_
  by_cases c7 : rd_sk cs n 0 < n
  · skip
    have c7l := hlk (rd_sk cs n 0)
    have c7n : ¬ n ≤ rd_sk cs n 0 := by omega
    refine wp_cv (A' := A2) (v := some (.int (Int32.ofNat (sb_lk cs n (rd_sk cs n 0))))) rfl rfl rfl rfl rfl h4.tc (by omega) (ui_chr1 c7 h4) rfl ?_
    show am_wp d 67 (21, [some (.ref (r)), none, none], [.int (Int32.ofNat (sb_lk cs n (rd_sk cs n 0)))], A2) _
    refine wp_st 1 (f' := (22, [some (.ref (r)), none, none], [.int ((-1)), .int (Int32.ofNat (sb_lk cs n (rd_sk cs n 0)))], A2)) rfl ?_
    refine wp_ifF rfl rfl (i32_neg1 (by omega)) ?_
    refine wp_st 5 (f' := (33, [some (.ref (r)), some (.int (Int32.ofNat 1)), some (.int (Int32.ofNat 0))], [], A2)) rfl ?_
    have hres : ru_all cs n S = ru_loop cs n 120 (rd_sk cs n 0) S := by simp [ru_all, c7n]
    rw [hres]
    obtain ⟨q, q1, q2⟩ := ui_rules_l hd 120 (rd_sk cs n 0) S _ (by omega) (by omega) (by omega) (by omega) h4
    exact ⟨q, q1, q2.tr f6⟩
  · skip
    have c7n : n ≤ rd_sk cs n 0 := by omega
    refine wp_cv (A' := A2) (v := some (.int ((-1)))) rfl rfl rfl rfl rfl h4.tc (by omega) (ui_chr0 c7 (by omega) h4) rfl ?_
    show am_wp d 67 (21, [some (.ref (r)), none, none], [.int ((-1))], A2) _
    refine wp_st 1 (f' := (22, [some (.ref (r)), none, none], [.int ((-1)), .int ((-1))], A2)) rfl ?_
    refine wp_ifT rfl rfl (rfl) ?_
    refine wp_st 4 (f' := (33, [some (.ref (r)), some (.int (Int32.ofNat 0)), some (.int (Int32.ofNat 0))], [], A2)) rfl ?_
    refine wp_st 2 (f' := (36, [some (.ref (r)), some (.int (Int32.ofNat 0)), some (.int (Int32.ofNat 0))], [.int (Int32.ofNat 120), .int (Int32.ofNat 0)], A2)) rfl ?_
    refine wp_ifF rfl rfl (show ¬ ((Int32.ofNat 120) ≤ (Int32.ofNat 0)) from by decide) ?_
    refine wp_st 1 (f' := (40, [some (.ref (r)), some (.int (Int32.ofNat 0)), some (.int (Int32.ofNat 0))], [.int (Int32.ofNat 0)], A2)) rfl ?_
    refine wp_izT rfl rfl (show (Int32.ofNat 0) = (Int32.ofNat 0) from by decide) ?_
    refine wp_rt rfl rfl rfl ?_
    have hres : ru_all cs n S = .ok (rd_sk cs n 0, S) := by simp [ru_all, c7n]
    rw [hres]
    exact uv_Q_ok h4 f6
