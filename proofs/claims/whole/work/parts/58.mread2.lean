/-! MessageReader: offsets, selectors, branches, arguments, messages. -/
theorem mi_ex {d : Nat} {x : Int64} {A : am_H} : am_go d 58 [.long x] A (.inl (some (.long (-1 - x))), A) := by
  refine wp_go ?_
  refine wp_st 3 (f' := (5, [some (.long (x)), none], [.long ((-1) - x)], A)) rfl ?_
  refine wp_rt rfl rfl rfl ?_
  rfl
theorem mi_off {d r t m n a : Nat} {cs : List Nat} {dbl z : Bool} {M : mg} {A : am_H} {i : Nat} (hd : 5 ≤ d) (han : a ≤ n) (hi : i < mg_P M) (hP : mg_P M ≤ 120) (h : mr_I A r t m cs n a (-1) dbl M z) : am_wp d 53 (0, am_ent 53 [.ref r, .int (Int32.ofNat i)], [], A) (mr_Q A r t m cs n dbl z (rd_off cs n i a M)) := by
  have hge := h.ge
  have hlk := h.lk
  have hcs := h.T.2.2.2.2.2.1
  refine wp_st 1 (f' := (1, [some (.ref (r)), some (.int (Int32.ofNat i)), none, none], [.ref (r)], A)) rfl ?_
  refine wp_gf rfl rfl h.rc rfl rfl ?_
  refine wp_st 2 (f' := (8, [some (.ref (r)), some (.int (Int32.ofNat i)), none, none], [.int (Int32.ofNat 122), .int (Int32.ofNat 97), .ref (t)], A)) rfl ?_
  have k1 := sb_re_le (lo := 97) (hi := 122) (cs := cs) (n := n) (a := a)
  have k1a := k1.2.1 (by omega)
  refine wp_cv (A' := A) (v := some (.int (Int32.ofNat (sb_re 97 122 cs n a)))) rfl rfl rfl rfl rfl h.tc (by omega) (mi_row (by omega) (by omega) h) rfl ?_
  show am_wp d 53 (11, [some (.ref (r)), some (.int (Int32.ofNat i)), none, none], [.int (Int32.ofNat (sb_re 97 122 cs n a))], A) _
  refine wp_st 2 (f' := (13, [some (.ref (r)), some (.int (Int32.ofNat i)), some (.int (Int32.ofNat (sb_re 97 122 cs n a))), none], [.ref (r)], A)) rfl ?_
  refine wp_gf rfl rfl h.rc rfl rfl ?_
  refine wp_st 2 (f' := (19, [some (.ref (r)), some (.int (Int32.ofNat i)), some (.int (Int32.ofNat (sb_re 97 122 cs n a))), none], [.int (Int32.ofNat (sb_re 97 122 cs n a)), .ref (10), .ref (t)], A)) rfl ?_
  refine wp_cv (A' := A) (v := some (.int (sb_i (rd_is cs rd_W9 a (sb_re 97 122 cs n a))))) rfl rfl rfl rfl rfl h.tc (by omega) (mi_word (by omega) (by omega) (by omega) h.K.w9 h) rfl ?_
  show am_wp d 53 (22, [some (.ref (r)), some (.int (Int32.ofNat i)), some (.int (Int32.ofNat (sb_re 97 122 cs n a))), none], [.int (sb_i (rd_is cs rd_W9 a (sb_re 97 122 cs n a)))], A) _
  by_cases b2 : (rd_is cs rd_W9 a (sb_re 97 122 cs n a)) = true
  · skip
    refine wp_izF rfl rfl (show ¬ (sb_i (rd_is cs rd_W9 a (sb_re 97 122 cs n a)) = 0) from by rw [b2]; decide) ?_
    refine wp_st 1 (f' := (26, [some (.ref (r)), some (.int (Int32.ofNat i)), some (.int (Int32.ofNat (sb_re 97 122 cs n a))), none], [.ref (r)], A)) rfl ?_
    refine wp_gf rfl rfl h.rc rfl rfl ?_
    refine wp_st 1 (f' := (30, [some (.ref (r)), some (.int (Int32.ofNat i)), some (.int (Int32.ofNat (sb_re 97 122 cs n a))), none], [.int (Int32.ofNat (sb_re 97 122 cs n a)), .ref (t)], A)) rfl ?_
    by_cases c3 : sb_re 97 122 cs n a < n
    · skip
      have c3l := hlk (sb_re 97 122 cs n a)
      refine wp_cv (A' := A) (v := some (.int (Int32.ofNat (sb_lk cs n (sb_re 97 122 cs n a))))) rfl rfl rfl rfl rfl h.tc (by omega) (mi_chr1 c3 h) rfl ?_
      show am_wp d 53 (33, [some (.ref (r)), some (.int (Int32.ofNat i)), some (.int (Int32.ofNat (sb_re 97 122 cs n a))), none], [.int (Int32.ofNat (sb_lk cs n (sb_re 97 122 cs n a)))], A) _
      refine wp_st 1 (f' := (35, [some (.ref (r)), some (.int (Int32.ofNat i)), some (.int (Int32.ofNat (sb_re 97 122 cs n a))), none], [.int (Int32.ofNat 58), .int (Int32.ofNat (sb_lk cs n (sb_re 97 122 cs n a)))], A)) rfl ?_
      refine wp_if rfl rfl rfl (fun (h4 : (Int32.ofNat (sb_lk cs n (sb_re 97 122 cs n a))) = (Int32.ofNat 58)) => ?_) (fun (h4 : ¬ ((Int32.ofNat (sb_lk cs n (sb_re 97 122 cs n a))) = (Int32.ofNat 58))) => ?_)
      · skip
        rw [i32_eq (by omega) (by omega)] at h4
        refine wp_st 1 (f' := (41, [some (.ref (r)), some (.int (Int32.ofNat i)), some (.int (Int32.ofNat (sb_re 97 122 cs n a))), none], [.ref (r)], A)) rfl ?_
        refine wp_gf rfl rfl h.rc rfl rfl ?_
        refine wp_st 3 (f' := (47, [some (.ref (r)), some (.int (Int32.ofNat i)), some (.int (Int32.ofNat (sb_re 97 122 cs n a))), none], [.int ((Int32.ofNat (sb_re 97 122 cs n a)) + (Int32.ofNat 1)), .ref (t)], A)) rfl ?_
        rw [i32_add (sb_re 97 122 cs n a) (1)]
        obtain ⟨A5, e6⟩ : ∃ B, B = A.set t (sb_tc t n (sb_re 97 122 cs n a + 1) ((-1))) := ⟨_, rfl⟩
        have q7 := h.set (a' := sb_re 97 122 cs n a + 1) (f' := (-1)) (by omega)
        rw [← e6] at q7
        refine wp_pf (A' := A5) rfl rfl h.tc rfl rfl (decide_eq_true (by have := h.ge; omega)) rfl e6.symm ?_
        have h8 := q7.1
        have f9 := (mr_F.refl A t m).trans q7.2
        refine wp_st 1 (f' := (51, [some (.ref (r)), some (.int (Int32.ofNat i)), some (.int (Int32.ofNat (sb_re 97 122 cs n a))), none], [.ref (r)], A5)) rfl ?_
        refine wp_gf rfl rfl h8.rc rfl rfl ?_
        refine wp_st 1 (f' := (55, [some (.ref (r)), some (.int (Int32.ofNat i)), some (.int (Int32.ofNat (sb_re 97 122 cs n a))), none], [.int (Int32.ofNat 2), .ref (t)], A5)) rfl ?_
        rcases u10 : rd_num cs n 2 (sb_re 97 122 cs n a + 1) with e11 | ⟨x12, v13⟩
        · skip
          obtain ⟨A14, g15, h16, f17⟩ := mi_num0 (d := d - 1) (by omega) (by omega) (by omega) u10 h8
          have f18 := f9.trans f17
          refine wp_cv (A' := A14) (v := some (.int ((-1)))) rfl rfl rfl rfl rfl h8.tc (by omega) (g15) rfl ?_
          show am_wp d 53 (58, [some (.ref (r)), some (.int (Int32.ofNat i)), some (.int (Int32.ofNat (sb_re 97 122 cs n a))), none], [.int ((-1))], A14) _
          refine wp_st 3 (f' := (61, [some (.ref (r)), some (.int (Int32.ofNat i)), some (.int (Int32.ofNat (sb_re 97 122 cs n a))), some (.int ((-1)))], [.int ((-1)), .int ((-1))], A14)) rfl ?_
          refine wp_ifF rfl rfl (fun q => q rfl) ?_
          refine wp_st 1 (f' := (65, [some (.ref (r)), some (.int (Int32.ofNat i)), some (.int (Int32.ofNat (sb_re 97 122 cs n a))), some (.int ((-1)))], [.int (Int32.ofNat 0)], A14)) rfl ?_
          refine wp_rt rfl rfl rfl ?_
          have hres : rd_off cs n i a M = .error (e11) := by simp [rd_off, true_and, and_true, and_false, false_and, b2, c3, h4, u10]
          rw [hres]
          exact mr_Q_er h16 f18
        · skip
          have u10l := rd_num_le (by omega) u10
          have u10v := rd_num_v (by omega) (by omega) u10
          obtain ⟨A19, g20, h21, f22⟩ := mi_num1 (d := d - 1) (by omega) (by omega) (by omega) u10 h8
          have f23 := f9.trans f22
          refine wp_cv (A' := A19) (v := some (.int (Int32.ofNat v13))) rfl rfl rfl rfl rfl h8.tc (by omega) (g20) rfl ?_
          show am_wp d 53 (58, [some (.ref (r)), some (.int (Int32.ofNat i)), some (.int (Int32.ofNat (sb_re 97 122 cs n a))), none], [.int (Int32.ofNat v13)], A19) _
          refine wp_st 3 (f' := (61, [some (.ref (r)), some (.int (Int32.ofNat i)), some (.int (Int32.ofNat (sb_re 97 122 cs n a))), some (.int (Int32.ofNat v13))], [.int ((-1)), .int (Int32.ofNat v13)], A19)) rfl ?_
          refine wp_ifT rfl rfl (i32_neg1 (by omega)) ?_
          refine wp_st 1 (f' := (67, [some (.ref (r)), some (.int (Int32.ofNat i)), some (.int (Int32.ofNat (sb_re 97 122 cs n a))), some (.int (Int32.ofNat v13))], [.ref (r)], A19)) rfl ?_
          refine wp_gf rfl rfl h21.rc rfl rfl ?_
          refine wp_st 1 (f' := (71, [some (.ref (r)), some (.int (Int32.ofNat i)), some (.int (Int32.ofNat (sb_re 97 122 cs n a))), some (.int (Int32.ofNat v13))], [.int (Int32.ofNat i), .ref (m)], A19)) rfl ?_
          refine wp_cv (A' := A19) (v := some (.int (Int32.ofNat 1))) rfl rfl rfl rfl rfl h21.mc (by omega) (mn_isp1 (by omega) h21.N) rfl ?_
          show am_wp d 53 (74, [some (.ref (r)), some (.int (Int32.ofNat i)), some (.int (Int32.ofNat (sb_re 97 122 cs n a))), some (.int (Int32.ofNat v13))], [.int (Int32.ofNat 1)], A19) _
          refine wp_izF rfl rfl (show ¬ ((Int32.ofNat 1) = (Int32.ofNat 0)) from by decide) ?_
          refine wp_st 1 (f' := (78, [some (.ref (r)), some (.int (Int32.ofNat i)), some (.int (Int32.ofNat (sb_re 97 122 cs n a))), some (.int (Int32.ofNat v13))], [.ref (r)], A19)) rfl ?_
          refine wp_gf rfl rfl h21.rc rfl rfl ?_
          refine wp_gf rfl rfl h21.mc rfl rfl ?_
          refine wp_st 2 (f' := (86, [some (.ref (r)), some (.int (Int32.ofNat i)), some (.int (Int32.ofNat (sb_re 97 122 cs n a))), some (.int (Int32.ofNat v13))], [.int (Int32.ofNat v13), .int (Int32.ofNat i), .ref (m + 3)], A19)) rfl ?_
          refine wp_off h21 rfl (by omega) rfl (fun A24 h25 f26 => ?_)
          have f27 := f23.trans f26
          refine wp_st 1 (f' := (88, [some (.ref (r)), some (.int (Int32.ofNat i)), some (.int (Int32.ofNat (sb_re 97 122 cs n a))), some (.int (Int32.ofNat v13))], [.int (Int32.ofNat 1)], A24)) rfl ?_
          refine wp_rt rfl rfl rfl ?_
          have hres : rd_off cs n i a M = .ok (x12, mg_off M i v13) := by simp [rd_off, true_and, and_true, and_false, false_and, b2, c3, h4, u10]
          rw [hres]
          exact mr_Q_ok h25 f27
      · skip
        rw [i32_eq (by omega) (by omega)] at h4
        refine wp_st 1 (f' := (39, [some (.ref (r)), some (.int (Int32.ofNat i)), some (.int (Int32.ofNat (sb_re 97 122 cs n a))), none], [.int (Int32.ofNat 1)], A)) rfl ?_
        refine wp_rt rfl rfl rfl ?_
        have hres : rd_off cs n i a M = .ok (a, M) := by simp [rd_off, true_and, and_true, and_false, false_and, b2, c3, h4]
        rw [hres]
        exact mr_Q_ok h (mr_F.refl A t m)
    · skip
      have c3z : sb_lk cs n (sb_re 97 122 cs n a) = 0 := sb_lk_out c3
      refine wp_cv (A' := A) (v := some (.int ((-1)))) rfl rfl rfl rfl rfl h.tc (by omega) (mi_chr0 c3 (by omega) h) rfl ?_
      show am_wp d 53 (33, [some (.ref (r)), some (.int (Int32.ofNat i)), some (.int (Int32.ofNat (sb_re 97 122 cs n a))), none], [.int ((-1))], A) _
      refine wp_st 1 (f' := (35, [some (.ref (r)), some (.int (Int32.ofNat i)), some (.int (Int32.ofNat (sb_re 97 122 cs n a))), none], [.int (Int32.ofNat 58), .int ((-1))], A)) rfl ?_
      refine wp_ifF rfl rfl (show ¬ ((-1 : Int32) = (Int32.ofNat 58)) from by decide) ?_
      refine wp_st 1 (f' := (39, [some (.ref (r)), some (.int (Int32.ofNat i)), some (.int (Int32.ofNat (sb_re 97 122 cs n a))), none], [.int (Int32.ofNat 1)], A)) rfl ?_
      refine wp_rt rfl rfl rfl ?_
      have hres : rd_off cs n i a M = .ok (a, M) := by simp [rd_off, true_and, and_true, and_false, false_and, b2, c3, c3z]
      rw [hres]
      exact mr_Q_ok h (mr_F.refl A t m)
  · skip
    have b2f : (rd_is cs rd_W9 a (sb_re 97 122 cs n a)) = false := by simpa using b2
    refine wp_izT rfl rfl (show sb_i (rd_is cs rd_W9 a (sb_re 97 122 cs n a)) = 0 from by rw [b2f]; decide) ?_
    refine wp_st 1 (f' := (39, [some (.ref (r)), some (.int (Int32.ofNat i)), some (.int (Int32.ofNat (sb_re 97 122 cs n a))), none], [.int (Int32.ofNat 1)], A)) rfl ?_
    refine wp_rt rfl rfl rfl ?_
    have hres : rd_off cs n i a M = .ok (a, M) := by simp [rd_off, true_and, and_true, and_false, false_and, b2]
    rw [hres]
    exact mr_Q_ok h (mr_F.refl A t m)
theorem mi_sel {d r t m n a : Nat} {cs : List Nat} {dbl z : Bool} {M : mg} {A : am_H} {nu : Bool} (hd : 2 ≤ d) (han : a ≤ n) (h : mr_I A r t m cs n a (-1) dbl M z) : am_wp d 57 (0, am_ent 57 [.ref r, .int (sb_i nu)], [], A) (ms_Q A r t m cs n dbl z M (rd_sel cs n nu a)) := by
  have hge := h.ge
  have hlk := h.lk
  have hcs := h.T.2.2.2.2.2.1
  refine wp_st 1 (f' := (1, [some (.ref (r)), some (.int (sb_i nu)), none, none], [.int (sb_i nu)], A)) rfl ?_
  by_cases b1 : nu = true
  · skip
    refine wp_izF rfl rfl (show ¬ (sb_i nu = 0) from by rw [b1]; decide) ?_
    refine wp_st 1 (f' := (5, [some (.ref (r)), some (.int (sb_i nu)), none, none], [.ref (r)], A)) rfl ?_
    refine wp_gf rfl rfl h.rc rfl rfl ?_
    refine wp_st 1 (f' := (10, [some (.ref (r)), some (.int (sb_i nu)), none, none], [.int (Int32.ofNat 61), .ref (t)], A)) rfl ?_
    by_cases c2 : sb_lk cs n a = 61
    · skip
      have c2p : a < n := sb_lk_pos (cs := cs) (by omega)
      obtain ⟨A3, g4, h5, f6⟩ := mi_take1 (d := d - 1) (by omega) (by omega) c2 h
      have f7 := (mr_F.refl A t m).trans f6
      refine wp_cv (A' := A3) (v := some (.int (Int32.ofNat 1))) rfl rfl rfl rfl rfl h.tc (by omega) (g4) rfl ?_
      show am_wp d 57 (13, [some (.ref (r)), some (.int (sb_i nu)), none, none], [.int (Int32.ofNat 1)], A3) _
      refine wp_izF rfl rfl (show ¬ ((Int32.ofNat 1) = (Int32.ofNat 0)) from by decide) ?_
      refine wp_st 1 (f' := (17, [some (.ref (r)), some (.int (sb_i nu)), none, none], [.ref (r)], A3)) rfl ?_
      refine wp_gf rfl rfl h5.rc rfl rfl ?_
      refine wp_st 1 (f' := (21, [some (.ref (r)), some (.int (sb_i nu)), none, none], [.int (Int32.ofNat 4), .ref (t)], A3)) rfl ?_
      rcases u8 : rd_num cs n 4 (a + 1) with e9 | ⟨x10, v11⟩
      · skip
        obtain ⟨A12, g13, h14, f15⟩ := mi_num0 (d := d - 1) (by omega) (by omega) (by omega) u8 h5
        have f16 := f7.trans f15
        refine wp_cv (A' := A12) (v := some (.int ((-1)))) rfl rfl rfl rfl rfl h5.tc (by omega) (g13) rfl ?_
        show am_wp d 57 (24, [some (.ref (r)), some (.int (sb_i nu)), none, none], [.int ((-1))], A12) _
        refine wp_st 3 (f' := (27, [some (.ref (r)), some (.int (sb_i nu)), some (.int ((-1))), none], [.int ((-1)), .int ((-1))], A12)) rfl ?_
        refine wp_ifF rfl rfl (fun q => q rfl) ?_
        refine wp_st 2 (f' := (39, [some (.ref (r)), some (.int (sb_i nu)), some (.int ((-1))), none], [.long (Int64.ofNat 0)], A12)) rfl ?_
        refine wp_rt rfl rfl rfl ?_
        have hres : rd_sel cs n nu a = .error (e9) := by simp [rd_sel, true_and, and_true, and_false, false_and, b1, c2, u8]
        rw [hres]
        exact ms_Q_er h14 f16
      · skip
        have u8l := rd_num_le (by omega) u8
        have u8v := rd_num_v (by omega) (by omega) u8
        obtain ⟨A17, g18, h19, f20⟩ := mi_num1 (d := d - 1) (by omega) (by omega) (by omega) u8 h5
        have f21 := f7.trans f20
        refine wp_cv (A' := A17) (v := some (.int (Int32.ofNat v11))) rfl rfl rfl rfl rfl h5.tc (by omega) (g18) rfl ?_
        show am_wp d 57 (24, [some (.ref (r)), some (.int (sb_i nu)), none, none], [.int (Int32.ofNat v11)], A17) _
        refine wp_st 3 (f' := (27, [some (.ref (r)), some (.int (sb_i nu)), some (.int (Int32.ofNat v11)), none], [.int ((-1)), .int (Int32.ofNat v11)], A17)) rfl ?_
        refine wp_ifT rfl rfl (i32_neg1 (by omega)) ?_
        refine wp_st 2 (f' := (36, [some (.ref (r)), some (.int (sb_i nu)), some (.int (Int32.ofNat v11)), none], [.long ((Int32.ofNat v11).toInt64)], A17)) rfl ?_
        rw [i64_of (b := v11) (by omega)]
        refine wp_cs (n := 0) (A' := A17) (v := some (.long (-1 - (Int64.ofNat v11)))) rfl rfl rfl (by omega) (mi_ex) rfl ?_
        show am_wp d 57 (39, [some (.ref (r)), some (.int (sb_i nu)), some (.int (Int32.ofNat v11)), none], [.long (-1 - (Int64.ofNat v11))], A17) _
        refine wp_rt rfl rfl rfl ?_
        have hres : rd_sel cs n nu a = .ok (x10, rd_ex v11) := by simp [rd_sel, true_and, and_true, and_false, false_and, b1, c2, u8]
        rw [hres]
        exact ms_Q_ok h19 f21
    · skip
      obtain ⟨A22, g23, h24, f25⟩ := mi_take0 (d := d - 1) (by omega) (by omega) c2 h
      have f26 := (mr_F.refl A t m).trans f25
      refine wp_cv (A' := A22) (v := some (.int (Int32.ofNat 0))) rfl rfl rfl rfl rfl h.tc (by omega) (g23) rfl ?_
      show am_wp d 57 (13, [some (.ref (r)), some (.int (sb_i nu)), none, none], [.int (Int32.ofNat 0)], A22) _
      refine wp_izT rfl rfl (show (Int32.ofNat 0) = (Int32.ofNat 0) from by decide) ?_
      refine wp_st 1 (f' := (41, [some (.ref (r)), some (.int (sb_i nu)), none, none], [.ref (r)], A22)) rfl ?_
      refine wp_gf rfl rfl h24.rc rfl rfl ?_
      refine wp_st 2 (f' := (48, [some (.ref (r)), some (.int (sb_i nu)), none, none], [.int (Int32.ofNat 122), .int (Int32.ofNat 97), .ref (t)], A22)) rfl ?_
      have k27 := sb_re_le (lo := 97) (hi := 122) (cs := cs) (n := n) (a := a)
      have k27a := k27.2.1 (by omega)
      refine wp_cv (A' := A22) (v := some (.int (Int32.ofNat (sb_re 97 122 cs n a)))) rfl rfl rfl rfl rfl h24.tc (by omega) (mi_row (by omega) (by omega) h24) rfl ?_
      show am_wp d 57 (51, [some (.ref (r)), some (.int (sb_i nu)), none, none], [.int (Int32.ofNat (sb_re 97 122 cs n a))], A22) _
      refine wp_st 3 (f' := (54, [some (.ref (r)), some (.int (sb_i nu)), some (.int (Int32.ofNat (sb_re 97 122 cs n a))), none], [.ref (r), .int (Int32.ofNat (sb_re 97 122 cs n a))], A22)) rfl ?_
      refine wp_gf rfl rfl h24.rc rfl rfl ?_
      refine wp_gf rfl rfl h24.tc rfl rfl ?_
      refine wp_st 1 (f' := (61, [some (.ref (r)), some (.int (sb_i nu)), some (.int (Int32.ofNat (sb_re 97 122 cs n a))), none], [.int ((Int32.ofNat (sb_re 97 122 cs n a)) - (Int32.ofNat a))], A22)) rfl ?_
      rw [i32_sub (a := sb_re 97 122 cs n a) (b := a) (by omega)]
      refine wp_st 2 (f' := (63, [some (.ref (r)), some (.int (sb_i nu)), some (.int (Int32.ofNat (sb_re 97 122 cs n a))), some (.int (Int32.ofNat ((sb_re 97 122 cs n a) - a)))], [.int (Int32.ofNat ((sb_re 97 122 cs n a) - a))], A22)) rfl ?_
      refine wp_iz rfl rfl rfl (fun (h28 : (Int32.ofNat ((sb_re 97 122 cs n a) - a)) = (Int32.ofNat 0)) => ?_) (fun (h28 : ¬ ((Int32.ofNat ((sb_re 97 122 cs n a) - a)) = (Int32.ofNat 0))) => ?_)
      · skip
        rw [i32_eq (by omega) (by omega)] at h28
        have h28e : sb_re 97 122 cs n a = a := by omega
        refine wp_st 1 (f' := (73, [some (.ref (r)), some (.int (sb_i nu)), some (.int (Int32.ofNat (sb_re 97 122 cs n a))), some (.int (Int32.ofNat ((sb_re 97 122 cs n a) - a)))], [.ref (r)], A22)) rfl ?_
        refine wp_gf rfl rfl h24.rc rfl rfl ?_
        refine wp_st 1 (f' := (77, [some (.ref (r)), some (.int (sb_i nu)), some (.int (Int32.ofNat (sb_re 97 122 cs n a))), some (.int (Int32.ofNat ((sb_re 97 122 cs n a) - a)))], [.int (Int32.ofNat ((sb_re 97 122 cs n a) - a)), .ref (t)], A22)) rfl ?_
        refine wp_izF rfl rfl (fun q => q ((i32_eq (a := (sb_re 97 122 cs n a) - a) (b := 0) (by omega) (by omega)).mpr (by omega))) ?_
        refine wp_st 1 (f' := (81, [some (.ref (r)), some (.int (sb_i nu)), some (.int (Int32.ofNat (sb_re 97 122 cs n a))), some (.int (Int32.ofNat ((sb_re 97 122 cs n a) - a)))], [.ref (r), .ref (t)], A22)) rfl ?_
        refine wp_gf rfl rfl h24.rc rfl rfl ?_
        refine wp_gf rfl rfl h24.tc rfl rfl ?_
        refine wp_st 1 (f' := (100, [some (.ref (r)), some (.int (sb_i nu)), some (.int (Int32.ofNat (sb_re 97 122 cs n a))), some (.int (Int32.ofNat ((sb_re 97 122 cs n a) - a)))], [.int (Int32.ofNat a), .ref (t)], A22)) rfl ?_
        obtain ⟨A29, g30, h31, f32⟩ := mi_refuse (d := d - 1) (x := Int32.ofNat a) h24
        have f33 := f26.trans f32
        refine wp_cv (A' := A29) (v := some (.int (Int32.ofNat 0))) rfl rfl rfl rfl rfl h24.tc (by omega) (g30) rfl ?_
        show am_wp d 57 (103, [some (.ref (r)), some (.int (sb_i nu)), some (.int (Int32.ofNat (sb_re 97 122 cs n a))), some (.int (Int32.ofNat ((sb_re 97 122 cs n a) - a)))], [.int (Int32.ofNat 0)], A29) _
        refine wp_st 2 (f' := (105, [some (.ref (r)), some (.int (sb_i nu)), some (.int (Int32.ofNat (sb_re 97 122 cs n a))), some (.int (Int32.ofNat ((sb_re 97 122 cs n a) - a)))], [.long (Int64.ofNat 0)], A29)) rfl ?_
        refine wp_rt rfl rfl rfl ?_
        have hres : rd_sel cs n nu a = .error (a) := by simp [rd_sel, true_and, and_true, and_false, false_and, b1, c2, h28e]
        rw [hres]
        exact ms_Q_er h31 f33
      · skip
        rw [i32_eq (by omega) (by omega)] at h28
        have h28e : ¬ sb_re 97 122 cs n a = a := by omega
        refine wp_st 2 (f' := (69, [some (.ref (r)), some (.int (sb_i nu)), some (.int (Int32.ofNat (sb_re 97 122 cs n a))), some (.int (Int32.ofNat ((sb_re 97 122 cs n a) - a)))], [.int (Int32.ofNat 6), .int (Int32.ofNat ((sb_re 97 122 cs n a) - a))], A22)) rfl ?_
        refine wp_if rfl rfl rfl (fun (h34 : (Int32.ofNat ((sb_re 97 122 cs n a) - a)) ≤ (Int32.ofNat 6)) => ?_) (fun (h34 : ¬ ((Int32.ofNat ((sb_re 97 122 cs n a) - a)) ≤ (Int32.ofNat 6))) => ?_)
        · skip
          rw [i32_le (by omega) (by omega)] at h34
          have h34e : ¬ 6 < sb_re 97 122 cs n a - a := by omega
          refine wp_st 1 (f' := (107, [some (.ref (r)), some (.int (sb_i nu)), some (.int (Int32.ofNat (sb_re 97 122 cs n a))), some (.int (Int32.ofNat ((sb_re 97 122 cs n a) - a)))], [.ref (r)], A22)) rfl ?_
          refine wp_gf rfl rfl h24.rc rfl rfl ?_
          refine wp_st 1 (f' := (111, [some (.ref (r)), some (.int (sb_i nu)), some (.int (Int32.ofNat (sb_re 97 122 cs n a))), some (.int (Int32.ofNat ((sb_re 97 122 cs n a) - a)))], [.int (Int32.ofNat (sb_re 97 122 cs n a)), .ref (t)], A22)) rfl ?_
          obtain ⟨A35, g36, h37, f38⟩ := mi_pack (d := d - 1) (e := sb_re 97 122 cs n a) (by omega) (by omega) h24
          have f39 := f26.trans f38
          refine wp_cv (A' := A35) (v := some (.long (sb_pk cs (sb_re 97 122 cs n a - a) a 0))) rfl rfl rfl rfl rfl h24.tc (by omega) (g36) rfl ?_
          show am_wp d 57 (114, [some (.ref (r)), some (.int (sb_i nu)), some (.int (Int32.ofNat (sb_re 97 122 cs n a))), some (.int (Int32.ofNat ((sb_re 97 122 cs n a) - a)))], [.long (sb_pk cs (sb_re 97 122 cs n a - a) a 0)], A35) _
          refine wp_rt rfl rfl rfl ?_
          have hres : rd_sel cs n nu a = .ok (sb_re 97 122 cs n a, sb_pk cs (sb_re 97 122 cs n a - a) a 0) := by simp [rd_sel, true_and, and_true, and_false, false_and, b1, c2, h28e, h34e]
          rw [hres]
          exact ms_Q_ok h37 f39
        · skip
          rw [i32_le (by omega) (by omega)] at h34
          have h34e : 6 < sb_re 97 122 cs n a - a := by omega
          refine wp_st 1 (f' := (73, [some (.ref (r)), some (.int (sb_i nu)), some (.int (Int32.ofNat (sb_re 97 122 cs n a))), some (.int (Int32.ofNat ((sb_re 97 122 cs n a) - a)))], [.ref (r)], A22)) rfl ?_
          refine wp_gf rfl rfl h24.rc rfl rfl ?_
          refine wp_st 1 (f' := (77, [some (.ref (r)), some (.int (sb_i nu)), some (.int (Int32.ofNat (sb_re 97 122 cs n a))), some (.int (Int32.ofNat ((sb_re 97 122 cs n a) - a)))], [.int (Int32.ofNat ((sb_re 97 122 cs n a) - a)), .ref (t)], A22)) rfl ?_
          refine wp_izT rfl rfl (fun q => absurd ((i32_eq (a := (sb_re 97 122 cs n a) - a) (b := 0) (by omega) (by omega)).mp q) (by omega)) ?_
          refine wp_st 1 (f' := (91, [some (.ref (r)), some (.int (sb_i nu)), some (.int (Int32.ofNat (sb_re 97 122 cs n a))), some (.int (Int32.ofNat ((sb_re 97 122 cs n a) - a)))], [.ref (r), .ref (t)], A22)) rfl ?_
          refine wp_gf rfl rfl h24.rc rfl rfl ?_
          refine wp_gf rfl rfl h24.tc rfl rfl ?_
          refine wp_st 2 (f' := (100, [some (.ref (r)), some (.int (sb_i nu)), some (.int (Int32.ofNat (sb_re 97 122 cs n a))), some (.int (Int32.ofNat ((sb_re 97 122 cs n a) - a)))], [.int ((Int32.ofNat a) + (Int32.ofNat 6)), .ref (t)], A22)) rfl ?_
          rw [i32_add (a) (6)]
          obtain ⟨A40, g41, h42, f43⟩ := mi_refuse (d := d - 1) (x := Int32.ofNat (a + 6)) h24
          have f44 := f26.trans f43
          refine wp_cv (A' := A40) (v := some (.int (Int32.ofNat 0))) rfl rfl rfl rfl rfl h24.tc (by omega) (g41) rfl ?_
          show am_wp d 57 (103, [some (.ref (r)), some (.int (sb_i nu)), some (.int (Int32.ofNat (sb_re 97 122 cs n a))), some (.int (Int32.ofNat ((sb_re 97 122 cs n a) - a)))], [.int (Int32.ofNat 0)], A40) _
          refine wp_st 2 (f' := (105, [some (.ref (r)), some (.int (sb_i nu)), some (.int (Int32.ofNat (sb_re 97 122 cs n a))), some (.int (Int32.ofNat ((sb_re 97 122 cs n a) - a)))], [.long (Int64.ofNat 0)], A40)) rfl ?_
          refine wp_rt rfl rfl rfl ?_
          have hres : rd_sel cs n nu a = .error (a + 6) := by simp [rd_sel, true_and, and_true, and_false, false_and, b1, c2, h28e, h34e]
          rw [hres]
          exact ms_Q_er h42 f44
  · skip
    have b1f : nu = false := by simpa using b1
    refine wp_izT rfl rfl (show sb_i nu = 0 from by rw [b1f]; decide) ?_
    refine wp_st 1 (f' := (41, [some (.ref (r)), some (.int (sb_i nu)), none, none], [.ref (r)], A)) rfl ?_
    refine wp_gf rfl rfl h.rc rfl rfl ?_
    refine wp_st 2 (f' := (48, [some (.ref (r)), some (.int (sb_i nu)), none, none], [.int (Int32.ofNat 122), .int (Int32.ofNat 97), .ref (t)], A)) rfl ?_
    have k45 := sb_re_le (lo := 97) (hi := 122) (cs := cs) (n := n) (a := a)
    have k45a := k45.2.1 (by omega)
    refine wp_cv (A' := A) (v := some (.int (Int32.ofNat (sb_re 97 122 cs n a)))) rfl rfl rfl rfl rfl h.tc (by omega) (mi_row (by omega) (by omega) h) rfl ?_
    show am_wp d 57 (51, [some (.ref (r)), some (.int (sb_i nu)), none, none], [.int (Int32.ofNat (sb_re 97 122 cs n a))], A) _
    refine wp_st 3 (f' := (54, [some (.ref (r)), some (.int (sb_i nu)), some (.int (Int32.ofNat (sb_re 97 122 cs n a))), none], [.ref (r), .int (Int32.ofNat (sb_re 97 122 cs n a))], A)) rfl ?_
    refine wp_gf rfl rfl h.rc rfl rfl ?_
    refine wp_gf rfl rfl h.tc rfl rfl ?_
    refine wp_st 1 (f' := (61, [some (.ref (r)), some (.int (sb_i nu)), some (.int (Int32.ofNat (sb_re 97 122 cs n a))), none], [.int ((Int32.ofNat (sb_re 97 122 cs n a)) - (Int32.ofNat a))], A)) rfl ?_
    rw [i32_sub (a := sb_re 97 122 cs n a) (b := a) (by omega)]
    refine wp_st 2 (f' := (63, [some (.ref (r)), some (.int (sb_i nu)), some (.int (Int32.ofNat (sb_re 97 122 cs n a))), some (.int (Int32.ofNat ((sb_re 97 122 cs n a) - a)))], [.int (Int32.ofNat ((sb_re 97 122 cs n a) - a))], A)) rfl ?_
    refine wp_iz rfl rfl rfl (fun (h46 : (Int32.ofNat ((sb_re 97 122 cs n a) - a)) = (Int32.ofNat 0)) => ?_) (fun (h46 : ¬ ((Int32.ofNat ((sb_re 97 122 cs n a) - a)) = (Int32.ofNat 0))) => ?_)
    · skip
      rw [i32_eq (by omega) (by omega)] at h46
      have h46e : sb_re 97 122 cs n a = a := by omega
      refine wp_st 1 (f' := (73, [some (.ref (r)), some (.int (sb_i nu)), some (.int (Int32.ofNat (sb_re 97 122 cs n a))), some (.int (Int32.ofNat ((sb_re 97 122 cs n a) - a)))], [.ref (r)], A)) rfl ?_
      refine wp_gf rfl rfl h.rc rfl rfl ?_
      refine wp_st 1 (f' := (77, [some (.ref (r)), some (.int (sb_i nu)), some (.int (Int32.ofNat (sb_re 97 122 cs n a))), some (.int (Int32.ofNat ((sb_re 97 122 cs n a) - a)))], [.int (Int32.ofNat ((sb_re 97 122 cs n a) - a)), .ref (t)], A)) rfl ?_
      refine wp_izF rfl rfl (fun q => q ((i32_eq (a := (sb_re 97 122 cs n a) - a) (b := 0) (by omega) (by omega)).mpr (by omega))) ?_
      refine wp_st 1 (f' := (81, [some (.ref (r)), some (.int (sb_i nu)), some (.int (Int32.ofNat (sb_re 97 122 cs n a))), some (.int (Int32.ofNat ((sb_re 97 122 cs n a) - a)))], [.ref (r), .ref (t)], A)) rfl ?_
      refine wp_gf rfl rfl h.rc rfl rfl ?_
      refine wp_gf rfl rfl h.tc rfl rfl ?_
      refine wp_st 1 (f' := (100, [some (.ref (r)), some (.int (sb_i nu)), some (.int (Int32.ofNat (sb_re 97 122 cs n a))), some (.int (Int32.ofNat ((sb_re 97 122 cs n a) - a)))], [.int (Int32.ofNat a), .ref (t)], A)) rfl ?_
      obtain ⟨A47, g48, h49, f50⟩ := mi_refuse (d := d - 1) (x := Int32.ofNat a) h
      have f51 := (mr_F.refl A t m).trans f50
      refine wp_cv (A' := A47) (v := some (.int (Int32.ofNat 0))) rfl rfl rfl rfl rfl h.tc (by omega) (g48) rfl ?_
      show am_wp d 57 (103, [some (.ref (r)), some (.int (sb_i nu)), some (.int (Int32.ofNat (sb_re 97 122 cs n a))), some (.int (Int32.ofNat ((sb_re 97 122 cs n a) - a)))], [.int (Int32.ofNat 0)], A47) _
      refine wp_st 2 (f' := (105, [some (.ref (r)), some (.int (sb_i nu)), some (.int (Int32.ofNat (sb_re 97 122 cs n a))), some (.int (Int32.ofNat ((sb_re 97 122 cs n a) - a)))], [.long (Int64.ofNat 0)], A47)) rfl ?_
      refine wp_rt rfl rfl rfl ?_
      have hres : rd_sel cs n nu a = .error (a) := by simp [rd_sel, true_and, and_true, and_false, false_and, b1, h46e]
      rw [hres]
      exact ms_Q_er h49 f51
    · skip
      rw [i32_eq (by omega) (by omega)] at h46
      have h46e : ¬ sb_re 97 122 cs n a = a := by omega
      refine wp_st 2 (f' := (69, [some (.ref (r)), some (.int (sb_i nu)), some (.int (Int32.ofNat (sb_re 97 122 cs n a))), some (.int (Int32.ofNat ((sb_re 97 122 cs n a) - a)))], [.int (Int32.ofNat 6), .int (Int32.ofNat ((sb_re 97 122 cs n a) - a))], A)) rfl ?_
      refine wp_if rfl rfl rfl (fun (h52 : (Int32.ofNat ((sb_re 97 122 cs n a) - a)) ≤ (Int32.ofNat 6)) => ?_) (fun (h52 : ¬ ((Int32.ofNat ((sb_re 97 122 cs n a) - a)) ≤ (Int32.ofNat 6))) => ?_)
      · skip
        rw [i32_le (by omega) (by omega)] at h52
        have h52e : ¬ 6 < sb_re 97 122 cs n a - a := by omega
        refine wp_st 1 (f' := (107, [some (.ref (r)), some (.int (sb_i nu)), some (.int (Int32.ofNat (sb_re 97 122 cs n a))), some (.int (Int32.ofNat ((sb_re 97 122 cs n a) - a)))], [.ref (r)], A)) rfl ?_
        refine wp_gf rfl rfl h.rc rfl rfl ?_
        refine wp_st 1 (f' := (111, [some (.ref (r)), some (.int (sb_i nu)), some (.int (Int32.ofNat (sb_re 97 122 cs n a))), some (.int (Int32.ofNat ((sb_re 97 122 cs n a) - a)))], [.int (Int32.ofNat (sb_re 97 122 cs n a)), .ref (t)], A)) rfl ?_
        obtain ⟨A53, g54, h55, f56⟩ := mi_pack (d := d - 1) (e := sb_re 97 122 cs n a) (by omega) (by omega) h
        have f57 := (mr_F.refl A t m).trans f56
        refine wp_cv (A' := A53) (v := some (.long (sb_pk cs (sb_re 97 122 cs n a - a) a 0))) rfl rfl rfl rfl rfl h.tc (by omega) (g54) rfl ?_
        show am_wp d 57 (114, [some (.ref (r)), some (.int (sb_i nu)), some (.int (Int32.ofNat (sb_re 97 122 cs n a))), some (.int (Int32.ofNat ((sb_re 97 122 cs n a) - a)))], [.long (sb_pk cs (sb_re 97 122 cs n a - a) a 0)], A53) _
        refine wp_rt rfl rfl rfl ?_
        have hres : rd_sel cs n nu a = .ok (sb_re 97 122 cs n a, sb_pk cs (sb_re 97 122 cs n a - a) a 0) := by simp [rd_sel, true_and, and_true, and_false, false_and, b1, h46e, h52e]
        rw [hres]
        exact ms_Q_ok h55 f57
      · skip
        rw [i32_le (by omega) (by omega)] at h52
        have h52e : 6 < sb_re 97 122 cs n a - a := by omega
        refine wp_st 1 (f' := (73, [some (.ref (r)), some (.int (sb_i nu)), some (.int (Int32.ofNat (sb_re 97 122 cs n a))), some (.int (Int32.ofNat ((sb_re 97 122 cs n a) - a)))], [.ref (r)], A)) rfl ?_
        refine wp_gf rfl rfl h.rc rfl rfl ?_
        refine wp_st 1 (f' := (77, [some (.ref (r)), some (.int (sb_i nu)), some (.int (Int32.ofNat (sb_re 97 122 cs n a))), some (.int (Int32.ofNat ((sb_re 97 122 cs n a) - a)))], [.int (Int32.ofNat ((sb_re 97 122 cs n a) - a)), .ref (t)], A)) rfl ?_
        refine wp_izT rfl rfl (fun q => absurd ((i32_eq (a := (sb_re 97 122 cs n a) - a) (b := 0) (by omega) (by omega)).mp q) (by omega)) ?_
        refine wp_st 1 (f' := (91, [some (.ref (r)), some (.int (sb_i nu)), some (.int (Int32.ofNat (sb_re 97 122 cs n a))), some (.int (Int32.ofNat ((sb_re 97 122 cs n a) - a)))], [.ref (r), .ref (t)], A)) rfl ?_
        refine wp_gf rfl rfl h.rc rfl rfl ?_
        refine wp_gf rfl rfl h.tc rfl rfl ?_
        refine wp_st 2 (f' := (100, [some (.ref (r)), some (.int (sb_i nu)), some (.int (Int32.ofNat (sb_re 97 122 cs n a))), some (.int (Int32.ofNat ((sb_re 97 122 cs n a) - a)))], [.int ((Int32.ofNat a) + (Int32.ofNat 6)), .ref (t)], A)) rfl ?_
        rw [i32_add (a) (6)]
        obtain ⟨A58, g59, h60, f61⟩ := mi_refuse (d := d - 1) (x := Int32.ofNat (a + 6)) h
        have f62 := (mr_F.refl A t m).trans f61
        refine wp_cv (A' := A58) (v := some (.int (Int32.ofNat 0))) rfl rfl rfl rfl rfl h.tc (by omega) (g59) rfl ?_
        show am_wp d 57 (103, [some (.ref (r)), some (.int (sb_i nu)), some (.int (Int32.ofNat (sb_re 97 122 cs n a))), some (.int (Int32.ofNat ((sb_re 97 122 cs n a) - a)))], [.int (Int32.ofNat 0)], A58) _
        refine wp_st 2 (f' := (105, [some (.ref (r)), some (.int (sb_i nu)), some (.int (Int32.ofNat (sb_re 97 122 cs n a))), some (.int (Int32.ofNat ((sb_re 97 122 cs n a) - a)))], [.long (Int64.ofNat 0)], A58)) rfl ?_
        refine wp_rt rfl rfl rfl ?_
        have hres : rd_sel cs n nu a = .error (a + 6) := by simp [rd_sel, true_and, and_true, and_false, false_and, b1, h46e, h52e]
        rw [hres]
        exact ms_Q_er h60 f62
