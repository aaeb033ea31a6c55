/-! Writer: values, arguments, parts. -/
theorem i32_self (x : Int32) : x = Int32.ofNat x.toUInt32.toNat := by
  have h1 : x.toUInt32.toInt32 = x := by simp
  exact h1.symm.trans (i32_of_u32 rfl)
theorem wi_val {d r m v q s0 s1 u n : Nat} {M : mg} {z len : Bool} {rs : List Nat} {xs : List sb_vt} {S0 S1 : rg} {w : List Nat} {A : am_H} {D0 l : Nat} {inner : wr_i} {vf : wr_v} {i kd : Nat} (hd : 6 ≤ d) (hd0 : D0 + 3 ≤ d) (hl : l ≤ 3) (hi : i < mg_P M) (hkd : mg_k M i = kd) (hv : vl_ok xs n vf) (hw0 : rg_wf S0) (hw1 : rg_wf S1) (hin : wr_in D0 l r m v q s0 s1 u M z rs xs n S0 S1 len inner) (hwf : mg_wf M) (h : wr_I A r m v q s0 s1 u M z rs xs n S0 S1 len w) : am_wp d 106 (0, am_ent 106 [.ref r, .int (Int32.ofNat i), .int (Int32.ofNat kd), .int (Int32.ofNat l)], [], A) (wr_Q A r m v q s0 s1 u M z rs xs n S0 S1 len w (wr_val M vf S0 S1 inner i w)) := by
  have hlw := h.lenw
  have hwi := hwf.1 i hi
  refine wp_st 1 (f' := (1, [some (.ref (r)), some (.int (Int32.ofNat i)), some (.int (Int32.ofNat kd)), some (.int (Int32.ofNat l)), none, none], [.ref (r)], A)) rfl ?_
  refine wp_gf rfl rfl h.rc rfl rfl ?_
  refine wp_st 1 (f' := (5, [some (.ref (r)), some (.int (Int32.ofNat i)), some (.int (Int32.ofNat kd)), some (.int (Int32.ofNat l)), none, none], [.ref (r), .ref (v)], A)) rfl ?_
  refine wp_gf rfl rfl h.rc rfl rfl ?_
  refine wp_gf rfl rfl h.mc rfl rfl ?_
  refine wp_st 1 (f' := (12, [some (.ref (r)), some (.int (Int32.ofNat i)), some (.int (Int32.ofNat kd)), some (.int (Int32.ofNat l)), none, none], [.int (Int32.ofNat i), .ref (m + 2), .ref (v)], A)) rfl ?_
  refine wp_mgc h.N rfl (by omega) rfl ?_
  have hv9 := hv (mg_c M i)
  rcases hvf : vf (mg_c M i) with _ | (p | ⟨y0, k0⟩)
  · skip
    rw [hvf] at hv9
    dsimp only at hv9
    refine wp_cv (A' := A) (v := some (.null)) rfl rfl rfl rfl rfl h.vv (by omega) (vl_find0 (by omega) hv9 h.V) rfl ?_
    show am_wp d 106 (16, [some (.ref (r)), some (.int (Int32.ofNat i)), some (.int (Int32.ofNat kd)), some (.int (Int32.ofNat l)), none, none], [.null], A) _
    refine wp_st 4 (f' := (24, [some (.ref (r)), some (.int (Int32.ofNat i)), some (.int (Int32.ofNat kd)), some (.int (Int32.ofNat l)), some (.null), none], [.int (Int32.ofNat 1)], A)) rfl ?_
    refine wp_rt rfl rfl rfl ?_
    have hres : wr_val M vf S0 S1 inner i w = .error 1 := by first | (exfalso; omega) | simp [wr_val, hkd, hvf]
    rw [hres]
    exact wr_Q_er (by omega) (fun _ => (List.prefix_refl w)) h (wr_F.refl A s0 s1 u)
  · skip
    rw [hvf] at hv9
    dsimp only at hv9
    obtain ⟨j, sc, hj, hpl, hxj, hp9⟩ := hv9
    refine wp_cv (A' := A) (v := some (.ref (rs.getD j 0))) rfl rfl rfl rfl rfl h.vv (by omega) (vl_find1 (by omega) hj hpl h.V) rfl ?_
    show am_wp d 106 (16, [some (.ref (r)), some (.int (Int32.ofNat i)), some (.int (Int32.ofNat kd)), some (.int (Int32.ofNat l)), none, none], [.ref (rs.getD j 0)], A) _
    refine wp_st 5 (f' := (28, [some (.ref (r)), some (.int (Int32.ofNat i)), some (.int (Int32.ofNat kd)), some (.int (Int32.ofNat l)), some (.ref (rs.getD j 0)), none], [.int (Int32.ofNat 6), .int (Int32.ofNat kd)], A)) rfl ?_
    refine wp_if rfl rfl rfl (fun (h1 : (Int32.ofNat kd) ≠ (Int32.ofNat 6)) => ?_) (fun (h1 : ¬ ((Int32.ofNat kd) ≠ (Int32.ofNat 6))) => ?_)
    · skip
      rw [ne_eq, i32_eq (by omega) (by omega)] at h1
      refine wp_st 2 (f' := (42, [some (.ref (r)), some (.int (Int32.ofNat i)), some (.int (Int32.ofNat kd)), some (.int (Int32.ofNat l)), some (.ref (rs.getD j 0)), none], [.int (Int32.ofNat 2), .int (Int32.ofNat kd)], A)) rfl ?_
      refine wp_if rfl rfl rfl (fun (h2 : (Int32.ofNat kd) = (Int32.ofNat 2)) => ?_) (fun (h2 : ¬ ((Int32.ofNat kd) = (Int32.ofNat 2))) => ?_)
      · skip
        rw [i32_eq (by omega) (by omega)] at h2
        refine wp_st 3 (f' := (59, [some (.ref (r)), some (.int (Int32.ofNat i)), some (.int (Int32.ofNat kd)), some (.int (Int32.ofNat l)), some (.ref (rs.getD j 0)), some (.int (Int32.ofNat 0))], [.ref (rs.getD j 0)], A)) rfl ?_
        refine wp_gf rfl rfl (h.vc hj hxj) rfl rfl ?_
        refine wp_izF rfl rfl (show ¬ ((Int32.ofNat 1) = (Int32.ofNat 0)) from by decide) ?_
        refine wp_st 1 (f' := (67, [some (.ref (r)), some (.int (Int32.ofNat i)), some (.int (Int32.ofNat kd)), some (.int (Int32.ofNat l)), some (.ref (rs.getD j 0)), some (.int (Int32.ofNat 0))], [.int (Int32.ofNat 0)], A)) rfl ?_
        refine wp_izT rfl rfl (show (Int32.ofNat 0) = (Int32.ofNat 0) from by decide) ?_
        refine wp_st 1 (f' := (75, [some (.ref (r)), some (.int (Int32.ofNat i)), some (.int (Int32.ofNat kd)), some (.int (Int32.ofNat l)), some (.ref (rs.getD j 0)), some (.int (Int32.ofNat 0))], [.ref (r)], A)) rfl ?_
        refine wp_gf rfl rfl h.rc rfl rfl ?_
        refine wp_st 1 (f' := (80, [some (.ref (r)), some (.int (Int32.ofNat i)), some (.int (Int32.ofNat kd)), some (.int (Int32.ofNat l)), some (.ref (rs.getD j 0)), some (.int (Int32.ofNat 0))], [.ref (rs.getD j 0), .ref (u)], A)) rfl ?_
        refine wp_gf rfl rfl (h.vc hj hxj) rfl rfl ?_
        refine wp_st 2 (f' := (85, [some (.ref (r)), some (.int (Int32.ofNat i)), some (.int (Int32.ofNat kd)), some (.int (Int32.ofNat l)), some (.ref (rs.getD j 0)), some (.int (Int32.ofNat 0))], [.int (Int32.ofNat 5), .int (Int32.ofNat kd), .long (Int64.ofNat p), .ref (u)], A)) rfl ?_
        refine wp_if rfl rfl rfl (fun (h3 : (Int32.ofNat kd) ≠ (Int32.ofNat 5)) => ?_) (fun (h3 : ¬ ((Int32.ofNat kd) ≠ (Int32.ofNat 5))) => ?_)
        · skip
          rw [ne_eq, i32_eq (by omega) (by omega)] at h3
          refine wp_st 1 (f' := (93, [some (.ref (r)), some (.int (Int32.ofNat i)), some (.int (Int32.ofNat kd)), some (.int (Int32.ofNat l)), some (.ref (rs.getD j 0)), some (.int (Int32.ofNat 0))], [.int (Int32.ofNat 0), .long (Int64.ofNat p), .ref (u)], A)) rfl ?_
          rcases hk93 : wr_put w (sb_pt (Int64.ofNat p) false 4) with c93 | y93
          · skip
            obtain rfl := wr_put_er hk93
            obtain ⟨w8, A4, p9, c10, g5, h6, f7⟩ := wr_Q0 (wr_w h (op_pk (d := d - 1) (up := false) (by omega) h.O)) hk93
            have f11 := (wr_F.refl A s0 s1 u).trans f7
            have p12 : 3 ≠ 3 → w <+: w8 := fun e => (List.prefix_refl w).trans (p9 e)
            refine wp_cv (A' := A4) (v := some (.int (Int32.ofNat 3))) rfl rfl rfl rfl rfl h.oc (by omega) (g5) rfl ?_
            show am_wp d 106 (96, [some (.ref (r)), some (.int (Int32.ofNat i)), some (.int (Int32.ofNat kd)), some (.int (Int32.ofNat l)), some (.ref (rs.getD j 0)), some (.int (Int32.ofNat 0))], [.int (Int32.ofNat 3)], A4) _
            refine wp_rt rfl rfl rfl ?_
            have hres : wr_val M vf S0 S1 inner i w = .error 3 := by first | (exfalso; omega) | simp [wr_val, hkd, hvf, h1, h2, h3, hk93]
            rw [hres]
            exact wr_Q_er (by omega) p12 h6 f11
          · skip
            obtain ⟨A13, g14, h15, f16⟩ := wr_Q1 (wr_w h (op_pk (d := d - 1) (up := false) (by omega) h.O)) hk93
            have f17 := (wr_F.refl A s0 s1 u).trans f16
            have p18 := (List.prefix_refl w).trans (wr_put_ok hk93)
            refine wp_cv (A' := A13) (v := some (.int (Int32.ofNat 0))) rfl rfl rfl rfl rfl h.oc (by omega) (g14) rfl ?_
            show am_wp d 106 (96, [some (.ref (r)), some (.int (Int32.ofNat i)), some (.int (Int32.ofNat kd)), some (.int (Int32.ofNat l)), some (.ref (rs.getD j 0)), some (.int (Int32.ofNat 0))], [.int (Int32.ofNat 0)], A13) _
            refine wp_rt rfl rfl rfl ?_
            have hres : wr_val M vf S0 S1 inner i w = .ok y93 := by first | (exfalso; omega) | simp [wr_val, hkd, hvf, h1, h2, h3, hk93]
            rw [hres]
            exact wr_Q_ok h15 f17
        · skip
          rw [ne_eq, i32_eq (by omega) (by omega)] at h3
          replace h3 := Decidable.not_not.mp h3
          refine wp_st 2 (f' := (93, [some (.ref (r)), some (.int (Int32.ofNat i)), some (.int (Int32.ofNat kd)), some (.int (Int32.ofNat l)), some (.ref (rs.getD j 0)), some (.int (Int32.ofNat 0))], [.int (Int32.ofNat 1), .long (Int64.ofNat p), .ref (u)], A)) rfl ?_
          rcases hk93 : wr_put w (sb_pt (Int64.ofNat p) true 4) with c93 | y93
          · skip
            obtain rfl := wr_put_er hk93
            obtain ⟨w23, A19, p24, c25, g20, h21, f22⟩ := wr_Q0 (wr_w h (op_pk (d := d - 1) (up := true) (by omega) h.O)) hk93
            have f26 := (wr_F.refl A s0 s1 u).trans f22
            have p27 : 3 ≠ 3 → w <+: w23 := fun e => (List.prefix_refl w).trans (p24 e)
            refine wp_cv (A' := A19) (v := some (.int (Int32.ofNat 3))) rfl rfl rfl rfl rfl h.oc (by omega) (g20) rfl ?_
            show am_wp d 106 (96, [some (.ref (r)), some (.int (Int32.ofNat i)), some (.int (Int32.ofNat kd)), some (.int (Int32.ofNat l)), some (.ref (rs.getD j 0)), some (.int (Int32.ofNat 0))], [.int (Int32.ofNat 3)], A19) _
            refine wp_rt rfl rfl rfl ?_
            have hres : wr_val M vf S0 S1 inner i w = .error 3 := by first | (exfalso; omega) | simp [wr_val, hkd, hvf, h1, h2, h3, hk93]
            rw [hres]
            exact wr_Q_er (by omega) p27 h21 f26
          · skip
            obtain ⟨A28, g29, h30, f31⟩ := wr_Q1 (wr_w h (op_pk (d := d - 1) (up := true) (by omega) h.O)) hk93
            have f32 := (wr_F.refl A s0 s1 u).trans f31
            have p33 := (List.prefix_refl w).trans (wr_put_ok hk93)
            refine wp_cv (A' := A28) (v := some (.int (Int32.ofNat 0))) rfl rfl rfl rfl rfl h.oc (by omega) (g29) rfl ?_
            show am_wp d 106 (96, [some (.ref (r)), some (.int (Int32.ofNat i)), some (.int (Int32.ofNat kd)), some (.int (Int32.ofNat l)), some (.ref (rs.getD j 0)), some (.int (Int32.ofNat 0))], [.int (Int32.ofNat 0)], A28) _
            refine wp_rt rfl rfl rfl ?_
            have hres : wr_val M vf S0 S1 inner i w = .ok y93 := by first | (exfalso; omega) | simp [wr_val, hkd, hvf, h1, h2, h3, hk93]
            rw [hres]
            exact wr_Q_ok h30 f32
      · skip
        rw [i32_eq (by omega) (by omega)] at h2
        refine wp_st 2 (f' := (47, [some (.ref (r)), some (.int (Int32.ofNat i)), some (.int (Int32.ofNat kd)), some (.int (Int32.ofNat l)), some (.ref (rs.getD j 0)), none], [.int (Int32.ofNat 5), .int (Int32.ofNat kd)], A)) rfl ?_
        refine wp_if rfl rfl rfl (fun (h34 : (Int32.ofNat kd) = (Int32.ofNat 5)) => ?_) (fun (h34 : ¬ ((Int32.ofNat kd) = (Int32.ofNat 5))) => ?_)
        · skip
          rw [i32_eq (by omega) (by omega)] at h34
          refine wp_st 3 (f' := (59, [some (.ref (r)), some (.int (Int32.ofNat i)), some (.int (Int32.ofNat kd)), some (.int (Int32.ofNat l)), some (.ref (rs.getD j 0)), some (.int (Int32.ofNat 0))], [.ref (rs.getD j 0)], A)) rfl ?_
          refine wp_gf rfl rfl (h.vc hj hxj) rfl rfl ?_
          refine wp_izF rfl rfl (show ¬ ((Int32.ofNat 1) = (Int32.ofNat 0)) from by decide) ?_
          refine wp_st 1 (f' := (67, [some (.ref (r)), some (.int (Int32.ofNat i)), some (.int (Int32.ofNat kd)), some (.int (Int32.ofNat l)), some (.ref (rs.getD j 0)), some (.int (Int32.ofNat 0))], [.int (Int32.ofNat 0)], A)) rfl ?_
          refine wp_izT rfl rfl (show (Int32.ofNat 0) = (Int32.ofNat 0) from by decide) ?_
          refine wp_st 1 (f' := (75, [some (.ref (r)), some (.int (Int32.ofNat i)), some (.int (Int32.ofNat kd)), some (.int (Int32.ofNat l)), some (.ref (rs.getD j 0)), some (.int (Int32.ofNat 0))], [.ref (r)], A)) rfl ?_
          refine wp_gf rfl rfl h.rc rfl rfl ?_
          refine wp_st 1 (f' := (80, [some (.ref (r)), some (.int (Int32.ofNat i)), some (.int (Int32.ofNat kd)), some (.int (Int32.ofNat l)), some (.ref (rs.getD j 0)), some (.int (Int32.ofNat 0))], [.ref (rs.getD j 0), .ref (u)], A)) rfl ?_
          refine wp_gf rfl rfl (h.vc hj hxj) rfl rfl ?_
          refine wp_st 2 (f' := (85, [some (.ref (r)), some (.int (Int32.ofNat i)), some (.int (Int32.ofNat kd)), some (.int (Int32.ofNat l)), some (.ref (rs.getD j 0)), some (.int (Int32.ofNat 0))], [.int (Int32.ofNat 5), .int (Int32.ofNat kd), .long (Int64.ofNat p), .ref (u)], A)) rfl ?_
          refine wp_if rfl rfl rfl (fun (h35 : (Int32.ofNat kd) ≠ (Int32.ofNat 5)) => ?_) (fun (h35 : ¬ ((Int32.ofNat kd) ≠ (Int32.ofNat 5))) => ?_)
          · skip
            rw [ne_eq, i32_eq (by omega) (by omega)] at h35
            refine wp_st 1 (f' := (93, [some (.ref (r)), some (.int (Int32.ofNat i)), some (.int (Int32.ofNat kd)), some (.int (Int32.ofNat l)), some (.ref (rs.getD j 0)), some (.int (Int32.ofNat 0))], [.int (Int32.ofNat 0), .long (Int64.ofNat p), .ref (u)], A)) rfl ?_
            rcases hk93 : wr_put w (sb_pt (Int64.ofNat p) false 4) with c93 | y93
            · skip
              obtain rfl := wr_put_er hk93
              obtain ⟨w40, A36, p41, c42, g37, h38, f39⟩ := wr_Q0 (wr_w h (op_pk (d := d - 1) (up := false) (by omega) h.O)) hk93
              have f43 := (wr_F.refl A s0 s1 u).trans f39
              have p44 : 3 ≠ 3 → w <+: w40 := fun e => (List.prefix_refl w).trans (p41 e)
              refine wp_cv (A' := A36) (v := some (.int (Int32.ofNat 3))) rfl rfl rfl rfl rfl h.oc (by omega) (g37) rfl ?_
              show am_wp d 106 (96, [some (.ref (r)), some (.int (Int32.ofNat i)), some (.int (Int32.ofNat kd)), some (.int (Int32.ofNat l)), some (.ref (rs.getD j 0)), some (.int (Int32.ofNat 0))], [.int (Int32.ofNat 3)], A36) _
              refine wp_rt rfl rfl rfl ?_
              have hres : wr_val M vf S0 S1 inner i w = .error 3 := by first | (exfalso; omega) | simp [wr_val, hkd, hvf, h1, h2, h34, h35, hk93]
              rw [hres]
              exact wr_Q_er (by omega) p44 h38 f43
            · skip
              obtain ⟨A45, g46, h47, f48⟩ := wr_Q1 (wr_w h (op_pk (d := d - 1) (up := false) (by omega) h.O)) hk93
              have f49 := (wr_F.refl A s0 s1 u).trans f48
              have p50 := (List.prefix_refl w).trans (wr_put_ok hk93)
              refine wp_cv (A' := A45) (v := some (.int (Int32.ofNat 0))) rfl rfl rfl rfl rfl h.oc (by omega) (g46) rfl ?_
              show am_wp d 106 (96, [some (.ref (r)), some (.int (Int32.ofNat i)), some (.int (Int32.ofNat kd)), some (.int (Int32.ofNat l)), some (.ref (rs.getD j 0)), some (.int (Int32.ofNat 0))], [.int (Int32.ofNat 0)], A45) _
              refine wp_rt rfl rfl rfl ?_
              have hres : wr_val M vf S0 S1 inner i w = .ok y93 := by first | (exfalso; omega) | simp [wr_val, hkd, hvf, h1, h2, h34, h35, hk93]
              rw [hres]
              exact wr_Q_ok h47 f49
          · skip
            rw [ne_eq, i32_eq (by omega) (by omega)] at h35
            replace h35 := Decidable.not_not.mp h35
            refine wp_st 2 (f' := (93, [some (.ref (r)), some (.int (Int32.ofNat i)), some (.int (Int32.ofNat kd)), some (.int (Int32.ofNat l)), some (.ref (rs.getD j 0)), some (.int (Int32.ofNat 0))], [.int (Int32.ofNat 1), .long (Int64.ofNat p), .ref (u)], A)) rfl ?_
            rcases hk93 : wr_put w (sb_pt (Int64.ofNat p) true 4) with c93 | y93
            · skip
              obtain rfl := wr_put_er hk93
              obtain ⟨w55, A51, p56, c57, g52, h53, f54⟩ := wr_Q0 (wr_w h (op_pk (d := d - 1) (up := true) (by omega) h.O)) hk93
              have f58 := (wr_F.refl A s0 s1 u).trans f54
              have p59 : 3 ≠ 3 → w <+: w55 := fun e => (List.prefix_refl w).trans (p56 e)
              refine wp_cv (A' := A51) (v := some (.int (Int32.ofNat 3))) rfl rfl rfl rfl rfl h.oc (by omega) (g52) rfl ?_
              show am_wp d 106 (96, [some (.ref (r)), some (.int (Int32.ofNat i)), some (.int (Int32.ofNat kd)), some (.int (Int32.ofNat l)), some (.ref (rs.getD j 0)), some (.int (Int32.ofNat 0))], [.int (Int32.ofNat 3)], A51) _
              refine wp_rt rfl rfl rfl ?_
              have hres : wr_val M vf S0 S1 inner i w = .error 3 := by first | (exfalso; omega) | simp [wr_val, hkd, hvf, h1, h2, h34, h35, hk93]
              rw [hres]
              exact wr_Q_er (by omega) p59 h53 f58
            · skip
              obtain ⟨A60, g61, h62, f63⟩ := wr_Q1 (wr_w h (op_pk (d := d - 1) (up := true) (by omega) h.O)) hk93
              have f64 := (wr_F.refl A s0 s1 u).trans f63
              have p65 := (List.prefix_refl w).trans (wr_put_ok hk93)
              refine wp_cv (A' := A60) (v := some (.int (Int32.ofNat 0))) rfl rfl rfl rfl rfl h.oc (by omega) (g61) rfl ?_
              show am_wp d 106 (96, [some (.ref (r)), some (.int (Int32.ofNat i)), some (.int (Int32.ofNat kd)), some (.int (Int32.ofNat l)), some (.ref (rs.getD j 0)), some (.int (Int32.ofNat 0))], [.int (Int32.ofNat 0)], A60) _
              refine wp_rt rfl rfl rfl ?_
              have hres : wr_val M vf S0 S1 inner i w = .ok y93 := by first | (exfalso; omega) | simp [wr_val, hkd, hvf, h1, h2, h34, h35, hk93]
              rw [hres]
              exact wr_Q_ok h62 f64
        · skip
          rw [i32_eq (by omega) (by omega)] at h34
          refine wp_st 4 (f' := (59, [some (.ref (r)), some (.int (Int32.ofNat i)), some (.int (Int32.ofNat kd)), some (.int (Int32.ofNat l)), some (.ref (rs.getD j 0)), some (.int (Int32.ofNat 1))], [.ref (rs.getD j 0)], A)) rfl ?_
          refine wp_gf rfl rfl (h.vc hj hxj) rfl rfl ?_
          refine wp_izF rfl rfl (show ¬ ((Int32.ofNat 1) = (Int32.ofNat 0)) from by decide) ?_
          refine wp_st 1 (f' := (67, [some (.ref (r)), some (.int (Int32.ofNat i)), some (.int (Int32.ofNat kd)), some (.int (Int32.ofNat l)), some (.ref (rs.getD j 0)), some (.int (Int32.ofNat 1))], [.int (Int32.ofNat 1)], A)) rfl ?_
          refine wp_izF rfl rfl (show ¬ ((Int32.ofNat 1) = (Int32.ofNat 0)) from by decide) ?_
          refine wp_st 2 (f' := (96, [some (.ref (r)), some (.int (Int32.ofNat i)), some (.int (Int32.ofNat kd)), some (.int (Int32.ofNat l)), some (.ref (rs.getD j 0)), some (.int (Int32.ofNat 1))], [.int (Int32.ofNat 2)], A)) rfl ?_
          refine wp_rt rfl rfl rfl ?_
          have hres : wr_val M vf S0 S1 inner i w = .error 2 := by first | (exfalso; omega) | simp [wr_val, hkd, hvf, h1, h2, h34]
          rw [hres]
          exact wr_Q_er (by omega) (fun _ => (List.prefix_refl w)) h (wr_F.refl A s0 s1 u)
    · skip
      rw [ne_eq, i32_eq (by omega) (by omega)] at h1
      replace h1 := Decidable.not_not.mp h1
      refine wp_st 4 (f' := (36, [some (.ref (r)), some (.int (Int32.ofNat i)), some (.int (Int32.ofNat kd)), some (.int (Int32.ofNat l)), some (.ref (rs.getD j 0)), none], [.int (Int32.ofNat l), .ref (rs.getD j 0), .int (Int32.ofNat i), .ref (r)], A)) rfl ?_
      rcases hs9 : wr_br M inner (wr_selb M i (.inl p)) 0 0 w with c9 | w9
      · skip
        obtain ⟨w70, A66, p71, c72, g67, h68, f69⟩ := wr_Q0 (wi_sel1 (d := d - 1) (D0 := D0) (l := l) (inner := inner) (i := i) (j := j) (c := 0) (by omega) (by omega) (by omega) (by omega) hj hxj hin hwf h) hs9
        have f73 := (wr_F.refl A s0 s1 u).trans f69
        have p74 : c9 ≠ 3 → w <+: w70 := fun e => (List.prefix_refl w).trans (p71 e)
        refine wp_cv (A' := A66) (v := some (.int (Int32.ofNat c9))) rfl rfl rfl rfl rfl h.rc (by omega) (g67) rfl ?_
        show am_wp d 106 (39, [some (.ref (r)), some (.int (Int32.ofNat i)), some (.int (Int32.ofNat kd)), some (.int (Int32.ofNat l)), some (.ref (rs.getD j 0)), none], [.int (Int32.ofNat c9)], A66) _
        refine wp_rt rfl rfl rfl ?_
        have hres : wr_val M vf S0 S1 inner i w = .error c9 := by first | (exfalso; omega) | simp [wr_val, hkd, hvf, h1, hs9]
        rw [hres]
        exact wr_Q_er c72 p74 h68 f73
      · skip
        obtain ⟨A75, g76, h77, f78⟩ := wr_Q1 (wi_sel1 (d := d - 1) (D0 := D0) (l := l) (inner := inner) (i := i) (j := j) (c := 0) (by omega) (by omega) (by omega) (by omega) hj hxj hin hwf h) hs9
        have f79 := (wr_F.refl A s0 s1 u).trans f78
        refine wp_cv (A' := A75) (v := some (.int (Int32.ofNat 0))) rfl rfl rfl rfl rfl h.rc (by omega) (g76) rfl ?_
        show am_wp d 106 (39, [some (.ref (r)), some (.int (Int32.ofNat i)), some (.int (Int32.ofNat kd)), some (.int (Int32.ofNat l)), some (.ref (rs.getD j 0)), none], [.int (Int32.ofNat 0)], A75) _
        refine wp_rt rfl rfl rfl ?_
        have hres : wr_val M vf S0 S1 inner i w = .ok w9 := by first | (exfalso; omega) | simp [wr_val, hkd, hvf, h1, hs9]
        rw [hres]
        exact wr_Q_ok h77 f79
  · skip
    rw [hvf] at hv9
    dsimp only at hv9
    obtain ⟨j, hj, hpl, hxj, hyb, hkb⟩ := hv9
    refine wp_cv (A' := A) (v := some (.ref (rs.getD j 0))) rfl rfl rfl rfl rfl h.vv (by omega) (vl_find1 (by omega) hj hpl h.V) rfl ?_
    show am_wp d 106 (16, [some (.ref (r)), some (.int (Int32.ofNat i)), some (.int (Int32.ofNat kd)), some (.int (Int32.ofNat l)), none, none], [.ref (rs.getD j 0)], A) _
    refine wp_st 5 (f' := (28, [some (.ref (r)), some (.int (Int32.ofNat i)), some (.int (Int32.ofNat kd)), some (.int (Int32.ofNat l)), some (.ref (rs.getD j 0)), none], [.int (Int32.ofNat 6), .int (Int32.ofNat kd)], A)) rfl ?_
    refine wp_if rfl rfl rfl (fun (h80 : (Int32.ofNat kd) ≠ (Int32.ofNat 6)) => ?_) (fun (h80 : ¬ ((Int32.ofNat kd) ≠ (Int32.ofNat 6))) => ?_)
    · skip
      rw [ne_eq, i32_eq (by omega) (by omega)] at h80
      refine wp_st 2 (f' := (42, [some (.ref (r)), some (.int (Int32.ofNat i)), some (.int (Int32.ofNat kd)), some (.int (Int32.ofNat l)), some (.ref (rs.getD j 0)), none], [.int (Int32.ofNat 2), .int (Int32.ofNat kd)], A)) rfl ?_
      refine wp_if rfl rfl rfl (fun (h81 : (Int32.ofNat kd) = (Int32.ofNat 2)) => ?_) (fun (h81 : ¬ ((Int32.ofNat kd) = (Int32.ofNat 2))) => ?_)
      · skip
        rw [i32_eq (by omega) (by omega)] at h81
        refine wp_st 3 (f' := (59, [some (.ref (r)), some (.int (Int32.ofNat i)), some (.int (Int32.ofNat kd)), some (.int (Int32.ofNat l)), some (.ref (rs.getD j 0)), some (.int (Int32.ofNat 0))], [.ref (rs.getD j 0)], A)) rfl ?_
        refine wp_gf rfl rfl (h.vc hj hxj) rfl rfl ?_
        refine wp_izT rfl rfl (show (Int32.ofNat 0) = (Int32.ofNat 0) from by decide) ?_
        refine wp_st 2 (f' := (99, [some (.ref (r)), some (.int (Int32.ofNat i)), some (.int (Int32.ofNat kd)), some (.int (Int32.ofNat l)), some (.ref (rs.getD j 0)), some (.int (Int32.ofNat 0))], [.int (Int32.ofNat 4), .int (Int32.ofNat kd)], A)) rfl ?_
        refine wp_if rfl rfl rfl (fun (h82 : (Int32.ofNat kd) ≠ (Int32.ofNat 4)) => ?_) (fun (h82 : ¬ ((Int32.ofNat kd) ≠ (Int32.ofNat 4))) => ?_)
        · skip
          rw [ne_eq, i32_eq (by omega) (by omega)] at h82
          refine wp_st 2 (f' := (130, [some (.ref (r)), some (.int (Int32.ofNat i)), some (.int (Int32.ofNat kd)), some (.int (Int32.ofNat l)), some (.ref (rs.getD j 0)), some (.int (Int32.ofNat 0))], [.int (Int32.ofNat 7), .int (Int32.ofNat kd)], A)) rfl ?_
          refine wp_if rfl rfl rfl (fun (h83 : (Int32.ofNat kd) = (Int32.ofNat 7)) => ?_) (fun (h83 : ¬ ((Int32.ofNat kd) = (Int32.ofNat 7))) => ?_)
          · skip
            rw [i32_eq (by omega) (by omega)] at h83
            refine wp_st 4 (f' := (144, [some (.ref (r)), some (.int (Int32.ofNat i)), some (.int (Int32.ofNat kd)), some (.int (Int32.ofNat l)), some (.ref (rs.getD j 0)), some (.int (Int32.ofNat 0))], [.int (Int32.ofNat l), .ref (rs.getD j 0), .int (Int32.ofNat i), .ref (r)], A)) rfl ?_
            rcases hs9 : wr_br M inner (wr_plub M S0 S1 i y0 k0) (wr_rest M i y0 k0) k0 w with c9 | w9
            · skip
              obtain ⟨w88, A84, p89, c90, g85, h86, f87⟩ := wr_Q0 (wi_plu (d := d - 1) (D0 := D0) (l := l) (inner := inner) (i := i) (j := j) (k := k0) (y := y0) (by omega) (by omega) (by omega) (by omega) hj hkb hyb hw0 hw1 hxj hin hwf h) hs9
              have f91 := (wr_F.refl A s0 s1 u).trans f87
              have p92 : c9 ≠ 3 → w <+: w88 := fun e => (List.prefix_refl w).trans (p89 e)
              refine wp_cv (A' := A84) (v := some (.int (Int32.ofNat c9))) rfl rfl rfl rfl rfl h.rc (by omega) (g85) rfl ?_
              show am_wp d 106 (147, [some (.ref (r)), some (.int (Int32.ofNat i)), some (.int (Int32.ofNat kd)), some (.int (Int32.ofNat l)), some (.ref (rs.getD j 0)), some (.int (Int32.ofNat 0))], [.int (Int32.ofNat c9)], A84) _
              refine wp_rt rfl rfl rfl ?_
              have hres : wr_val M vf S0 S1 inner i w = .error c9 := by first | (exfalso; omega) | simp [wr_val, hkd, hvf, h80, h81, h82, h83, hs9]
              rw [hres]
              exact wr_Q_er c90 p92 h86 f91
            · skip
              obtain ⟨A93, g94, h95, f96⟩ := wr_Q1 (wi_plu (d := d - 1) (D0 := D0) (l := l) (inner := inner) (i := i) (j := j) (k := k0) (y := y0) (by omega) (by omega) (by omega) (by omega) hj hkb hyb hw0 hw1 hxj hin hwf h) hs9
              have f97 := (wr_F.refl A s0 s1 u).trans f96
              refine wp_cv (A' := A93) (v := some (.int (Int32.ofNat 0))) rfl rfl rfl rfl rfl h.rc (by omega) (g94) rfl ?_
              show am_wp d 106 (147, [some (.ref (r)), some (.int (Int32.ofNat i)), some (.int (Int32.ofNat kd)), some (.int (Int32.ofNat l)), some (.ref (rs.getD j 0)), some (.int (Int32.ofNat 0))], [.int (Int32.ofNat 0)], A93) _
              refine wp_rt rfl rfl rfl ?_
              have hres : wr_val M vf S0 S1 inner i w = .ok w9 := by first | (exfalso; omega) | simp [wr_val, hkd, hvf, h80, h81, h82, h83, hs9]
              rw [hres]
              exact wr_Q_ok h95 f97
          · skip
            rw [i32_eq (by omega) (by omega)] at h83
            refine wp_st 2 (f' := (136, [some (.ref (r)), some (.int (Int32.ofNat i)), some (.int (Int32.ofNat kd)), some (.int (Int32.ofNat l)), some (.ref (rs.getD j 0)), some (.int (Int32.ofNat 0))], [.int (Int32.ofNat 8), .int (Int32.ofNat kd)], A)) rfl ?_
            refine wp_if rfl rfl rfl (fun (h98 : (Int32.ofNat kd) ≠ (Int32.ofNat 8)) => ?_) (fun (h98 : ¬ ((Int32.ofNat kd) ≠ (Int32.ofNat 8))) => ?_)
            · skip
              rw [ne_eq, i32_eq (by omega) (by omega)] at h98
              refine wp_st 1 (f' := (149, [some (.ref (r)), some (.int (Int32.ofNat i)), some (.int (Int32.ofNat kd)), some (.int (Int32.ofNat l)), some (.ref (rs.getD j 0)), some (.int (Int32.ofNat 0))], [.ref (r)], A)) rfl ?_
              refine wp_gf rfl rfl h.rc rfl rfl ?_
              refine wp_st 1 (f' := (154, [some (.ref (r)), some (.int (Int32.ofNat i)), some (.int (Int32.ofNat kd)), some (.int (Int32.ofNat l)), some (.ref (rs.getD j 0)), some (.int (Int32.ofNat 0))], [.ref (rs.getD j 0), .ref (u)], A)) rfl ?_
              refine wp_gf rfl rfl (h.vc hj hxj) rfl rfl ?_
              refine wp_st 1 (f' := (159, [some (.ref (r)), some (.int (Int32.ofNat i)), some (.int (Int32.ofNat kd)), some (.int (Int32.ofNat l)), some (.ref (rs.getD j 0)), some (.int (Int32.ofNat 0))], [.ref (rs.getD j 0), .long (Int64.ofInt y0), .ref (u)], A)) rfl ?_
              refine wp_gf rfl rfl (h.vc hj hxj) rfl rfl ?_
              refine wp_st 2 (f' := (164, [some (.ref (r)), some (.int (Int32.ofNat i)), some (.int (Int32.ofNat kd)), some (.int (Int32.ofNat l)), some (.ref (rs.getD j 0)), some (.int (Int32.ofNat 0))], [.int (Int32.ofNat 3), .int (Int32.ofNat kd), .int (Int32.ofNat k0), .long (Int64.ofInt y0), .ref (u)], A)) rfl ?_
              refine wp_if rfl rfl rfl (fun (h99 : (Int32.ofNat kd) ≠ (Int32.ofNat 3)) => ?_) (fun (h99 : ¬ ((Int32.ofNat kd) ≠ (Int32.ofNat 3))) => ?_)
              · skip
                rw [ne_eq, i32_eq (by omega) (by omega)] at h99
                refine wp_st 1 (f' := (172, [some (.ref (r)), some (.int (Int32.ofNat i)), some (.int (Int32.ofNat kd)), some (.int (Int32.ofNat l)), some (.ref (rs.getD j 0)), some (.int (Int32.ofNat 0))], [.int (Int32.ofNat 0), .int (Int32.ofNat k0), .long (Int64.ofInt y0), .ref (u)], A)) rfl ?_
                rcases hz172 : wr_put w (wr_dg y0 k0 false) with c172 | y172
                · skip
                  obtain rfl := wr_put_er hz172
                  obtain ⟨w104, A100, p105, c106, g101, h102, f103⟩ := wr_Q0 (wr_w h (op_z (d := d - 1) (z := y0) (k := k0) (g := false) (by omega) (by omega) (by omega) h.O h.K.ten)) hz172
                  have f107 := (wr_F.refl A s0 s1 u).trans f103
                  have p108 : 3 ≠ 3 → w <+: w104 := fun e => (List.prefix_refl w).trans (p105 e)
                  refine wp_cv (A' := A100) (v := some (.int (Int32.ofNat 3))) rfl rfl rfl rfl rfl h.oc (by omega) (g101) rfl ?_
                  show am_wp d 106 (175, [some (.ref (r)), some (.int (Int32.ofNat i)), some (.int (Int32.ofNat kd)), some (.int (Int32.ofNat l)), some (.ref (rs.getD j 0)), some (.int (Int32.ofNat 0))], [.int (Int32.ofNat 3)], A100) _
                  refine wp_rt rfl rfl rfl ?_
                  have hres : wr_val M vf S0 S1 inner i w = .error 3 := by first | (exfalso; omega) | simp [wr_val, hkd, hvf, h80, h81, h82, h83, h98, h99, hz172]
                  rw [hres]
                  exact wr_Q_er (by omega) p108 h102 f107
                · skip
                  obtain ⟨A109, g110, h111, f112⟩ := wr_Q1 (wr_w h (op_z (d := d - 1) (z := y0) (k := k0) (g := false) (by omega) (by omega) (by omega) h.O h.K.ten)) hz172
                  have f113 := (wr_F.refl A s0 s1 u).trans f112
                  have p114 := (List.prefix_refl w).trans (wr_put_ok hz172)
                  refine wp_cv (A' := A109) (v := some (.int (Int32.ofNat 0))) rfl rfl rfl rfl rfl h.oc (by omega) (g110) rfl ?_
                  show am_wp d 106 (175, [some (.ref (r)), some (.int (Int32.ofNat i)), some (.int (Int32.ofNat kd)), some (.int (Int32.ofNat l)), some (.ref (rs.getD j 0)), some (.int (Int32.ofNat 0))], [.int (Int32.ofNat 0)], A109) _
                  refine wp_rt rfl rfl rfl ?_
                  have hres : wr_val M vf S0 S1 inner i w = .ok y172 := by first | (exfalso; omega) | simp [wr_val, hkd, hvf, h80, h81, h82, h83, h98, h99, hz172]
                  rw [hres]
                  exact wr_Q_ok h111 f113
              · skip
                rw [ne_eq, i32_eq (by omega) (by omega)] at h99
                replace h99 := Decidable.not_not.mp h99
                refine wp_st 2 (f' := (172, [some (.ref (r)), some (.int (Int32.ofNat i)), some (.int (Int32.ofNat kd)), some (.int (Int32.ofNat l)), some (.ref (rs.getD j 0)), some (.int (Int32.ofNat 0))], [.int (Int32.ofNat 1), .int (Int32.ofNat k0), .long (Int64.ofInt y0), .ref (u)], A)) rfl ?_
                rcases hz172 : wr_put w (wr_dg y0 k0 true) with c172 | y172
                · skip
                  obtain rfl := wr_put_er hz172
                  obtain ⟨w119, A115, p120, c121, g116, h117, f118⟩ := wr_Q0 (wr_w h (op_z (d := d - 1) (z := y0) (k := k0) (g := true) (by omega) (by omega) (by omega) h.O h.K.ten)) hz172
                  have f122 := (wr_F.refl A s0 s1 u).trans f118
                  have p123 : 3 ≠ 3 → w <+: w119 := fun e => (List.prefix_refl w).trans (p120 e)
                  refine wp_cv (A' := A115) (v := some (.int (Int32.ofNat 3))) rfl rfl rfl rfl rfl h.oc (by omega) (g116) rfl ?_
                  show am_wp d 106 (175, [some (.ref (r)), some (.int (Int32.ofNat i)), some (.int (Int32.ofNat kd)), some (.int (Int32.ofNat l)), some (.ref (rs.getD j 0)), some (.int (Int32.ofNat 0))], [.int (Int32.ofNat 3)], A115) _
                  refine wp_rt rfl rfl rfl ?_
                  have hres : wr_val M vf S0 S1 inner i w = .error 3 := by first | (exfalso; omega) | simp [wr_val, hkd, hvf, h80, h81, h82, h83, h98, h99, hz172]
                  rw [hres]
                  exact wr_Q_er (by omega) p123 h117 f122
                · skip
                  obtain ⟨A124, g125, h126, f127⟩ := wr_Q1 (wr_w h (op_z (d := d - 1) (z := y0) (k := k0) (g := true) (by omega) (by omega) (by omega) h.O h.K.ten)) hz172
                  have f128 := (wr_F.refl A s0 s1 u).trans f127
                  have p129 := (List.prefix_refl w).trans (wr_put_ok hz172)
                  refine wp_cv (A' := A124) (v := some (.int (Int32.ofNat 0))) rfl rfl rfl rfl rfl h.oc (by omega) (g125) rfl ?_
                  show am_wp d 106 (175, [some (.ref (r)), some (.int (Int32.ofNat i)), some (.int (Int32.ofNat kd)), some (.int (Int32.ofNat l)), some (.ref (rs.getD j 0)), some (.int (Int32.ofNat 0))], [.int (Int32.ofNat 0)], A124) _
                  refine wp_rt rfl rfl rfl ?_
                  have hres : wr_val M vf S0 S1 inner i w = .ok y172 := by first | (exfalso; omega) | simp [wr_val, hkd, hvf, h80, h81, h82, h83, h98, h99, hz172]
                  rw [hres]
                  exact wr_Q_ok h126 f128
            · skip
              rw [ne_eq, i32_eq (by omega) (by omega)] at h98
              replace h98 := Decidable.not_not.mp h98
              refine wp_st 4 (f' := (144, [some (.ref (r)), some (.int (Int32.ofNat i)), some (.int (Int32.ofNat kd)), some (.int (Int32.ofNat l)), some (.ref (rs.getD j 0)), some (.int (Int32.ofNat 0))], [.int (Int32.ofNat l), .ref (rs.getD j 0), .int (Int32.ofNat i), .ref (r)], A)) rfl ?_
              rcases hs9 : wr_br M inner (wr_plub M S0 S1 i y0 k0) (wr_rest M i y0 k0) k0 w with c9 | w9
              · skip
                obtain ⟨w134, A130, p135, c136, g131, h132, f133⟩ := wr_Q0 (wi_plu (d := d - 1) (D0 := D0) (l := l) (inner := inner) (i := i) (j := j) (k := k0) (y := y0) (by omega) (by omega) (by omega) (by omega) hj hkb hyb hw0 hw1 hxj hin hwf h) hs9
                have f137 := (wr_F.refl A s0 s1 u).trans f133
                have p138 : c9 ≠ 3 → w <+: w134 := fun e => (List.prefix_refl w).trans (p135 e)
                refine wp_cv (A' := A130) (v := some (.int (Int32.ofNat c9))) rfl rfl rfl rfl rfl h.rc (by omega) (g131) rfl ?_
                show am_wp d 106 (147, [some (.ref (r)), some (.int (Int32.ofNat i)), some (.int (Int32.ofNat kd)), some (.int (Int32.ofNat l)), some (.ref (rs.getD j 0)), some (.int (Int32.ofNat 0))], [.int (Int32.ofNat c9)], A130) _
                refine wp_rt rfl rfl rfl ?_
                have hres : wr_val M vf S0 S1 inner i w = .error c9 := by first | (exfalso; omega) | simp [wr_val, hkd, hvf, h80, h81, h82, h83, h98, hs9]
                rw [hres]
                exact wr_Q_er c136 p138 h132 f137
              · skip
                obtain ⟨A139, g140, h141, f142⟩ := wr_Q1 (wi_plu (d := d - 1) (D0 := D0) (l := l) (inner := inner) (i := i) (j := j) (k := k0) (y := y0) (by omega) (by omega) (by omega) (by omega) hj hkb hyb hw0 hw1 hxj hin hwf h) hs9
                have f143 := (wr_F.refl A s0 s1 u).trans f142
                refine wp_cv (A' := A139) (v := some (.int (Int32.ofNat 0))) rfl rfl rfl rfl rfl h.rc (by omega) (g140) rfl ?_
                show am_wp d 106 (147, [some (.ref (r)), some (.int (Int32.ofNat i)), some (.int (Int32.ofNat kd)), some (.int (Int32.ofNat l)), some (.ref (rs.getD j 0)), some (.int (Int32.ofNat 0))], [.int (Int32.ofNat 0)], A139) _
                refine wp_rt rfl rfl rfl ?_
                have hres : wr_val M vf S0 S1 inner i w = .ok w9 := by first | (exfalso; omega) | simp [wr_val, hkd, hvf, h80, h81, h82, h83, h98, hs9]
                rw [hres]
                exact wr_Q_ok h141 f143
        · skip
          rw [ne_eq, i32_eq (by omega) (by omega)] at h82
          replace h82 := Decidable.not_not.mp h82
          refine wp_st 1 (f' := (104, [some (.ref (r)), some (.int (Int32.ofNat i)), some (.int (Int32.ofNat kd)), some (.int (Int32.ofNat l)), some (.ref (rs.getD j 0)), some (.int (Int32.ofNat 0))], [.ref (rs.getD j 0)], A)) rfl ?_
          refine wp_gf rfl rfl (h.vc hj hxj) rfl rfl ?_
          refine wp_iz rfl rfl rfl (fun (h144 : (Int32.ofNat k0) ≠ (Int32.ofNat 0)) => ?_) (fun (h144 : ¬ ((Int32.ofNat k0) ≠ (Int32.ofNat 0))) => ?_)
          · skip
            rw [ne_eq, i32_eq (by omega) (by omega)] at h144
            refine wp_st 1 (f' := (126, [some (.ref (r)), some (.int (Int32.ofNat i)), some (.int (Int32.ofNat kd)), some (.int (Int32.ofNat l)), some (.ref (rs.getD j 0)), some (.int (Int32.ofNat 0))], [.int (Int32.ofNat 2)], A)) rfl ?_
            refine wp_rt rfl rfl rfl ?_
            have hres : wr_val M vf S0 S1 inner i w = .error 2 := by first | (exfalso; omega) | simp [wr_val, hkd, hvf, h80, h81, h82, h144]
            rw [hres]
            exact wr_Q_er (by omega) (fun _ => (List.prefix_refl w)) h (wr_F.refl A s0 s1 u)
          · skip
            rw [ne_eq, i32_eq (by omega) (by omega)] at h144
            replace h144 := Decidable.not_not.mp h144
            refine wp_st 1 (f' := (111, [some (.ref (r)), some (.int (Int32.ofNat i)), some (.int (Int32.ofNat kd)), some (.int (Int32.ofNat l)), some (.ref (rs.getD j 0)), some (.int (Int32.ofNat 0))], [.ref (r)], A)) rfl ?_
            refine wp_gf rfl rfl h.rc rfl rfl ?_
            refine wp_st 1 (f' := (116, [some (.ref (r)), some (.int (Int32.ofNat i)), some (.int (Int32.ofNat kd)), some (.int (Int32.ofNat l)), some (.ref (rs.getD j 0)), some (.int (Int32.ofNat 0))], [.ref (rs.getD j 0), .ref (u)], A)) rfl ?_
            refine wp_gf rfl rfl (h.vc hj hxj) rfl rfl ?_
            rcases hx119 : wr_put w (wr_hex y0) with c119 | y119
            · skip
              obtain rfl := wr_put_er hx119
              obtain ⟨w149, A145, p150, c151, g146, h147, f148⟩ := wr_Q0 (wr_w h (show sb_wrt _ _ _ _ _ _ (wr_hex y0) from op_hx (d := d - 1) (by omega) h.O)) hx119
              have f152 := (wr_F.refl A s0 s1 u).trans f148
              have p153 : 3 ≠ 3 → w <+: w149 := fun e => (List.prefix_refl w).trans (p150 e)
              refine wp_cv (A' := A145) (v := some (.int (Int32.ofNat 3))) rfl rfl rfl rfl rfl h.oc (by omega) (g146) rfl ?_
              show am_wp d 106 (122, [some (.ref (r)), some (.int (Int32.ofNat i)), some (.int (Int32.ofNat kd)), some (.int (Int32.ofNat l)), some (.ref (rs.getD j 0)), some (.int (Int32.ofNat 0))], [.int (Int32.ofNat 3)], A145) _
              refine wp_st 1 (f' := (126, [some (.ref (r)), some (.int (Int32.ofNat i)), some (.int (Int32.ofNat kd)), some (.int (Int32.ofNat l)), some (.ref (rs.getD j 0)), some (.int (Int32.ofNat 0))], [.int (Int32.ofNat 3)], A145)) rfl ?_
              refine wp_rt rfl rfl rfl ?_
              have hres : wr_val M vf S0 S1 inner i w = .error 3 := by first | (exfalso; omega) | simp [wr_val, hkd, hvf, h80, h81, h82, h144, hx119]
              rw [hres]
              exact wr_Q_er (by omega) p153 h147 f152
            · skip
              obtain ⟨A154, g155, h156, f157⟩ := wr_Q1 (wr_w h (show sb_wrt _ _ _ _ _ _ (wr_hex y0) from op_hx (d := d - 1) (by omega) h.O)) hx119
              have f158 := (wr_F.refl A s0 s1 u).trans f157
              have p159 := (List.prefix_refl w).trans (wr_put_ok hx119)
              refine wp_cv (A' := A154) (v := some (.int (Int32.ofNat 0))) rfl rfl rfl rfl rfl h.oc (by omega) (g155) rfl ?_
              show am_wp d 106 (122, [some (.ref (r)), some (.int (Int32.ofNat i)), some (.int (Int32.ofNat kd)), some (.int (Int32.ofNat l)), some (.ref (rs.getD j 0)), some (.int (Int32.ofNat 0))], [.int (Int32.ofNat 0)], A154) _
              refine wp_st 1 (f' := (126, [some (.ref (r)), some (.int (Int32.ofNat i)), some (.int (Int32.ofNat kd)), some (.int (Int32.ofNat l)), some (.ref (rs.getD j 0)), some (.int (Int32.ofNat 0))], [.int (Int32.ofNat 0)], A154)) rfl ?_
              refine wp_rt rfl rfl rfl ?_
              have hres : wr_val M vf S0 S1 inner i w = .ok y119 := by first | (exfalso; omega) | simp [wr_val, hkd, hvf, h80, h81, h82, h144, hx119]
              rw [hres]
              exact wr_Q_ok h156 f158
      · skip
        rw [i32_eq (by omega) (by omega)] at h81
        refine wp_st 2 (f' := (47, [some (.ref (r)), some (.int (Int32.ofNat i)), some (.int (Int32.ofNat kd)), some (.int (Int32.ofNat l)), some (.ref (rs.getD j 0)), none], [.int (Int32.ofNat 5), .int (Int32.ofNat kd)], A)) rfl ?_
        refine wp_if rfl rfl rfl (fun (h160 : (Int32.ofNat kd) = (Int32.ofNat 5)) => ?_) (fun (h160 : ¬ ((Int32.ofNat kd) = (Int32.ofNat 5))) => ?_)
        · skip
          rw [i32_eq (by omega) (by omega)] at h160
          refine wp_st 3 (f' := (59, [some (.ref (r)), some (.int (Int32.ofNat i)), some (.int (Int32.ofNat kd)), some (.int (Int32.ofNat l)), some (.ref (rs.getD j 0)), some (.int (Int32.ofNat 0))], [.ref (rs.getD j 0)], A)) rfl ?_
          refine wp_gf rfl rfl (h.vc hj hxj) rfl rfl ?_
          refine wp_izT rfl rfl (show (Int32.ofNat 0) = (Int32.ofNat 0) from by decide) ?_
          refine wp_st 2 (f' := (99, [some (.ref (r)), some (.int (Int32.ofNat i)), some (.int (Int32.ofNat kd)), some (.int (Int32.ofNat l)), some (.ref (rs.getD j 0)), some (.int (Int32.ofNat 0))], [.int (Int32.ofNat 4), .int (Int32.ofNat kd)], A)) rfl ?_
          refine wp_if rfl rfl rfl (fun (h161 : (Int32.ofNat kd) ≠ (Int32.ofNat 4)) => ?_) (fun (h161 : ¬ ((Int32.ofNat kd) ≠ (Int32.ofNat 4))) => ?_)
          · skip
            rw [ne_eq, i32_eq (by omega) (by omega)] at h161
            refine wp_st 2 (f' := (130, [some (.ref (r)), some (.int (Int32.ofNat i)), some (.int (Int32.ofNat kd)), some (.int (Int32.ofNat l)), some (.ref (rs.getD j 0)), some (.int (Int32.ofNat 0))], [.int (Int32.ofNat 7), .int (Int32.ofNat kd)], A)) rfl ?_
            refine wp_if rfl rfl rfl (fun (h162 : (Int32.ofNat kd) = (Int32.ofNat 7)) => ?_) (fun (h162 : ¬ ((Int32.ofNat kd) = (Int32.ofNat 7))) => ?_)
            · skip
              rw [i32_eq (by omega) (by omega)] at h162
              refine wp_st 4 (f' := (144, [some (.ref (r)), some (.int (Int32.ofNat i)), some (.int (Int32.ofNat kd)), some (.int (Int32.ofNat l)), some (.ref (rs.getD j 0)), some (.int (Int32.ofNat 0))], [.int (Int32.ofNat l), .ref (rs.getD j 0), .int (Int32.ofNat i), .ref (r)], A)) rfl ?_
              rcases hs9 : wr_br M inner (wr_plub M S0 S1 i y0 k0) (wr_rest M i y0 k0) k0 w with c9 | w9
              · skip
                obtain ⟨w167, A163, p168, c169, g164, h165, f166⟩ := wr_Q0 (wi_plu (d := d - 1) (D0 := D0) (l := l) (inner := inner) (i := i) (j := j) (k := k0) (y := y0) (by omega) (by omega) (by omega) (by omega) hj hkb hyb hw0 hw1 hxj hin hwf h) hs9
                have f170 := (wr_F.refl A s0 s1 u).trans f166
                have p171 : c9 ≠ 3 → w <+: w167 := fun e => (List.prefix_refl w).trans (p168 e)
                refine wp_cv (A' := A163) (v := some (.int (Int32.ofNat c9))) rfl rfl rfl rfl rfl h.rc (by omega) (g164) rfl ?_
                show am_wp d 106 (147, [some (.ref (r)), some (.int (Int32.ofNat i)), some (.int (Int32.ofNat kd)), some (.int (Int32.ofNat l)), some (.ref (rs.getD j 0)), some (.int (Int32.ofNat 0))], [.int (Int32.ofNat c9)], A163) _
                refine wp_rt rfl rfl rfl ?_
                have hres : wr_val M vf S0 S1 inner i w = .error c9 := by first | (exfalso; omega) | simp [wr_val, hkd, hvf, h80, h81, h160, h161, h162, hs9]
                rw [hres]
                exact wr_Q_er c169 p171 h165 f170
              · skip
                obtain ⟨A172, g173, h174, f175⟩ := wr_Q1 (wi_plu (d := d - 1) (D0 := D0) (l := l) (inner := inner) (i := i) (j := j) (k := k0) (y := y0) (by omega) (by omega) (by omega) (by omega) hj hkb hyb hw0 hw1 hxj hin hwf h) hs9
                have f176 := (wr_F.refl A s0 s1 u).trans f175
                refine wp_cv (A' := A172) (v := some (.int (Int32.ofNat 0))) rfl rfl rfl rfl rfl h.rc (by omega) (g173) rfl ?_
                show am_wp d 106 (147, [some (.ref (r)), some (.int (Int32.ofNat i)), some (.int (Int32.ofNat kd)), some (.int (Int32.ofNat l)), some (.ref (rs.getD j 0)), some (.int (Int32.ofNat 0))], [.int (Int32.ofNat 0)], A172) _
                refine wp_rt rfl rfl rfl ?_
                have hres : wr_val M vf S0 S1 inner i w = .ok w9 := by first | (exfalso; omega) | simp [wr_val, hkd, hvf, h80, h81, h160, h161, h162, hs9]
                rw [hres]
                exact wr_Q_ok h174 f176
            · skip
              rw [i32_eq (by omega) (by omega)] at h162
              refine wp_st 2 (f' := (136, [some (.ref (r)), some (.int (Int32.ofNat i)), some (.int (Int32.ofNat kd)), some (.int (Int32.ofNat l)), some (.ref (rs.getD j 0)), some (.int (Int32.ofNat 0))], [.int (Int32.ofNat 8), .int (Int32.ofNat kd)], A)) rfl ?_
              refine wp_if rfl rfl rfl (fun (h177 : (Int32.ofNat kd) ≠ (Int32.ofNat 8)) => ?_) (fun (h177 : ¬ ((Int32.ofNat kd) ≠ (Int32.ofNat 8))) => ?_)
              · skip
                rw [ne_eq, i32_eq (by omega) (by omega)] at h177
                refine wp_st 1 (f' := (149, [some (.ref (r)), some (.int (Int32.ofNat i)), some (.int (Int32.ofNat kd)), some (.int (Int32.ofNat l)), some (.ref (rs.getD j 0)), some (.int (Int32.ofNat 0))], [.ref (r)], A)) rfl ?_
                refine wp_gf rfl rfl h.rc rfl rfl ?_
                refine wp_st 1 (f' := (154, [some (.ref (r)), some (.int (Int32.ofNat i)), some (.int (Int32.ofNat kd)), some (.int (Int32.ofNat l)), some (.ref (rs.getD j 0)), some (.int (Int32.ofNat 0))], [.ref (rs.getD j 0), .ref (u)], A)) rfl ?_
                refine wp_gf rfl rfl (h.vc hj hxj) rfl rfl ?_
                refine wp_st 1 (f' := (159, [some (.ref (r)), some (.int (Int32.ofNat i)), some (.int (Int32.ofNat kd)), some (.int (Int32.ofNat l)), some (.ref (rs.getD j 0)), some (.int (Int32.ofNat 0))], [.ref (rs.getD j 0), .long (Int64.ofInt y0), .ref (u)], A)) rfl ?_
                refine wp_gf rfl rfl (h.vc hj hxj) rfl rfl ?_
                refine wp_st 2 (f' := (164, [some (.ref (r)), some (.int (Int32.ofNat i)), some (.int (Int32.ofNat kd)), some (.int (Int32.ofNat l)), some (.ref (rs.getD j 0)), some (.int (Int32.ofNat 0))], [.int (Int32.ofNat 3), .int (Int32.ofNat kd), .int (Int32.ofNat k0), .long (Int64.ofInt y0), .ref (u)], A)) rfl ?_
                refine wp_if rfl rfl rfl (fun (h178 : (Int32.ofNat kd) ≠ (Int32.ofNat 3)) => ?_) (fun (h178 : ¬ ((Int32.ofNat kd) ≠ (Int32.ofNat 3))) => ?_)
                · skip
                  rw [ne_eq, i32_eq (by omega) (by omega)] at h178
                  refine wp_st 1 (f' := (172, [some (.ref (r)), some (.int (Int32.ofNat i)), some (.int (Int32.ofNat kd)), some (.int (Int32.ofNat l)), some (.ref (rs.getD j 0)), some (.int (Int32.ofNat 0))], [.int (Int32.ofNat 0), .int (Int32.ofNat k0), .long (Int64.ofInt y0), .ref (u)], A)) rfl ?_
                  rcases hz172 : wr_put w (wr_dg y0 k0 false) with c172 | y172
                  · skip
                    obtain rfl := wr_put_er hz172
                    obtain ⟨w183, A179, p184, c185, g180, h181, f182⟩ := wr_Q0 (wr_w h (op_z (d := d - 1) (z := y0) (k := k0) (g := false) (by omega) (by omega) (by omega) h.O h.K.ten)) hz172
                    have f186 := (wr_F.refl A s0 s1 u).trans f182
                    have p187 : 3 ≠ 3 → w <+: w183 := fun e => (List.prefix_refl w).trans (p184 e)
                    refine wp_cv (A' := A179) (v := some (.int (Int32.ofNat 3))) rfl rfl rfl rfl rfl h.oc (by omega) (g180) rfl ?_
                    show am_wp d 106 (175, [some (.ref (r)), some (.int (Int32.ofNat i)), some (.int (Int32.ofNat kd)), some (.int (Int32.ofNat l)), some (.ref (rs.getD j 0)), some (.int (Int32.ofNat 0))], [.int (Int32.ofNat 3)], A179) _
                    refine wp_rt rfl rfl rfl ?_
                    have hres : wr_val M vf S0 S1 inner i w = .error 3 := by first | (exfalso; omega) | simp [wr_val, hkd, hvf, h80, h81, h160, h161, h162, h177, h178, hz172]
                    rw [hres]
                    exact wr_Q_er (by omega) p187 h181 f186
                  · skip
                    obtain ⟨A188, g189, h190, f191⟩ := wr_Q1 (wr_w h (op_z (d := d - 1) (z := y0) (k := k0) (g := false) (by omega) (by omega) (by omega) h.O h.K.ten)) hz172
                    have f192 := (wr_F.refl A s0 s1 u).trans f191
                    have p193 := (List.prefix_refl w).trans (wr_put_ok hz172)
                    refine wp_cv (A' := A188) (v := some (.int (Int32.ofNat 0))) rfl rfl rfl rfl rfl h.oc (by omega) (g189) rfl ?_
                    show am_wp d 106 (175, [some (.ref (r)), some (.int (Int32.ofNat i)), some (.int (Int32.ofNat kd)), some (.int (Int32.ofNat l)), some (.ref (rs.getD j 0)), some (.int (Int32.ofNat 0))], [.int (Int32.ofNat 0)], A188) _
                    refine wp_rt rfl rfl rfl ?_
                    have hres : wr_val M vf S0 S1 inner i w = .ok y172 := by first | (exfalso; omega) | simp [wr_val, hkd, hvf, h80, h81, h160, h161, h162, h177, h178, hz172]
                    rw [hres]
                    exact wr_Q_ok h190 f192
                · skip
                  rw [ne_eq, i32_eq (by omega) (by omega)] at h178
                  replace h178 := Decidable.not_not.mp h178
                  refine wp_st 2 (f' := (172, [some (.ref (r)), some (.int (Int32.ofNat i)), some (.int (Int32.ofNat kd)), some (.int (Int32.ofNat l)), some (.ref (rs.getD j 0)), some (.int (Int32.ofNat 0))], [.int (Int32.ofNat 1), .int (Int32.ofNat k0), .long (Int64.ofInt y0), .ref (u)], A)) rfl ?_
                  rcases hz172 : wr_put w (wr_dg y0 k0 true) with c172 | y172
                  · skip
                    obtain rfl := wr_put_er hz172
                    obtain ⟨w198, A194, p199, c200, g195, h196, f197⟩ := wr_Q0 (wr_w h (op_z (d := d - 1) (z := y0) (k := k0) (g := true) (by omega) (by omega) (by omega) h.O h.K.ten)) hz172
                    have f201 := (wr_F.refl A s0 s1 u).trans f197
                    have p202 : 3 ≠ 3 → w <+: w198 := fun e => (List.prefix_refl w).trans (p199 e)
                    refine wp_cv (A' := A194) (v := some (.int (Int32.ofNat 3))) rfl rfl rfl rfl rfl h.oc (by omega) (g195) rfl ?_
                    show am_wp d 106 (175, [some (.ref (r)), some (.int (Int32.ofNat i)), some (.int (Int32.ofNat kd)), some (.int (Int32.ofNat l)), some (.ref (rs.getD j 0)), some (.int (Int32.ofNat 0))], [.int (Int32.ofNat 3)], A194) _
                    refine wp_rt rfl rfl rfl ?_
                    have hres : wr_val M vf S0 S1 inner i w = .error 3 := by first | (exfalso; omega) | simp [wr_val, hkd, hvf, h80, h81, h160, h161, h162, h177, h178, hz172]
                    rw [hres]
                    exact wr_Q_er (by omega) p202 h196 f201
                  · skip
                    obtain ⟨A203, g204, h205, f206⟩ := wr_Q1 (wr_w h (op_z (d := d - 1) (z := y0) (k := k0) (g := true) (by omega) (by omega) (by omega) h.O h.K.ten)) hz172
                    have f207 := (wr_F.refl A s0 s1 u).trans f206
                    have p208 := (List.prefix_refl w).trans (wr_put_ok hz172)
                    refine wp_cv (A' := A203) (v := some (.int (Int32.ofNat 0))) rfl rfl rfl rfl rfl h.oc (by omega) (g204) rfl ?_
                    show am_wp d 106 (175, [some (.ref (r)), some (.int (Int32.ofNat i)), some (.int (Int32.ofNat kd)), some (.int (Int32.ofNat l)), some (.ref (rs.getD j 0)), some (.int (Int32.ofNat 0))], [.int (Int32.ofNat 0)], A203) _
                    refine wp_rt rfl rfl rfl ?_
                    have hres : wr_val M vf S0 S1 inner i w = .ok y172 := by first | (exfalso; omega) | simp [wr_val, hkd, hvf, h80, h81, h160, h161, h162, h177, h178, hz172]
                    rw [hres]
                    exact wr_Q_ok h205 f207
              · skip
                rw [ne_eq, i32_eq (by omega) (by omega)] at h177
                replace h177 := Decidable.not_not.mp h177
                refine wp_st 4 (f' := (144, [some (.ref (r)), some (.int (Int32.ofNat i)), some (.int (Int32.ofNat kd)), some (.int (Int32.ofNat l)), some (.ref (rs.getD j 0)), some (.int (Int32.ofNat 0))], [.int (Int32.ofNat l), .ref (rs.getD j 0), .int (Int32.ofNat i), .ref (r)], A)) rfl ?_
                rcases hs9 : wr_br M inner (wr_plub M S0 S1 i y0 k0) (wr_rest M i y0 k0) k0 w with c9 | w9
                · skip
                  obtain ⟨w213, A209, p214, c215, g210, h211, f212⟩ := wr_Q0 (wi_plu (d := d - 1) (D0 := D0) (l := l) (inner := inner) (i := i) (j := j) (k := k0) (y := y0) (by omega) (by omega) (by omega) (by omega) hj hkb hyb hw0 hw1 hxj hin hwf h) hs9
                  have f216 := (wr_F.refl A s0 s1 u).trans f212
                  have p217 : c9 ≠ 3 → w <+: w213 := fun e => (List.prefix_refl w).trans (p214 e)
                  refine wp_cv (A' := A209) (v := some (.int (Int32.ofNat c9))) rfl rfl rfl rfl rfl h.rc (by omega) (g210) rfl ?_
                  show am_wp d 106 (147, [some (.ref (r)), some (.int (Int32.ofNat i)), some (.int (Int32.ofNat kd)), some (.int (Int32.ofNat l)), some (.ref (rs.getD j 0)), some (.int (Int32.ofNat 0))], [.int (Int32.ofNat c9)], A209) _
                  refine wp_rt rfl rfl rfl ?_
                  have hres : wr_val M vf S0 S1 inner i w = .error c9 := by first | (exfalso; omega) | simp [wr_val, hkd, hvf, h80, h81, h160, h161, h162, h177, hs9]
                  rw [hres]
                  exact wr_Q_er c215 p217 h211 f216
                · skip
                  obtain ⟨A218, g219, h220, f221⟩ := wr_Q1 (wi_plu (d := d - 1) (D0 := D0) (l := l) (inner := inner) (i := i) (j := j) (k := k0) (y := y0) (by omega) (by omega) (by omega) (by omega) hj hkb hyb hw0 hw1 hxj hin hwf h) hs9
                  have f222 := (wr_F.refl A s0 s1 u).trans f221
                  refine wp_cv (A' := A218) (v := some (.int (Int32.ofNat 0))) rfl rfl rfl rfl rfl h.rc (by omega) (g219) rfl ?_
                  show am_wp d 106 (147, [some (.ref (r)), some (.int (Int32.ofNat i)), some (.int (Int32.ofNat kd)), some (.int (Int32.ofNat l)), some (.ref (rs.getD j 0)), some (.int (Int32.ofNat 0))], [.int (Int32.ofNat 0)], A218) _
                  refine wp_rt rfl rfl rfl ?_
                  have hres : wr_val M vf S0 S1 inner i w = .ok w9 := by first | (exfalso; omega) | simp [wr_val, hkd, hvf, h80, h81, h160, h161, h162, h177, hs9]
                  rw [hres]
                  exact wr_Q_ok h220 f222
          · skip
            rw [ne_eq, i32_eq (by omega) (by omega)] at h161
            replace h161 := Decidable.not_not.mp h161
            refine wp_st 1 (f' := (104, [some (.ref (r)), some (.int (Int32.ofNat i)), some (.int (Int32.ofNat kd)), some (.int (Int32.ofNat l)), some (.ref (rs.getD j 0)), some (.int (Int32.ofNat 0))], [.ref (rs.getD j 0)], A)) rfl ?_
            refine wp_gf rfl rfl (h.vc hj hxj) rfl rfl ?_
            refine wp_iz rfl rfl rfl (fun (h223 : (Int32.ofNat k0) ≠ (Int32.ofNat 0)) => ?_) (fun (h223 : ¬ ((Int32.ofNat k0) ≠ (Int32.ofNat 0))) => ?_)
            · skip
              rw [ne_eq, i32_eq (by omega) (by omega)] at h223
              refine wp_st 1 (f' := (126, [some (.ref (r)), some (.int (Int32.ofNat i)), some (.int (Int32.ofNat kd)), some (.int (Int32.ofNat l)), some (.ref (rs.getD j 0)), some (.int (Int32.ofNat 0))], [.int (Int32.ofNat 2)], A)) rfl ?_
              refine wp_rt rfl rfl rfl ?_
              have hres : wr_val M vf S0 S1 inner i w = .error 2 := by first | (exfalso; omega) | simp [wr_val, hkd, hvf, h80, h81, h160, h161, h223]
              rw [hres]
              exact wr_Q_er (by omega) (fun _ => (List.prefix_refl w)) h (wr_F.refl A s0 s1 u)
            · skip
              rw [ne_eq, i32_eq (by omega) (by omega)] at h223
              replace h223 := Decidable.not_not.mp h223
              refine wp_st 1 (f' := (111, [some (.ref (r)), some (.int (Int32.ofNat i)), some (.int (Int32.ofNat kd)), some (.int (Int32.ofNat l)), some (.ref (rs.getD j 0)), some (.int (Int32.ofNat 0))], [.ref (r)], A)) rfl ?_
              refine wp_gf rfl rfl h.rc rfl rfl ?_
              refine wp_st 1 (f' := (116, [some (.ref (r)), some (.int (Int32.ofNat i)), some (.int (Int32.ofNat kd)), some (.int (Int32.ofNat l)), some (.ref (rs.getD j 0)), some (.int (Int32.ofNat 0))], [.ref (rs.getD j 0), .ref (u)], A)) rfl ?_
              refine wp_gf rfl rfl (h.vc hj hxj) rfl rfl ?_
              rcases hx119 : wr_put w (wr_hex y0) with c119 | y119
              · skip
                obtain rfl := wr_put_er hx119
                obtain ⟨w228, A224, p229, c230, g225, h226, f227⟩ := wr_Q0 (wr_w h (show sb_wrt _ _ _ _ _ _ (wr_hex y0) from op_hx (d := d - 1) (by omega) h.O)) hx119
                have f231 := (wr_F.refl A s0 s1 u).trans f227
                have p232 : 3 ≠ 3 → w <+: w228 := fun e => (List.prefix_refl w).trans (p229 e)
                refine wp_cv (A' := A224) (v := some (.int (Int32.ofNat 3))) rfl rfl rfl rfl rfl h.oc (by omega) (g225) rfl ?_
                show am_wp d 106 (122, [some (.ref (r)), some (.int (Int32.ofNat i)), some (.int (Int32.ofNat kd)), some (.int (Int32.ofNat l)), some (.ref (rs.getD j 0)), some (.int (Int32.ofNat 0))], [.int (Int32.ofNat 3)], A224) _
                refine wp_st 1 (f' := (126, [some (.ref (r)), some (.int (Int32.ofNat i)), some (.int (Int32.ofNat kd)), some (.int (Int32.ofNat l)), some (.ref (rs.getD j 0)), some (.int (Int32.ofNat 0))], [.int (Int32.ofNat 3)], A224)) rfl ?_
                refine wp_rt rfl rfl rfl ?_
                have hres : wr_val M vf S0 S1 inner i w = .error 3 := by first | (exfalso; omega) | simp [wr_val, hkd, hvf, h80, h81, h160, h161, h223, hx119]
                rw [hres]
                exact wr_Q_er (by omega) p232 h226 f231
              · skip
                obtain ⟨A233, g234, h235, f236⟩ := wr_Q1 (wr_w h (show sb_wrt _ _ _ _ _ _ (wr_hex y0) from op_hx (d := d - 1) (by omega) h.O)) hx119
                have f237 := (wr_F.refl A s0 s1 u).trans f236
                have p238 := (List.prefix_refl w).trans (wr_put_ok hx119)
                refine wp_cv (A' := A233) (v := some (.int (Int32.ofNat 0))) rfl rfl rfl rfl rfl h.oc (by omega) (g234) rfl ?_
                show am_wp d 106 (122, [some (.ref (r)), some (.int (Int32.ofNat i)), some (.int (Int32.ofNat kd)), some (.int (Int32.ofNat l)), some (.ref (rs.getD j 0)), some (.int (Int32.ofNat 0))], [.int (Int32.ofNat 0)], A233) _
                refine wp_st 1 (f' := (126, [some (.ref (r)), some (.int (Int32.ofNat i)), some (.int (Int32.ofNat kd)), some (.int (Int32.ofNat l)), some (.ref (rs.getD j 0)), some (.int (Int32.ofNat 0))], [.int (Int32.ofNat 0)], A233)) rfl ?_
                refine wp_rt rfl rfl rfl ?_
                have hres : wr_val M vf S0 S1 inner i w = .ok y119 := by first | (exfalso; omega) | simp [wr_val, hkd, hvf, h80, h81, h160, h161, h223, hx119]
                rw [hres]
                exact wr_Q_ok h235 f237
        · skip
          rw [i32_eq (by omega) (by omega)] at h160
          refine wp_st 4 (f' := (59, [some (.ref (r)), some (.int (Int32.ofNat i)), some (.int (Int32.ofNat kd)), some (.int (Int32.ofNat l)), some (.ref (rs.getD j 0)), some (.int (Int32.ofNat 1))], [.ref (rs.getD j 0)], A)) rfl ?_
          refine wp_gf rfl rfl (h.vc hj hxj) rfl rfl ?_
          refine wp_izT rfl rfl (show (Int32.ofNat 0) = (Int32.ofNat 0) from by decide) ?_
          refine wp_st 2 (f' := (99, [some (.ref (r)), some (.int (Int32.ofNat i)), some (.int (Int32.ofNat kd)), some (.int (Int32.ofNat l)), some (.ref (rs.getD j 0)), some (.int (Int32.ofNat 1))], [.int (Int32.ofNat 4), .int (Int32.ofNat kd)], A)) rfl ?_
          refine wp_if rfl rfl rfl (fun (h239 : (Int32.ofNat kd) ≠ (Int32.ofNat 4)) => ?_) (fun (h239 : ¬ ((Int32.ofNat kd) ≠ (Int32.ofNat 4))) => ?_)
          · skip
            rw [ne_eq, i32_eq (by omega) (by omega)] at h239
            refine wp_st 2 (f' := (130, [some (.ref (r)), some (.int (Int32.ofNat i)), some (.int (Int32.ofNat kd)), some (.int (Int32.ofNat l)), some (.ref (rs.getD j 0)), some (.int (Int32.ofNat 1))], [.int (Int32.ofNat 7), .int (Int32.ofNat kd)], A)) rfl ?_
            refine wp_if rfl rfl rfl (fun (h240 : (Int32.ofNat kd) = (Int32.ofNat 7)) => ?_) (fun (h240 : ¬ ((Int32.ofNat kd) = (Int32.ofNat 7))) => ?_)
            · skip
              rw [i32_eq (by omega) (by omega)] at h240
              refine wp_st 4 (f' := (144, [some (.ref (r)), some (.int (Int32.ofNat i)), some (.int (Int32.ofNat kd)), some (.int (Int32.ofNat l)), some (.ref (rs.getD j 0)), some (.int (Int32.ofNat 1))], [.int (Int32.ofNat l), .ref (rs.getD j 0), .int (Int32.ofNat i), .ref (r)], A)) rfl ?_
              rcases hs9 : wr_br M inner (wr_plub M S0 S1 i y0 k0) (wr_rest M i y0 k0) k0 w with c9 | w9
              · skip
                obtain ⟨w245, A241, p246, c247, g242, h243, f244⟩ := wr_Q0 (wi_plu (d := d - 1) (D0 := D0) (l := l) (inner := inner) (i := i) (j := j) (k := k0) (y := y0) (by omega) (by omega) (by omega) (by omega) hj hkb hyb hw0 hw1 hxj hin hwf h) hs9
                have f248 := (wr_F.refl A s0 s1 u).trans f244
                have p249 : c9 ≠ 3 → w <+: w245 := fun e => (List.prefix_refl w).trans (p246 e)
                refine wp_cv (A' := A241) (v := some (.int (Int32.ofNat c9))) rfl rfl rfl rfl rfl h.rc (by omega) (g242) rfl ?_
                show am_wp d 106 (147, [some (.ref (r)), some (.int (Int32.ofNat i)), some (.int (Int32.ofNat kd)), some (.int (Int32.ofNat l)), some (.ref (rs.getD j 0)), some (.int (Int32.ofNat 1))], [.int (Int32.ofNat c9)], A241) _
                refine wp_rt rfl rfl rfl ?_
                have hres : wr_val M vf S0 S1 inner i w = .error c9 := by first | (exfalso; omega) | simp [wr_val, hkd, hvf, h80, h81, h160, h239, h240, hs9]
                rw [hres]
                exact wr_Q_er c247 p249 h243 f248
              · skip
                obtain ⟨A250, g251, h252, f253⟩ := wr_Q1 (wi_plu (d := d - 1) (D0 := D0) (l := l) (inner := inner) (i := i) (j := j) (k := k0) (y := y0) (by omega) (by omega) (by omega) (by omega) hj hkb hyb hw0 hw1 hxj hin hwf h) hs9
                have f254 := (wr_F.refl A s0 s1 u).trans f253
                refine wp_cv (A' := A250) (v := some (.int (Int32.ofNat 0))) rfl rfl rfl rfl rfl h.rc (by omega) (g251) rfl ?_
                show am_wp d 106 (147, [some (.ref (r)), some (.int (Int32.ofNat i)), some (.int (Int32.ofNat kd)), some (.int (Int32.ofNat l)), some (.ref (rs.getD j 0)), some (.int (Int32.ofNat 1))], [.int (Int32.ofNat 0)], A250) _
                refine wp_rt rfl rfl rfl ?_
                have hres : wr_val M vf S0 S1 inner i w = .ok w9 := by first | (exfalso; omega) | simp [wr_val, hkd, hvf, h80, h81, h160, h239, h240, hs9]
                rw [hres]
                exact wr_Q_ok h252 f254
            · skip
              rw [i32_eq (by omega) (by omega)] at h240
              refine wp_st 2 (f' := (136, [some (.ref (r)), some (.int (Int32.ofNat i)), some (.int (Int32.ofNat kd)), some (.int (Int32.ofNat l)), some (.ref (rs.getD j 0)), some (.int (Int32.ofNat 1))], [.int (Int32.ofNat 8), .int (Int32.ofNat kd)], A)) rfl ?_
              refine wp_if rfl rfl rfl (fun (h255 : (Int32.ofNat kd) ≠ (Int32.ofNat 8)) => ?_) (fun (h255 : ¬ ((Int32.ofNat kd) ≠ (Int32.ofNat 8))) => ?_)
              · skip
                rw [ne_eq, i32_eq (by omega) (by omega)] at h255
                refine wp_st 1 (f' := (149, [some (.ref (r)), some (.int (Int32.ofNat i)), some (.int (Int32.ofNat kd)), some (.int (Int32.ofNat l)), some (.ref (rs.getD j 0)), some (.int (Int32.ofNat 1))], [.ref (r)], A)) rfl ?_
                refine wp_gf rfl rfl h.rc rfl rfl ?_
                refine wp_st 1 (f' := (154, [some (.ref (r)), some (.int (Int32.ofNat i)), some (.int (Int32.ofNat kd)), some (.int (Int32.ofNat l)), some (.ref (rs.getD j 0)), some (.int (Int32.ofNat 1))], [.ref (rs.getD j 0), .ref (u)], A)) rfl ?_
                refine wp_gf rfl rfl (h.vc hj hxj) rfl rfl ?_
                refine wp_st 1 (f' := (159, [some (.ref (r)), some (.int (Int32.ofNat i)), some (.int (Int32.ofNat kd)), some (.int (Int32.ofNat l)), some (.ref (rs.getD j 0)), some (.int (Int32.ofNat 1))], [.ref (rs.getD j 0), .long (Int64.ofInt y0), .ref (u)], A)) rfl ?_
                refine wp_gf rfl rfl (h.vc hj hxj) rfl rfl ?_
                refine wp_st 2 (f' := (164, [some (.ref (r)), some (.int (Int32.ofNat i)), some (.int (Int32.ofNat kd)), some (.int (Int32.ofNat l)), some (.ref (rs.getD j 0)), some (.int (Int32.ofNat 1))], [.int (Int32.ofNat 3), .int (Int32.ofNat kd), .int (Int32.ofNat k0), .long (Int64.ofInt y0), .ref (u)], A)) rfl ?_
                refine wp_if rfl rfl rfl (fun (h256 : (Int32.ofNat kd) ≠ (Int32.ofNat 3)) => ?_) (fun (h256 : ¬ ((Int32.ofNat kd) ≠ (Int32.ofNat 3))) => ?_)
                · skip
                  rw [ne_eq, i32_eq (by omega) (by omega)] at h256
                  refine wp_st 1 (f' := (172, [some (.ref (r)), some (.int (Int32.ofNat i)), some (.int (Int32.ofNat kd)), some (.int (Int32.ofNat l)), some (.ref (rs.getD j 0)), some (.int (Int32.ofNat 1))], [.int (Int32.ofNat 0), .int (Int32.ofNat k0), .long (Int64.ofInt y0), .ref (u)], A)) rfl ?_
                  rcases hz172 : wr_put w (wr_dg y0 k0 false) with c172 | y172
                  · skip
                    obtain rfl := wr_put_er hz172
                    obtain ⟨w261, A257, p262, c263, g258, h259, f260⟩ := wr_Q0 (wr_w h (op_z (d := d - 1) (z := y0) (k := k0) (g := false) (by omega) (by omega) (by omega) h.O h.K.ten)) hz172
                    have f264 := (wr_F.refl A s0 s1 u).trans f260
                    have p265 : 3 ≠ 3 → w <+: w261 := fun e => (List.prefix_refl w).trans (p262 e)
                    refine wp_cv (A' := A257) (v := some (.int (Int32.ofNat 3))) rfl rfl rfl rfl rfl h.oc (by omega) (g258) rfl ?_
                    show am_wp d 106 (175, [some (.ref (r)), some (.int (Int32.ofNat i)), some (.int (Int32.ofNat kd)), some (.int (Int32.ofNat l)), some (.ref (rs.getD j 0)), some (.int (Int32.ofNat 1))], [.int (Int32.ofNat 3)], A257) _
                    refine wp_rt rfl rfl rfl ?_
                    have hres : wr_val M vf S0 S1 inner i w = .error 3 := by first | (exfalso; omega) | simp [wr_val, hkd, hvf, h80, h81, h160, h239, h240, h255, h256, hz172]
                    rw [hres]
                    exact wr_Q_er (by omega) p265 h259 f264
                  · skip
                    obtain ⟨A266, g267, h268, f269⟩ := wr_Q1 (wr_w h (op_z (d := d - 1) (z := y0) (k := k0) (g := false) (by omega) (by omega) (by omega) h.O h.K.ten)) hz172
                    have f270 := (wr_F.refl A s0 s1 u).trans f269
                    have p271 := (List.prefix_refl w).trans (wr_put_ok hz172)
                    refine wp_cv (A' := A266) (v := some (.int (Int32.ofNat 0))) rfl rfl rfl rfl rfl h.oc (by omega) (g267) rfl ?_
                    show am_wp d 106 (175, [some (.ref (r)), some (.int (Int32.ofNat i)), some (.int (Int32.ofNat kd)), some (.int (Int32.ofNat l)), some (.ref (rs.getD j 0)), some (.int (Int32.ofNat 1))], [.int (Int32.ofNat 0)], A266) _
                    refine wp_rt rfl rfl rfl ?_
                    have hres : wr_val M vf S0 S1 inner i w = .ok y172 := by first | (exfalso; omega) | simp [wr_val, hkd, hvf, h80, h81, h160, h239, h240, h255, h256, hz172]
                    rw [hres]
                    exact wr_Q_ok h268 f270
                · skip
                  rw [ne_eq, i32_eq (by omega) (by omega)] at h256
                  replace h256 := Decidable.not_not.mp h256
                  refine wp_st 2 (f' := (172, [some (.ref (r)), some (.int (Int32.ofNat i)), some (.int (Int32.ofNat kd)), some (.int (Int32.ofNat l)), some (.ref (rs.getD j 0)), some (.int (Int32.ofNat 1))], [.int (Int32.ofNat 1), .int (Int32.ofNat k0), .long (Int64.ofInt y0), .ref (u)], A)) rfl ?_
                  rcases hz172 : wr_put w (wr_dg y0 k0 true) with c172 | y172
                  · skip
                    obtain rfl := wr_put_er hz172
                    obtain ⟨w276, A272, p277, c278, g273, h274, f275⟩ := wr_Q0 (wr_w h (op_z (d := d - 1) (z := y0) (k := k0) (g := true) (by omega) (by omega) (by omega) h.O h.K.ten)) hz172
                    have f279 := (wr_F.refl A s0 s1 u).trans f275
                    have p280 : 3 ≠ 3 → w <+: w276 := fun e => (List.prefix_refl w).trans (p277 e)
                    refine wp_cv (A' := A272) (v := some (.int (Int32.ofNat 3))) rfl rfl rfl rfl rfl h.oc (by omega) (g273) rfl ?_
                    show am_wp d 106 (175, [some (.ref (r)), some (.int (Int32.ofNat i)), some (.int (Int32.ofNat kd)), some (.int (Int32.ofNat l)), some (.ref (rs.getD j 0)), some (.int (Int32.ofNat 1))], [.int (Int32.ofNat 3)], A272) _
                    refine wp_rt rfl rfl rfl ?_
                    have hres : wr_val M vf S0 S1 inner i w = .error 3 := by first | (exfalso; omega) | simp [wr_val, hkd, hvf, h80, h81, h160, h239, h240, h255, h256, hz172]
                    rw [hres]
                    exact wr_Q_er (by omega) p280 h274 f279
                  · skip
                    obtain ⟨A281, g282, h283, f284⟩ := wr_Q1 (wr_w h (op_z (d := d - 1) (z := y0) (k := k0) (g := true) (by omega) (by omega) (by omega) h.O h.K.ten)) hz172
                    have f285 := (wr_F.refl A s0 s1 u).trans f284
                    have p286 := (List.prefix_refl w).trans (wr_put_ok hz172)
                    refine wp_cv (A' := A281) (v := some (.int (Int32.ofNat 0))) rfl rfl rfl rfl rfl h.oc (by omega) (g282) rfl ?_
                    show am_wp d 106 (175, [some (.ref (r)), some (.int (Int32.ofNat i)), some (.int (Int32.ofNat kd)), some (.int (Int32.ofNat l)), some (.ref (rs.getD j 0)), some (.int (Int32.ofNat 1))], [.int (Int32.ofNat 0)], A281) _
                    refine wp_rt rfl rfl rfl ?_
                    have hres : wr_val M vf S0 S1 inner i w = .ok y172 := by first | (exfalso; omega) | simp [wr_val, hkd, hvf, h80, h81, h160, h239, h240, h255, h256, hz172]
                    rw [hres]
                    exact wr_Q_ok h283 f285
              · skip
                rw [ne_eq, i32_eq (by omega) (by omega)] at h255
                replace h255 := Decidable.not_not.mp h255
                refine wp_st 4 (f' := (144, [some (.ref (r)), some (.int (Int32.ofNat i)), some (.int (Int32.ofNat kd)), some (.int (Int32.ofNat l)), some (.ref (rs.getD j 0)), some (.int (Int32.ofNat 1))], [.int (Int32.ofNat l), .ref (rs.getD j 0), .int (Int32.ofNat i), .ref (r)], A)) rfl ?_
                rcases hs9 : wr_br M inner (wr_plub M S0 S1 i y0 k0) (wr_rest M i y0 k0) k0 w with c9 | w9
                · skip
                  obtain ⟨w291, A287, p292, c293, g288, h289, f290⟩ := wr_Q0 (wi_plu (d := d - 1) (D0 := D0) (l := l) (inner := inner) (i := i) (j := j) (k := k0) (y := y0) (by omega) (by omega) (by omega) (by omega) hj hkb hyb hw0 hw1 hxj hin hwf h) hs9
                  have f294 := (wr_F.refl A s0 s1 u).trans f290
                  have p295 : c9 ≠ 3 → w <+: w291 := fun e => (List.prefix_refl w).trans (p292 e)
                  refine wp_cv (A' := A287) (v := some (.int (Int32.ofNat c9))) rfl rfl rfl rfl rfl h.rc (by omega) (g288) rfl ?_
                  show am_wp d 106 (147, [some (.ref (r)), some (.int (Int32.ofNat i)), some (.int (Int32.ofNat kd)), some (.int (Int32.ofNat l)), some (.ref (rs.getD j 0)), some (.int (Int32.ofNat 1))], [.int (Int32.ofNat c9)], A287) _
                  refine wp_rt rfl rfl rfl ?_
                  have hres : wr_val M vf S0 S1 inner i w = .error c9 := by first | (exfalso; omega) | simp [wr_val, hkd, hvf, h80, h81, h160, h239, h240, h255, hs9]
                  rw [hres]
                  exact wr_Q_er c293 p295 h289 f294
                · skip
                  obtain ⟨A296, g297, h298, f299⟩ := wr_Q1 (wi_plu (d := d - 1) (D0 := D0) (l := l) (inner := inner) (i := i) (j := j) (k := k0) (y := y0) (by omega) (by omega) (by omega) (by omega) hj hkb hyb hw0 hw1 hxj hin hwf h) hs9
                  have f300 := (wr_F.refl A s0 s1 u).trans f299
                  refine wp_cv (A' := A296) (v := some (.int (Int32.ofNat 0))) rfl rfl rfl rfl rfl h.rc (by omega) (g297) rfl ?_
                  show am_wp d 106 (147, [some (.ref (r)), some (.int (Int32.ofNat i)), some (.int (Int32.ofNat kd)), some (.int (Int32.ofNat l)), some (.ref (rs.getD j 0)), some (.int (Int32.ofNat 1))], [.int (Int32.ofNat 0)], A296) _
                  refine wp_rt rfl rfl rfl ?_
                  have hres : wr_val M vf S0 S1 inner i w = .ok w9 := by first | (exfalso; omega) | simp [wr_val, hkd, hvf, h80, h81, h160, h239, h240, h255, hs9]
                  rw [hres]
                  exact wr_Q_ok h298 f300
          · skip
            rw [ne_eq, i32_eq (by omega) (by omega)] at h239
            replace h239 := Decidable.not_not.mp h239
            refine wp_st 1 (f' := (104, [some (.ref (r)), some (.int (Int32.ofNat i)), some (.int (Int32.ofNat kd)), some (.int (Int32.ofNat l)), some (.ref (rs.getD j 0)), some (.int (Int32.ofNat 1))], [.ref (rs.getD j 0)], A)) rfl ?_
            refine wp_gf rfl rfl (h.vc hj hxj) rfl rfl ?_
            refine wp_iz rfl rfl rfl (fun (h301 : (Int32.ofNat k0) ≠ (Int32.ofNat 0)) => ?_) (fun (h301 : ¬ ((Int32.ofNat k0) ≠ (Int32.ofNat 0))) => ?_)
            · skip
              rw [ne_eq, i32_eq (by omega) (by omega)] at h301
              refine wp_st 1 (f' := (126, [some (.ref (r)), some (.int (Int32.ofNat i)), some (.int (Int32.ofNat kd)), some (.int (Int32.ofNat l)), some (.ref (rs.getD j 0)), some (.int (Int32.ofNat 1))], [.int (Int32.ofNat 2)], A)) rfl ?_
              refine wp_rt rfl rfl rfl ?_
              have hres : wr_val M vf S0 S1 inner i w = .error 2 := by first | (exfalso; omega) | simp [wr_val, hkd, hvf, h80, h81, h160, h239, h301]
              rw [hres]
              exact wr_Q_er (by omega) (fun _ => (List.prefix_refl w)) h (wr_F.refl A s0 s1 u)
            · skip
              rw [ne_eq, i32_eq (by omega) (by omega)] at h301
              replace h301 := Decidable.not_not.mp h301
              refine wp_st 1 (f' := (111, [some (.ref (r)), some (.int (Int32.ofNat i)), some (.int (Int32.ofNat kd)), some (.int (Int32.ofNat l)), some (.ref (rs.getD j 0)), some (.int (Int32.ofNat 1))], [.ref (r)], A)) rfl ?_
              refine wp_gf rfl rfl h.rc rfl rfl ?_
              refine wp_st 1 (f' := (116, [some (.ref (r)), some (.int (Int32.ofNat i)), some (.int (Int32.ofNat kd)), some (.int (Int32.ofNat l)), some (.ref (rs.getD j 0)), some (.int (Int32.ofNat 1))], [.ref (rs.getD j 0), .ref (u)], A)) rfl ?_
              refine wp_gf rfl rfl (h.vc hj hxj) rfl rfl ?_
              rcases hx119 : wr_put w (wr_hex y0) with c119 | y119
              · skip
                obtain rfl := wr_put_er hx119
                obtain ⟨w306, A302, p307, c308, g303, h304, f305⟩ := wr_Q0 (wr_w h (show sb_wrt _ _ _ _ _ _ (wr_hex y0) from op_hx (d := d - 1) (by omega) h.O)) hx119
                have f309 := (wr_F.refl A s0 s1 u).trans f305
                have p310 : 3 ≠ 3 → w <+: w306 := fun e => (List.prefix_refl w).trans (p307 e)
                refine wp_cv (A' := A302) (v := some (.int (Int32.ofNat 3))) rfl rfl rfl rfl rfl h.oc (by omega) (g303) rfl ?_
                show am_wp d 106 (122, [some (.ref (r)), some (.int (Int32.ofNat i)), some (.int (Int32.ofNat kd)), some (.int (Int32.ofNat l)), some (.ref (rs.getD j 0)), some (.int (Int32.ofNat 1))], [.int (Int32.ofNat 3)], A302) _
                refine wp_st 1 (f' := (126, [some (.ref (r)), some (.int (Int32.ofNat i)), some (.int (Int32.ofNat kd)), some (.int (Int32.ofNat l)), some (.ref (rs.getD j 0)), some (.int (Int32.ofNat 1))], [.int (Int32.ofNat 3)], A302)) rfl ?_
                refine wp_rt rfl rfl rfl ?_
                have hres : wr_val M vf S0 S1 inner i w = .error 3 := by first | (exfalso; omega) | simp [wr_val, hkd, hvf, h80, h81, h160, h239, h301, hx119]
                rw [hres]
                exact wr_Q_er (by omega) p310 h304 f309
              · skip
                obtain ⟨A311, g312, h313, f314⟩ := wr_Q1 (wr_w h (show sb_wrt _ _ _ _ _ _ (wr_hex y0) from op_hx (d := d - 1) (by omega) h.O)) hx119
                have f315 := (wr_F.refl A s0 s1 u).trans f314
                have p316 := (List.prefix_refl w).trans (wr_put_ok hx119)
                refine wp_cv (A' := A311) (v := some (.int (Int32.ofNat 0))) rfl rfl rfl rfl rfl h.oc (by omega) (g312) rfl ?_
                show am_wp d 106 (122, [some (.ref (r)), some (.int (Int32.ofNat i)), some (.int (Int32.ofNat kd)), some (.int (Int32.ofNat l)), some (.ref (rs.getD j 0)), some (.int (Int32.ofNat 1))], [.int (Int32.ofNat 0)], A311) _
                refine wp_st 1 (f' := (126, [some (.ref (r)), some (.int (Int32.ofNat i)), some (.int (Int32.ofNat kd)), some (.int (Int32.ofNat l)), some (.ref (rs.getD j 0)), some (.int (Int32.ofNat 1))], [.int (Int32.ofNat 0)], A311)) rfl ?_
                refine wp_rt rfl rfl rfl ?_
                have hres : wr_val M vf S0 S1 inner i w = .ok y119 := by first | (exfalso; omega) | simp [wr_val, hkd, hvf, h80, h81, h160, h239, h301, hx119]
                rw [hres]
                exact wr_Q_ok h313 f315
    · skip
      rw [ne_eq, i32_eq (by omega) (by omega)] at h80
      replace h80 := Decidable.not_not.mp h80
      refine wp_st 4 (f' := (36, [some (.ref (r)), some (.int (Int32.ofNat i)), some (.int (Int32.ofNat kd)), some (.int (Int32.ofNat l)), some (.ref (rs.getD j 0)), none], [.int (Int32.ofNat l), .ref (rs.getD j 0), .int (Int32.ofNat i), .ref (r)], A)) rfl ?_
      rcases hs9 : wr_br M inner (wr_selb M i (.inr (y0, k0))) 0 0 w with c9 | w9
      · skip
        obtain ⟨w321, A317, p322, c323, g318, h319, f320⟩ := wr_Q0 (wi_sel0 (d := d - 1) (D0 := D0) (l := l) (inner := inner) (i := i) (j := j) (by omega) (by omega) (by omega) (by omega) hj (yy := (y0, k0)) hxj hin hwf h) hs9
        have f324 := (wr_F.refl A s0 s1 u).trans f320
        have p325 : c9 ≠ 3 → w <+: w321 := fun e => (List.prefix_refl w).trans (p322 e)
        refine wp_cv (A' := A317) (v := some (.int (Int32.ofNat c9))) rfl rfl rfl rfl rfl h.rc (by omega) (g318) rfl ?_
        show am_wp d 106 (39, [some (.ref (r)), some (.int (Int32.ofNat i)), some (.int (Int32.ofNat kd)), some (.int (Int32.ofNat l)), some (.ref (rs.getD j 0)), none], [.int (Int32.ofNat c9)], A317) _
        refine wp_rt rfl rfl rfl ?_
        have hres : wr_val M vf S0 S1 inner i w = .error c9 := by first | (exfalso; omega) | simp [wr_val, hkd, hvf, h80, hs9]
        rw [hres]
        exact wr_Q_er c323 p325 h319 f324
      · skip
        obtain ⟨A326, g327, h328, f329⟩ := wr_Q1 (wi_sel0 (d := d - 1) (D0 := D0) (l := l) (inner := inner) (i := i) (j := j) (by omega) (by omega) (by omega) (by omega) hj (yy := (y0, k0)) hxj hin hwf h) hs9
        have f330 := (wr_F.refl A s0 s1 u).trans f329
        refine wp_cv (A' := A326) (v := some (.int (Int32.ofNat 0))) rfl rfl rfl rfl rfl h.rc (by omega) (g327) rfl ?_
        show am_wp d 106 (39, [some (.ref (r)), some (.int (Int32.ofNat i)), some (.int (Int32.ofNat kd)), some (.int (Int32.ofNat l)), some (.ref (rs.getD j 0)), none], [.int (Int32.ofNat 0)], A326) _
        refine wp_rt rfl rfl rfl ?_
        have hres : wr_val M vf S0 S1 inner i w = .ok w9 := by first | (exfalso; omega) | simp [wr_val, hkd, hvf, h80, hs9]
        rw [hres]
        exact wr_Q_ok h328 f330
theorem wi_arg {d r m v q s0 s1 u n : Nat} {M : mg} {z len : Bool} {rs : List Nat} {xs : List sb_vt} {S0 S1 : rg} {w : List Nat} {A : am_H} {D0 l : Nat} {inner : wr_i} {vf : wr_v} {i kd : Nat} {top : Bool} (htop : (top = true ∧ l = 0) ∨ (top = false ∧ 0 < l)) (hd : 7 ≤ d) (hd0 : D0 + 4 ≤ d) (hl : l ≤ 3) (hi : i < mg_P M) (hkd : mg_k M i = kd) (hv : vl_ok xs n vf) (hw0 : rg_wf S0) (hw1 : rg_wf S1) (hin : wr_in D0 l r m v q s0 s1 u M z rs xs n S0 S1 len inner) (hwf : mg_wf M) (h : wr_I A r m v q s0 s1 u M z rs xs n S0 S1 len w) : am_wp d 105 (0, am_ent 105 [.ref r, .int (Int32.ofNat i), .int (Int32.ofNat kd), .int (Int32.ofNat l)], [], A) (wr_Q A r m v q s0 s1 u M z rs xs n S0 S1 len w (wr_arg M vf S0 S1 len inner top i w)) := by
  have hlw := h.lenw
  rcases htop with ⟨htp, hl0⟩ | ⟨htp, hl0⟩
  · skip
    refine wp_st 1 (f' := (1, [some (.ref (r)), some (.int (Int32.ofNat i)), some (.int (Int32.ofNat kd)), some (.int (Int32.ofNat l)), none, none], [.ref (r)], A)) rfl ?_
    refine wp_gf rfl rfl h.rc rfl rfl ?_
    refine wp_gf rfl rfl h.oc rfl rfl ?_
    refine wp_st 5 (f' := (13, [some (.ref (r)), some (.int (Int32.ofNat i)), some (.int (Int32.ofNat kd)), some (.int (Int32.ofNat l)), some (.int (Int32.ofNat (w.length))), none], [.int (Int32.ofNat l), .int (Int32.ofNat kd), .int (Int32.ofNat i), .ref (r)], A)) rfl ?_
    rcases hv8 : wr_val M vf S0 S1 inner i w with c8 | w8
    · skip
      obtain ⟨w5, A1, p6, c7, g2, h3, f4⟩ := wr_Q0 (wi_val (d := d - 1) (D0 := D0) (l := l) (inner := inner) (vf := vf) (i := i) (kd := kd) (by omega) (by omega) (by omega) hi hkd hv hw0 hw1 hin hwf h) hv8
      have f8 := (wr_F.refl A s0 s1 u).trans f4
      have p9 : c8 ≠ 3 → w <+: w5 := fun e => (List.prefix_refl w).trans (p6 e)
      refine wp_cv (A' := A1) (v := some (.int (Int32.ofNat c8))) rfl rfl rfl rfl rfl h.rc (by omega) (g2) rfl ?_
      show am_wp d 105 (16, [some (.ref (r)), some (.int (Int32.ofNat i)), some (.int (Int32.ofNat kd)), some (.int (Int32.ofNat l)), some (.int (Int32.ofNat (w.length))), none], [.int (Int32.ofNat c8)], A1) _
      refine wp_st 2 (f' := (19, [some (.ref (r)), some (.int (Int32.ofNat i)), some (.int (Int32.ofNat kd)), some (.int (Int32.ofNat l)), some (.int (Int32.ofNat (w.length))), some (.int (Int32.ofNat c8))], [.ref (r)], A1)) rfl ?_
      refine wp_gf rfl rfl h3.rc rfl rfl ?_
      by_cases b10 : len = true
      · skip
        refine wp_izF rfl rfl (show ¬ (sb_i len = 0) from by rw [b10]; decide) ?_
        refine wp_st 1 (f' := (26, [some (.ref (r)), some (.int (Int32.ofNat i)), some (.int (Int32.ofNat kd)), some (.int (Int32.ofNat l)), some (.int (Int32.ofNat (w.length))), some (.int (Int32.ofNat c8))], [.int (Int32.ofNat l)], A1)) rfl ?_
        refine wp_izF rfl rfl (fun q => q ((i32_eq (a := l) (b := 0) (by omega) (by omega)).mpr (by omega))) ?_
        refine wp_st 2 (f' := (32, [some (.ref (r)), some (.int (Int32.ofNat i)), some (.int (Int32.ofNat kd)), some (.int (Int32.ofNat l)), some (.int (Int32.ofNat (w.length))), some (.int (Int32.ofNat c8))], [.int (Int32.ofNat 1), .int (Int32.ofNat c8)], A1)) rfl ?_
        refine wp_if rfl rfl rfl (fun (h11 : (Int32.ofNat c8) = (Int32.ofNat 1)) => ?_) (fun (h11 : ¬ ((Int32.ofNat c8) = (Int32.ofNat 1))) => ?_)
        · skip
          rw [i32_eq (by omega) (by omega)] at h11
          refine wp_st 1 (f' := (42, [some (.ref (r)), some (.int (Int32.ofNat i)), some (.int (Int32.ofNat kd)), some (.int (Int32.ofNat l)), some (.int (Int32.ofNat (w.length))), some (.int (Int32.ofNat c8))], [.ref (r)], A1)) rfl ?_
          refine wp_gf rfl rfl h3.rc rfl rfl ?_
          refine wp_st 1 (f' := (47, [some (.ref (r)), some (.int (Int32.ofNat i)), some (.int (Int32.ofNat kd)), some (.int (Int32.ofNat l)), some (.int (Int32.ofNat (w.length))), some (.int (Int32.ofNat c8))], [.int (Int32.ofNat (w.length)), .ref (u)], A1)) rfl ?_
          have hpx := p9 (by omega)
          have hct := sb_O.cut h3.O (w := w) hpx
          have hio := h3.out hct.1 hct.2
          obtain ⟨A12, e13⟩ : ∃ B, B = A1.set u (7, [.ref (u + 1), .int (Int32.ofNat w.length)]) := ⟨_, rfl⟩
          rw [← e13] at hio
          refine wp_pf (A' := A12) rfl rfl h3.oc rfl rfl (decide_eq_true (by have := h3.lenw; omega)) rfl e13.symm ?_
          have h14 := hio.1
          have f15 := f8.trans hio.2
          refine wp_st 2 (f' := (52, [some (.ref (r)), some (.int (Int32.ofNat i)), some (.int (Int32.ofNat kd)), some (.int (Int32.ofNat l)), some (.int (Int32.ofNat (w.length))), some (.int (Int32.ofNat c8))], [.ref (r), .ref (r)], A12)) rfl ?_
          refine wp_gf rfl rfl h14.rc rfl rfl ?_
          refine wp_gf rfl rfl h14.mc rfl rfl ?_
          refine wp_st 1 (f' := (59, [some (.ref (r)), some (.int (Int32.ofNat i)), some (.int (Int32.ofNat kd)), some (.int (Int32.ofNat l)), some (.int (Int32.ofNat (w.length))), some (.int (Int32.ofNat c8))], [.int (Int32.ofNat i), .ref (m + 2), .ref (r)], A12)) rfl ?_
          refine wp_mgc h14.N rfl (by omega) rfl ?_
          rcases hb8 : wr_bare (mg_c M i) w with c7 | w7
          · skip
            obtain ⟨w20, A16, p21, c22, g17, h18, f19⟩ := wr_Q0 (wi_bare (d := d - 1) (by omega) h14) hb8
            have f23 := f15.trans f19
            have p24 : c7 ≠ 3 → w <+: w20 := fun e => (List.prefix_refl w).trans (p21 e)
            refine wp_cv (A' := A16) (v := some (.int (Int32.ofNat c7))) rfl rfl rfl rfl rfl h14.rc (by omega) (g17) rfl ?_
            show am_wp d 105 (63, [some (.ref (r)), some (.int (Int32.ofNat i)), some (.int (Int32.ofNat kd)), some (.int (Int32.ofNat l)), some (.int (Int32.ofNat (w.length))), some (.int (Int32.ofNat c8))], [.int (Int32.ofNat c7)], A16) _
            refine wp_st 2 (f' := (67, [some (.ref (r)), some (.int (Int32.ofNat i)), some (.int (Int32.ofNat kd)), some (.int (Int32.ofNat l)), some (.int (Int32.ofNat (w.length))), some (.int (Int32.ofNat c7))], [.int (Int32.ofNat c7)], A16)) rfl ?_
            refine wp_rt rfl rfl rfl ?_
            have hres : wr_arg M vf S0 S1 len inner top i w = .error c7 := by first | (exfalso; omega) | simp [wr_arg, htp, hv8, b10, h11, hb8]
            rw [hres]
            exact wr_Q_er c22 p24 h18 f23
          · skip
            obtain ⟨A25, g26, h27, f28⟩ := wr_Q1 (wi_bare (d := d - 1) (by omega) h14) hb8
            have f29 := f15.trans f28
            refine wp_cv (A' := A25) (v := some (.int (Int32.ofNat 0))) rfl rfl rfl rfl rfl h14.rc (by omega) (g26) rfl ?_
            show am_wp d 105 (63, [some (.ref (r)), some (.int (Int32.ofNat i)), some (.int (Int32.ofNat kd)), some (.int (Int32.ofNat l)), some (.int (Int32.ofNat (w.length))), some (.int (Int32.ofNat c8))], [.int (Int32.ofNat 0)], A25) _
            refine wp_st 2 (f' := (67, [some (.ref (r)), some (.int (Int32.ofNat i)), some (.int (Int32.ofNat kd)), some (.int (Int32.ofNat l)), some (.int (Int32.ofNat (w.length))), some (.int (Int32.ofNat 0))], [.int (Int32.ofNat 0)], A25)) rfl ?_
            refine wp_rt rfl rfl rfl ?_
            have hres : wr_arg M vf S0 S1 len inner top i w = .ok w7 := by first | (exfalso; omega) | simp [wr_arg, htp, hv8, b10, h11, hb8]
            rw [hres]
            exact wr_Q_ok h27 f29
        · skip
          rw [i32_eq (by omega) (by omega)] at h11
          refine wp_st 2 (f' := (38, [some (.ref (r)), some (.int (Int32.ofNat i)), some (.int (Int32.ofNat kd)), some (.int (Int32.ofNat l)), some (.int (Int32.ofNat (w.length))), some (.int (Int32.ofNat c8))], [.int (Int32.ofNat 2), .int (Int32.ofNat c8)], A1)) rfl ?_
          refine wp_if rfl rfl rfl (fun (h30 : (Int32.ofNat c8) ≠ (Int32.ofNat 2)) => ?_) (fun (h30 : ¬ ((Int32.ofNat c8) ≠ (Int32.ofNat 2))) => ?_)
          · skip
            rw [ne_eq, i32_eq (by omega) (by omega)] at h30
            refine wp_st 1 (f' := (67, [some (.ref (r)), some (.int (Int32.ofNat i)), some (.int (Int32.ofNat kd)), some (.int (Int32.ofNat l)), some (.int (Int32.ofNat (w.length))), some (.int (Int32.ofNat c8))], [.int (Int32.ofNat c8)], A1)) rfl ?_
            refine wp_rt rfl rfl rfl ?_
            have hres : wr_arg M vf S0 S1 len inner top i w = .error c8 := by first | (exfalso; omega) | simp [wr_arg, htp, hv8, b10, h11, h30]
            rw [hres]
            exact wr_Q_er c7 p9 h3 f8
          · skip
            rw [ne_eq, i32_eq (by omega) (by omega)] at h30
            replace h30 := Decidable.not_not.mp h30
            refine wp_st 1 (f' := (42, [some (.ref (r)), some (.int (Int32.ofNat i)), some (.int (Int32.ofNat kd)), some (.int (Int32.ofNat l)), some (.int (Int32.ofNat (w.length))), some (.int (Int32.ofNat c8))], [.ref (r)], A1)) rfl ?_
            refine wp_gf rfl rfl h3.rc rfl rfl ?_
            refine wp_st 1 (f' := (47, [some (.ref (r)), some (.int (Int32.ofNat i)), some (.int (Int32.ofNat kd)), some (.int (Int32.ofNat l)), some (.int (Int32.ofNat (w.length))), some (.int (Int32.ofNat c8))], [.int (Int32.ofNat (w.length)), .ref (u)], A1)) rfl ?_
            have hpx := p9 (by omega)
            have hct := sb_O.cut h3.O (w := w) hpx
            have hio := h3.out hct.1 hct.2
            obtain ⟨A31, e32⟩ : ∃ B, B = A1.set u (7, [.ref (u + 1), .int (Int32.ofNat w.length)]) := ⟨_, rfl⟩
            rw [← e32] at hio
            refine wp_pf (A' := A31) rfl rfl h3.oc rfl rfl (decide_eq_true (by have := h3.lenw; omega)) rfl e32.symm ?_
            have h33 := hio.1
            have f34 := f8.trans hio.2
            refine wp_st 2 (f' := (52, [some (.ref (r)), some (.int (Int32.ofNat i)), some (.int (Int32.ofNat kd)), some (.int (Int32.ofNat l)), some (.int (Int32.ofNat (w.length))), some (.int (Int32.ofNat c8))], [.ref (r), .ref (r)], A31)) rfl ?_
            refine wp_gf rfl rfl h33.rc rfl rfl ?_
            refine wp_gf rfl rfl h33.mc rfl rfl ?_
            refine wp_st 1 (f' := (59, [some (.ref (r)), some (.int (Int32.ofNat i)), some (.int (Int32.ofNat kd)), some (.int (Int32.ofNat l)), some (.int (Int32.ofNat (w.length))), some (.int (Int32.ofNat c8))], [.int (Int32.ofNat i), .ref (m + 2), .ref (r)], A31)) rfl ?_
            refine wp_mgc h33.N rfl (by omega) rfl ?_
            rcases hb8 : wr_bare (mg_c M i) w with c7 | w7
            · skip
              obtain ⟨w39, A35, p40, c41, g36, h37, f38⟩ := wr_Q0 (wi_bare (d := d - 1) (by omega) h33) hb8
              have f42 := f34.trans f38
              have p43 : c7 ≠ 3 → w <+: w39 := fun e => (List.prefix_refl w).trans (p40 e)
              refine wp_cv (A' := A35) (v := some (.int (Int32.ofNat c7))) rfl rfl rfl rfl rfl h33.rc (by omega) (g36) rfl ?_
              show am_wp d 105 (63, [some (.ref (r)), some (.int (Int32.ofNat i)), some (.int (Int32.ofNat kd)), some (.int (Int32.ofNat l)), some (.int (Int32.ofNat (w.length))), some (.int (Int32.ofNat c8))], [.int (Int32.ofNat c7)], A35) _
              refine wp_st 2 (f' := (67, [some (.ref (r)), some (.int (Int32.ofNat i)), some (.int (Int32.ofNat kd)), some (.int (Int32.ofNat l)), some (.int (Int32.ofNat (w.length))), some (.int (Int32.ofNat c7))], [.int (Int32.ofNat c7)], A35)) rfl ?_
              refine wp_rt rfl rfl rfl ?_
              have hres : wr_arg M vf S0 S1 len inner top i w = .error c7 := by first | (exfalso; omega) | simp [wr_arg, htp, hv8, b10, h11, h30, hb8]
              rw [hres]
              exact wr_Q_er c41 p43 h37 f42
            · skip
              obtain ⟨A44, g45, h46, f47⟩ := wr_Q1 (wi_bare (d := d - 1) (by omega) h33) hb8
              have f48 := f34.trans f47
              refine wp_cv (A' := A44) (v := some (.int (Int32.ofNat 0))) rfl rfl rfl rfl rfl h33.rc (by omega) (g45) rfl ?_
              show am_wp d 105 (63, [some (.ref (r)), some (.int (Int32.ofNat i)), some (.int (Int32.ofNat kd)), some (.int (Int32.ofNat l)), some (.int (Int32.ofNat (w.length))), some (.int (Int32.ofNat c8))], [.int (Int32.ofNat 0)], A44) _
              refine wp_st 2 (f' := (67, [some (.ref (r)), some (.int (Int32.ofNat i)), some (.int (Int32.ofNat kd)), some (.int (Int32.ofNat l)), some (.int (Int32.ofNat (w.length))), some (.int (Int32.ofNat 0))], [.int (Int32.ofNat 0)], A44)) rfl ?_
              refine wp_rt rfl rfl rfl ?_
              have hres : wr_arg M vf S0 S1 len inner top i w = .ok w7 := by first | (exfalso; omega) | simp [wr_arg, htp, hv8, b10, h11, h30, hb8]
              rw [hres]
              exact wr_Q_ok h46 f48
      · skip
        have b10f : len = false := by simpa using b10
        refine wp_izT rfl rfl (show sb_i len = 0 from by rw [b10f]; decide) ?_
        refine wp_st 1 (f' := (67, [some (.ref (r)), some (.int (Int32.ofNat i)), some (.int (Int32.ofNat kd)), some (.int (Int32.ofNat l)), some (.int (Int32.ofNat (w.length))), some (.int (Int32.ofNat c8))], [.int (Int32.ofNat c8)], A1)) rfl ?_
        refine wp_rt rfl rfl rfl ?_
        have hres : wr_arg M vf S0 S1 len inner top i w = .error c8 := by first | (exfalso; omega) | simp [wr_arg, htp, hv8, b10]
        rw [hres]
        exact wr_Q_er c7 p9 h3 f8
    · skip
      obtain ⟨A49, g50, h51, f52⟩ := wr_Q1 (wi_val (d := d - 1) (D0 := D0) (l := l) (inner := inner) (vf := vf) (i := i) (kd := kd) (by omega) (by omega) (by omega) hi hkd hv hw0 hw1 hin hwf h) hv8
      have f53 := (wr_F.refl A s0 s1 u).trans f52
      refine wp_cv (A' := A49) (v := some (.int (Int32.ofNat 0))) rfl rfl rfl rfl rfl h.rc (by omega) (g50) rfl ?_
      show am_wp d 105 (16, [some (.ref (r)), some (.int (Int32.ofNat i)), some (.int (Int32.ofNat kd)), some (.int (Int32.ofNat l)), some (.int (Int32.ofNat (w.length))), none], [.int (Int32.ofNat 0)], A49) _
      refine wp_st 2 (f' := (19, [some (.ref (r)), some (.int (Int32.ofNat i)), some (.int (Int32.ofNat kd)), some (.int (Int32.ofNat l)), some (.int (Int32.ofNat (w.length))), some (.int (Int32.ofNat 0))], [.ref (r)], A49)) rfl ?_
      refine wp_gf rfl rfl h51.rc rfl rfl ?_
      by_cases b54 : len = true
      · skip
        refine wp_izF rfl rfl (show ¬ (sb_i len = 0) from by rw [b54]; decide) ?_
        refine wp_st 1 (f' := (26, [some (.ref (r)), some (.int (Int32.ofNat i)), some (.int (Int32.ofNat kd)), some (.int (Int32.ofNat l)), some (.int (Int32.ofNat (w.length))), some (.int (Int32.ofNat 0))], [.int (Int32.ofNat l)], A49)) rfl ?_
        refine wp_izF rfl rfl (fun q => q ((i32_eq (a := l) (b := 0) (by omega) (by omega)).mpr (by omega))) ?_
        refine wp_st 2 (f' := (32, [some (.ref (r)), some (.int (Int32.ofNat i)), some (.int (Int32.ofNat kd)), some (.int (Int32.ofNat l)), some (.int (Int32.ofNat (w.length))), some (.int (Int32.ofNat 0))], [.int (Int32.ofNat 1), .int (Int32.ofNat 0)], A49)) rfl ?_
        refine wp_ifF rfl rfl (show ¬ ((Int32.ofNat 0) = (Int32.ofNat 1)) from by decide) ?_
        refine wp_st 2 (f' := (38, [some (.ref (r)), some (.int (Int32.ofNat i)), some (.int (Int32.ofNat kd)), some (.int (Int32.ofNat l)), some (.int (Int32.ofNat (w.length))), some (.int (Int32.ofNat 0))], [.int (Int32.ofNat 2), .int (Int32.ofNat 0)], A49)) rfl ?_
        refine wp_ifT rfl rfl (show (Int32.ofNat 0) ≠ (Int32.ofNat 2) from by decide) ?_
        refine wp_st 1 (f' := (67, [some (.ref (r)), some (.int (Int32.ofNat i)), some (.int (Int32.ofNat kd)), some (.int (Int32.ofNat l)), some (.int (Int32.ofNat (w.length))), some (.int (Int32.ofNat 0))], [.int (Int32.ofNat 0)], A49)) rfl ?_
        refine wp_rt rfl rfl rfl ?_
        have hres : wr_arg M vf S0 S1 len inner top i w = .ok w8 := by first | (exfalso; omega) | simp [wr_arg, htp, hv8, b54]
        rw [hres]
        exact wr_Q_ok h51 f53
      · skip
        have b54f : len = false := by simpa using b54
        refine wp_izT rfl rfl (show sb_i len = 0 from by rw [b54f]; decide) ?_
        refine wp_st 1 (f' := (67, [some (.ref (r)), some (.int (Int32.ofNat i)), some (.int (Int32.ofNat kd)), some (.int (Int32.ofNat l)), some (.int (Int32.ofNat (w.length))), some (.int (Int32.ofNat 0))], [.int (Int32.ofNat 0)], A49)) rfl ?_
        refine wp_rt rfl rfl rfl ?_
        have hres : wr_arg M vf S0 S1 len inner top i w = .ok w8 := by first | (exfalso; omega) | simp [wr_arg, htp, hv8, b54]
        rw [hres]
        exact wr_Q_ok h51 f53
  · skip
    refine wp_st 1 (f' := (1, [some (.ref (r)), some (.int (Int32.ofNat i)), some (.int (Int32.ofNat kd)), some (.int (Int32.ofNat l)), none, none], [.ref (r)], A)) rfl ?_
    refine wp_gf rfl rfl h.rc rfl rfl ?_
    refine wp_gf rfl rfl h.oc rfl rfl ?_
    refine wp_st 5 (f' := (13, [some (.ref (r)), some (.int (Int32.ofNat i)), some (.int (Int32.ofNat kd)), some (.int (Int32.ofNat l)), some (.int (Int32.ofNat (w.length))), none], [.int (Int32.ofNat l), .int (Int32.ofNat kd), .int (Int32.ofNat i), .ref (r)], A)) rfl ?_
    rcases hv8 : wr_val M vf S0 S1 inner i w with c8 | w8
    · skip
      obtain ⟨w5, A1, p6, c7, g2, h3, f4⟩ := wr_Q0 (wi_val (d := d - 1) (D0 := D0) (l := l) (inner := inner) (vf := vf) (i := i) (kd := kd) (by omega) (by omega) (by omega) hi hkd hv hw0 hw1 hin hwf h) hv8
      have f8 := (wr_F.refl A s0 s1 u).trans f4
      have p9 : c8 ≠ 3 → w <+: w5 := fun e => (List.prefix_refl w).trans (p6 e)
      refine wp_cv (A' := A1) (v := some (.int (Int32.ofNat c8))) rfl rfl rfl rfl rfl h.rc (by omega) (g2) rfl ?_
      show am_wp d 105 (16, [some (.ref (r)), some (.int (Int32.ofNat i)), some (.int (Int32.ofNat kd)), some (.int (Int32.ofNat l)), some (.int (Int32.ofNat (w.length))), none], [.int (Int32.ofNat c8)], A1) _
      refine wp_st 2 (f' := (19, [some (.ref (r)), some (.int (Int32.ofNat i)), some (.int (Int32.ofNat kd)), some (.int (Int32.ofNat l)), some (.int (Int32.ofNat (w.length))), some (.int (Int32.ofNat c8))], [.ref (r)], A1)) rfl ?_
      refine wp_gf rfl rfl h3.rc rfl rfl ?_
      by_cases b10 : len = true
      · skip
        refine wp_izF rfl rfl (show ¬ (sb_i len = 0) from by rw [b10]; decide) ?_
        refine wp_st 1 (f' := (26, [some (.ref (r)), some (.int (Int32.ofNat i)), some (.int (Int32.ofNat kd)), some (.int (Int32.ofNat l)), some (.int (Int32.ofNat (w.length))), some (.int (Int32.ofNat c8))], [.int (Int32.ofNat l)], A1)) rfl ?_
        refine wp_izT rfl rfl (fun q => absurd ((i32_eq (a := l) (b := 0) (by omega) (by omega)).mp q) (by omega)) ?_
        refine wp_st 1 (f' := (67, [some (.ref (r)), some (.int (Int32.ofNat i)), some (.int (Int32.ofNat kd)), some (.int (Int32.ofNat l)), some (.int (Int32.ofNat (w.length))), some (.int (Int32.ofNat c8))], [.int (Int32.ofNat c8)], A1)) rfl ?_
        refine wp_rt rfl rfl rfl ?_
        have hres : wr_arg M vf S0 S1 len inner top i w = .error c8 := by first | (exfalso; omega) | simp [wr_arg, htp, hv8, b10]
        rw [hres]
        exact wr_Q_er c7 p9 h3 f8
      · skip
        have b10f : len = false := by simpa using b10
        refine wp_izT rfl rfl (show sb_i len = 0 from by rw [b10f]; decide) ?_
        refine wp_st 1 (f' := (67, [some (.ref (r)), some (.int (Int32.ofNat i)), some (.int (Int32.ofNat kd)), some (.int (Int32.ofNat l)), some (.int (Int32.ofNat (w.length))), some (.int (Int32.ofNat c8))], [.int (Int32.ofNat c8)], A1)) rfl ?_
        refine wp_rt rfl rfl rfl ?_
        have hres : wr_arg M vf S0 S1 len inner top i w = .error c8 := by first | (exfalso; omega) | simp [wr_arg, htp, hv8, b10]
        rw [hres]
        exact wr_Q_er c7 p9 h3 f8
    · skip
      obtain ⟨A11, g12, h13, f14⟩ := wr_Q1 (wi_val (d := d - 1) (D0 := D0) (l := l) (inner := inner) (vf := vf) (i := i) (kd := kd) (by omega) (by omega) (by omega) hi hkd hv hw0 hw1 hin hwf h) hv8
      have f15 := (wr_F.refl A s0 s1 u).trans f14
      refine wp_cv (A' := A11) (v := some (.int (Int32.ofNat 0))) rfl rfl rfl rfl rfl h.rc (by omega) (g12) rfl ?_
      show am_wp d 105 (16, [some (.ref (r)), some (.int (Int32.ofNat i)), some (.int (Int32.ofNat kd)), some (.int (Int32.ofNat l)), some (.int (Int32.ofNat (w.length))), none], [.int (Int32.ofNat 0)], A11) _
      refine wp_st 2 (f' := (19, [some (.ref (r)), some (.int (Int32.ofNat i)), some (.int (Int32.ofNat kd)), some (.int (Int32.ofNat l)), some (.int (Int32.ofNat (w.length))), some (.int (Int32.ofNat 0))], [.ref (r)], A11)) rfl ?_
      refine wp_gf rfl rfl h13.rc rfl rfl ?_
      by_cases b16 : len = true
      · skip
        refine wp_izF rfl rfl (show ¬ (sb_i len = 0) from by rw [b16]; decide) ?_
        refine wp_st 1 (f' := (26, [some (.ref (r)), some (.int (Int32.ofNat i)), some (.int (Int32.ofNat kd)), some (.int (Int32.ofNat l)), some (.int (Int32.ofNat (w.length))), some (.int (Int32.ofNat 0))], [.int (Int32.ofNat l)], A11)) rfl ?_
        refine wp_izT rfl rfl (fun q => absurd ((i32_eq (a := l) (b := 0) (by omega) (by omega)).mp q) (by omega)) ?_
        refine wp_st 1 (f' := (67, [some (.ref (r)), some (.int (Int32.ofNat i)), some (.int (Int32.ofNat kd)), some (.int (Int32.ofNat l)), some (.int (Int32.ofNat (w.length))), some (.int (Int32.ofNat 0))], [.int (Int32.ofNat 0)], A11)) rfl ?_
        refine wp_rt rfl rfl rfl ?_
        have hres : wr_arg M vf S0 S1 len inner top i w = .ok w8 := by first | (exfalso; omega) | simp [wr_arg, htp, hv8, b16]
        rw [hres]
        exact wr_Q_ok h13 f15
      · skip
        have b16f : len = false := by simpa using b16
        refine wp_izT rfl rfl (show sb_i len = 0 from by rw [b16f]; decide) ?_
        refine wp_st 1 (f' := (67, [some (.ref (r)), some (.int (Int32.ofNat i)), some (.int (Int32.ofNat kd)), some (.int (Int32.ofNat l)), some (.int (Int32.ofNat (w.length))), some (.int (Int32.ofNat 0))], [.int (Int32.ofNat 0)], A11)) rfl ?_
        refine wp_rt rfl rfl rfl ?_
        have hres : wr_arg M vf S0 S1 len inner top i w = .ok w8 := by first | (exfalso; omega) | simp [wr_arg, htp, hv8, b16]
        rw [hres]
        exact wr_Q_ok h13 f15
theorem wi_loop {d r m v q s0 s1 u n : Nat} {M : mg} {z len : Bool} {rs : List Nat} {xs : List sb_vt} {S0 S1 : rg} {D0 l : Nat} {inner : wr_i} {vf : wr_v} {e k : Nat} {y : Int} {z1 : Int32} {top : Bool} (htop : (top = true ∧ l = 0) ∨ (top = false ∧ 0 < l)) (hd : 8 ≤ d) (hd0 : D0 + 5 ≤ d) (hl : l ≤ 3) (he : e ≤ 120) (hk : k ≤ 6) (hy : y.natAbs < 9223372036854775808) (hinn : wr_inn inner) (hv : vl_ok xs n vf) (hw0 : rg_wf S0) (hw1 : rg_wf S1) (hin : wr_in D0 l r m v q s0 s1 u M z rs xs n S0 S1 len inner) (hwf : mg_wf M) : ∀ (f i : Nat) (w : List Nat) (A : am_H) (b10 : Option Value), f ≤ 120 → i ≤ 120 → wr_I A r m v q s0 s1 u M z rs xs n S0 S1 len w → am_wp d 101 (9, [some (.ref r), some (.int z1), some (.int (Int32.ofNat e)), some (.int (Int32.ofNat l)), some (.long (Int64.ofInt y)), none, some (.int (Int32.ofNat k)), some (.int (Int32.ofNat 0)), some (.int (Int32.ofNat i)), some (.int (Int32.ofNat (120 - f))), b10], [], A) (wr_Q A r m v q s0 s1 u M z rs xs n S0 S1 len w (wr_loop M vf S0 S1 len inner top e y k f i w)) := by
  intro f
  induction f with
  | zero =>
    intro i w A b10 hf hi h
    have hlw := h.lenw
    refine wp_st 2 (f' := (13, [some (.ref (r)), some (.int (z1)), some (.int (Int32.ofNat e)), some (.int (Int32.ofNat l)), some (.long (Int64.ofInt y)), none, some (.int (Int32.ofNat k)), some (.int (Int32.ofNat 0)), some (.int (Int32.ofNat i)), some (.int (Int32.ofNat (120 - 0))), b10], [.int (Int32.ofNat 120), .int (Int32.ofNat (120 - 0))], A)) rfl ?_
    refine wp_ifT rfl (show am_tgt 13 (119) = 132 by decide +kernel) ((i32_le (a := 120) (b := 120 - 0) (by omega) (by omega)).mpr (by omega)) ?_
    refine wp_st 1 (f' := (134, [some (.ref (r)), some (.int (z1)), some (.int (Int32.ofNat e)), some (.int (Int32.ofNat l)), some (.long (Int64.ofInt y)), none, some (.int (Int32.ofNat k)), some (.int (Int32.ofNat 0)), some (.int (Int32.ofNat i)), some (.int (Int32.ofNat (120 - 0))), b10], [.int (Int32.ofNat 0)], A)) rfl ?_
    refine wp_rt rfl rfl rfl ?_
    have hres : wr_loop M vf S0 S1 len inner top e y k 0 i w = .ok w := by first | (exfalso; omega) | simp [wr_loop, wr_part]
    rw [hres]
    exact wr_Q_ok h (wr_F.refl A s0 s1 u)
  | succ f ih =>
    intro i w A b10 hf hi h
    have hlw := h.lenw
    refine wp_st 2 (f' := (13, [some (.ref (r)), some (.int (z1)), some (.int (Int32.ofNat e)), some (.int (Int32.ofNat l)), some (.long (Int64.ofInt y)), none, some (.int (Int32.ofNat k)), some (.int (Int32.ofNat 0)), some (.int (Int32.ofNat i)), some (.int (Int32.ofNat (120 - (f + 1)))), b10], [.int (Int32.ofNat 120), .int (Int32.ofNat (120 - (f + 1)))], A)) rfl ?_
    refine wp_ifF rfl rfl (fun q => absurd ((i32_le (a := 120) (b := 120 - (f + 1)) (by omega) (by omega)).mp q) (by omega)) ?_
    refine wp_st 1 (f' := (18, [some (.ref (r)), some (.int (z1)), some (.int (Int32.ofNat e)), some (.int (Int32.ofNat l)), some (.long (Int64.ofInt y)), none, some (.int (Int32.ofNat k)), some (.int (Int32.ofNat 0)), some (.int (Int32.ofNat i)), some (.int (Int32.ofNat (120 - (f + 1)))), b10], [.int (Int32.ofNat 0)], A)) rfl ?_
    refine wp_izF rfl rfl (show ¬ ((Int32.ofNat 0) ≠ (Int32.ofNat 0)) from by decide) ?_
    refine wp_st 2 (f' := (24, [some (.ref (r)), some (.int (z1)), some (.int (Int32.ofNat e)), some (.int (Int32.ofNat l)), some (.long (Int64.ofInt y)), none, some (.int (Int32.ofNat k)), some (.int (Int32.ofNat 0)), some (.int (Int32.ofNat i)), some (.int (Int32.ofNat (120 - (f + 1)))), b10], [.int (Int32.ofNat e), .int (Int32.ofNat i)], A)) rfl ?_
    refine wp_if rfl rfl rfl (fun (h1 : (Int32.ofNat e) ≤ (Int32.ofNat i)) => ?_) (fun (h1 : ¬ ((Int32.ofNat e) ≤ (Int32.ofNat i))) => ?_)
    · skip
      rw [i32_le (by omega) (by omega)] at h1
      refine wp_st 1 (f' := (40, [some (.ref (r)), some (.int (z1)), some (.int (Int32.ofNat e)), some (.int (Int32.ofNat l)), some (.long (Int64.ofInt y)), none, some (.int (Int32.ofNat k)), some (.int (Int32.ofNat 0)), some (.int (Int32.ofNat i)), some (.int (Int32.ofNat (120 - (f + 1)))), b10], [.int (Int32.ofNat 0)], A)) rfl ?_
      refine wp_rt rfl rfl rfl ?_
      have hres : wr_loop M vf S0 S1 len inner top e y k (f + 1) i w = .ok w := by first | (exfalso; omega) | simp [wr_loop, wr_part, h1]
      rw [hres]
      exact wr_Q_ok h (wr_F.refl A s0 s1 u)
    · skip
      rw [i32_le (by omega) (by omega)] at h1
      have h1n : ¬ e ≤ i := by omega
      refine wp_st 1 (f' := (28, [some (.ref (r)), some (.int (z1)), some (.int (Int32.ofNat e)), some (.int (Int32.ofNat l)), some (.long (Int64.ofInt y)), none, some (.int (Int32.ofNat k)), some (.int (Int32.ofNat 0)), some (.int (Int32.ofNat i)), some (.int (Int32.ofNat (120 - (f + 1)))), b10], [.ref (r)], A)) rfl ?_
      refine wp_gf rfl rfl h.rc rfl rfl ?_
      refine wp_st 1 (f' := (33, [some (.ref (r)), some (.int (z1)), some (.int (Int32.ofNat e)), some (.int (Int32.ofNat l)), some (.long (Int64.ofInt y)), none, some (.int (Int32.ofNat k)), some (.int (Int32.ofNat 0)), some (.int (Int32.ofNat i)), some (.int (Int32.ofNat (120 - (f + 1)))), b10], [.int (Int32.ofNat i), .ref (m)], A)) rfl ?_
      by_cases hPi : i < mg_P M
      · skip
        have hPn : ¬ mg_P M ≤ i := by omega
        refine wp_cv (A' := A) (v := some (.int (Int32.ofNat 1))) rfl rfl rfl rfl rfl h.mc (by omega) (mn_isp1 (by omega) h.N) rfl ?_
        show am_wp d 101 (36, [some (.ref (r)), some (.int (z1)), some (.int (Int32.ofNat e)), some (.int (Int32.ofNat l)), some (.long (Int64.ofInt y)), none, some (.int (Int32.ofNat k)), some (.int (Int32.ofNat 0)), some (.int (Int32.ofNat i)), some (.int (Int32.ofNat (120 - (f + 1)))), b10], [.int (Int32.ofNat 1)], A) _
        refine wp_izT rfl rfl (show (Int32.ofNat 1) ≠ (Int32.ofNat 0) from by decide) ?_
        refine wp_st 1 (f' := (42, [some (.ref (r)), some (.int (z1)), some (.int (Int32.ofNat e)), some (.int (Int32.ofNat l)), some (.long (Int64.ofInt y)), none, some (.int (Int32.ofNat k)), some (.int (Int32.ofNat 0)), some (.int (Int32.ofNat i)), some (.int (Int32.ofNat (120 - (f + 1)))), b10], [.ref (r)], A)) rfl ?_
        refine wp_gf rfl rfl h.rc rfl rfl ?_
        refine wp_gf rfl rfl h.mc rfl rfl ?_
        refine wp_st 1 (f' := (50, [some (.ref (r)), some (.int (z1)), some (.int (Int32.ofNat e)), some (.int (Int32.ofNat l)), some (.long (Int64.ofInt y)), none, some (.int (Int32.ofNat k)), some (.int (Int32.ofNat 0)), some (.int (Int32.ofNat i)), some (.int (Int32.ofNat (120 - (f + 1)))), b10], [.int (Int32.ofNat i), .ref (m + 1)], A)) rfl ?_
        have hwi := hwf.1 i hPi
        refine wp_mgk h.N rfl (by omega) rfl ?_
        refine wp_st 2 (f' := (55, [some (.ref (r)), some (.int (z1)), some (.int (Int32.ofNat e)), some (.int (Int32.ofNat l)), some (.long (Int64.ofInt y)), none, some (.int (Int32.ofNat k)), some (.int (Int32.ofNat 0)), some (.int (Int32.ofNat i)), some (.int (Int32.ofNat (120 - (f + 1)))), some (.int (Int32.ofNat (mg_k M i)))], [.int (Int32.ofNat (mg_k M i))], A)) rfl ?_
        refine wp_iz rfl rfl rfl (fun (h2 : (Int32.ofNat (mg_k M i)) ≠ (Int32.ofNat 0)) => ?_) (fun (h2 : ¬ ((Int32.ofNat (mg_k M i)) ≠ (Int32.ofNat 0))) => ?_)
        · skip
          rw [ne_eq, i32_eq (by omega) (by omega)] at h2
          refine wp_st 2 (f' := (83, [some (.ref (r)), some (.int (z1)), some (.int (Int32.ofNat e)), some (.int (Int32.ofNat l)), some (.long (Int64.ofInt y)), none, some (.int (Int32.ofNat k)), some (.int (Int32.ofNat 0)), some (.int (Int32.ofNat i)), some (.int (Int32.ofNat (120 - (f + 1)))), some (.int (Int32.ofNat (mg_k M i)))], [.int (Int32.ofNat 1), .int (Int32.ofNat (mg_k M i))], A)) rfl ?_
          refine wp_if rfl rfl rfl (fun (h3 : (Int32.ofNat (mg_k M i)) ≠ (Int32.ofNat 1)) => ?_) (fun (h3 : ¬ ((Int32.ofNat (mg_k M i)) ≠ (Int32.ofNat 1))) => ?_)
          · skip
            rw [ne_eq, i32_eq (by omega) (by omega)] at h3
            refine wp_st 4 (f' := (109, [some (.ref (r)), some (.int (z1)), some (.int (Int32.ofNat e)), some (.int (Int32.ofNat l)), some (.long (Int64.ofInt y)), none, some (.int (Int32.ofNat k)), some (.int (Int32.ofNat 0)), some (.int (Int32.ofNat i)), some (.int (Int32.ofNat (120 - (f + 1)))), some (.int (Int32.ofNat (mg_k M i)))], [.int (Int32.ofNat l), .int (Int32.ofNat (mg_k M i)), .int (Int32.ofNat i), .ref (r)], A)) rfl ?_
            rcases ha8 : wr_arg M vf S0 S1 len inner top i w with c8 | w8
            · skip
              obtain ⟨w8, A4, p9, c10, g5, h6, f7⟩ := wr_Q0 (wi_arg (d := d - 1) (D0 := D0) (l := l) (inner := inner) (vf := vf) (i := i) (kd := mg_k M i) (top := top) htop (by omega) (by omega) (by omega) hPi rfl hv hw0 hw1 hin hwf h) ha8
              have f11 := (wr_F.refl A s0 s1 u).trans f7
              have p12 : c8 ≠ 3 → w <+: w8 := fun e => (List.prefix_refl w).trans (p9 e)
              refine wp_cv (A' := A4) (v := some (.int (Int32.ofNat c8))) rfl rfl rfl rfl rfl h.rc (by omega) (g5) rfl ?_
              show am_wp d 101 (112, [some (.ref (r)), some (.int (z1)), some (.int (Int32.ofNat e)), some (.int (Int32.ofNat l)), some (.long (Int64.ofInt y)), none, some (.int (Int32.ofNat k)), some (.int (Int32.ofNat 0)), some (.int (Int32.ofNat i)), some (.int (Int32.ofNat (120 - (f + 1)))), some (.int (Int32.ofNat (mg_k M i)))], [.int (Int32.ofNat c8)], A4) _
              refine wp_st 2 (f' := (115, [some (.ref (r)), some (.int (z1)), some (.int (Int32.ofNat e)), some (.int (Int32.ofNat l)), some (.long (Int64.ofInt y)), none, some (.int (Int32.ofNat k)), some (.int (Int32.ofNat c8)), some (.int (Int32.ofNat i)), some (.int (Int32.ofNat (120 - (f + 1)))), some (.int (Int32.ofNat (mg_k M i)))], [.ref (r)], A4)) rfl ?_
              refine wp_gf rfl rfl h6.rc rfl rfl ?_
              refine wp_gf rfl rfl h6.mc rfl rfl ?_
              refine wp_st 1 (f' := (123, [some (.ref (r)), some (.int (z1)), some (.int (Int32.ofNat e)), some (.int (Int32.ofNat l)), some (.long (Int64.ofInt y)), none, some (.int (Int32.ofNat k)), some (.int (Int32.ofNat c8)), some (.int (Int32.ofNat i)), some (.int (Int32.ofNat (120 - (f + 1)))), some (.int (Int32.ofNat (mg_k M i)))], [.int (Int32.ofNat i), .ref (m + 4)], A4)) rfl ?_
              refine wp_mgx h6.N rfl (by omega) rfl ?_
              refine wp_st 2 (f' := (129, [some (.ref (r)), some (.int (z1)), some (.int (Int32.ofNat e)), some (.int (Int32.ofNat l)), some (.long (Int64.ofInt y)), none, some (.int (Int32.ofNat k)), some (.int (Int32.ofNat c8)), some (.int (Int32.ofNat (mg_x M i))), some (.int ((Int32.ofNat (120 - (f + 1))) + (Int32.ofNat 1))), some (.int (Int32.ofNat (mg_k M i)))], [], A4)) rfl ?_
              rw [i32_add (120 - (f + 1)) (1)]
              refine wp_gt rfl (show am_tgt 129 (-120) = 9 by decide +kernel) ?_
              refine wp_st 2 (f' := (13, [some (.ref (r)), some (.int (z1)), some (.int (Int32.ofNat e)), some (.int (Int32.ofNat l)), some (.long (Int64.ofInt y)), none, some (.int (Int32.ofNat k)), some (.int (Int32.ofNat c8)), some (.int (Int32.ofNat (mg_x M i))), some (.int (Int32.ofNat (120 - (f + 1) + 1))), some (.int (Int32.ofNat (mg_k M i)))], [.int (Int32.ofNat 120), .int (Int32.ofNat (120 - (f + 1) + 1))], A4)) rfl ?_
              refine wp_if rfl (show am_tgt 13 (119) = 132 by decide +kernel) rfl (fun (h13 : (Int32.ofNat 120) ≤ (Int32.ofNat (120 - (f + 1) + 1))) => ?_) (fun (h13 : ¬ ((Int32.ofNat 120) ≤ (Int32.ofNat (120 - (f + 1) + 1)))) => ?_)
              · skip
                rw [i32_le (by omega) (by omega)] at h13
                refine wp_st 1 (f' := (134, [some (.ref (r)), some (.int (z1)), some (.int (Int32.ofNat e)), some (.int (Int32.ofNat l)), some (.long (Int64.ofInt y)), none, some (.int (Int32.ofNat k)), some (.int (Int32.ofNat c8)), some (.int (Int32.ofNat (mg_x M i))), some (.int (Int32.ofNat (120 - (f + 1) + 1))), some (.int (Int32.ofNat (mg_k M i)))], [.int (Int32.ofNat c8)], A4)) rfl ?_
                refine wp_rt rfl rfl rfl ?_
                have hres : wr_loop M vf S0 S1 len inner top e y k (f + 1) i w = .error c8 := by first | (exfalso; omega) | simp [wr_loop, wr_part, h1n, hPn, h2, h3, ha8, h13]
                rw [hres]
                exact wr_Q_er c10 p12 h6 f11
              · skip
                rw [i32_le (by omega) (by omega)] at h13
                refine wp_st 1 (f' := (18, [some (.ref (r)), some (.int (z1)), some (.int (Int32.ofNat e)), some (.int (Int32.ofNat l)), some (.long (Int64.ofInt y)), none, some (.int (Int32.ofNat k)), some (.int (Int32.ofNat c8)), some (.int (Int32.ofNat (mg_x M i))), some (.int (Int32.ofNat (120 - (f + 1) + 1))), some (.int (Int32.ofNat (mg_k M i)))], [.int (Int32.ofNat c8)], A4)) rfl ?_
                refine wp_izT rfl (show am_tgt 18 (114) = 132 by decide +kernel) (fun q => absurd ((i32_eq (a := c8) (b := 0) (by omega) (by omega)).mp q) (by omega)) ?_
                refine wp_st 1 (f' := (134, [some (.ref (r)), some (.int (z1)), some (.int (Int32.ofNat e)), some (.int (Int32.ofNat l)), some (.long (Int64.ofInt y)), none, some (.int (Int32.ofNat k)), some (.int (Int32.ofNat c8)), some (.int (Int32.ofNat (mg_x M i))), some (.int (Int32.ofNat (120 - (f + 1) + 1))), some (.int (Int32.ofNat (mg_k M i)))], [.int (Int32.ofNat c8)], A4)) rfl ?_
                refine wp_rt rfl rfl rfl ?_
                have hres : wr_loop M vf S0 S1 len inner top e y k (f + 1) i w = .error c8 := by first | (exfalso; omega) | simp [wr_loop, wr_part, h1n, hPn, h2, h3, ha8, h13]
                rw [hres]
                exact wr_Q_er c10 p12 h6 f11
            · skip
              obtain ⟨A14, g15, h16, f17⟩ := wr_Q1 (wi_arg (d := d - 1) (D0 := D0) (l := l) (inner := inner) (vf := vf) (i := i) (kd := mg_k M i) (top := top) htop (by omega) (by omega) (by omega) hPi rfl hv hw0 hw1 hin hwf h) ha8
              have f18 := (wr_F.refl A s0 s1 u).trans f17
              have p19 := (List.prefix_refl w).trans (wr_arg_ok hinn ha8)
              refine wp_cv (A' := A14) (v := some (.int (Int32.ofNat 0))) rfl rfl rfl rfl rfl h.rc (by omega) (g15) rfl ?_
              show am_wp d 101 (112, [some (.ref (r)), some (.int (z1)), some (.int (Int32.ofNat e)), some (.int (Int32.ofNat l)), some (.long (Int64.ofInt y)), none, some (.int (Int32.ofNat k)), some (.int (Int32.ofNat 0)), some (.int (Int32.ofNat i)), some (.int (Int32.ofNat (120 - (f + 1)))), some (.int (Int32.ofNat (mg_k M i)))], [.int (Int32.ofNat 0)], A14) _
              refine wp_st 2 (f' := (115, [some (.ref (r)), some (.int (z1)), some (.int (Int32.ofNat e)), some (.int (Int32.ofNat l)), some (.long (Int64.ofInt y)), none, some (.int (Int32.ofNat k)), some (.int (Int32.ofNat 0)), some (.int (Int32.ofNat i)), some (.int (Int32.ofNat (120 - (f + 1)))), some (.int (Int32.ofNat (mg_k M i)))], [.ref (r)], A14)) rfl ?_
              refine wp_gf rfl rfl h16.rc rfl rfl ?_
              refine wp_gf rfl rfl h16.mc rfl rfl ?_
              refine wp_st 1 (f' := (123, [some (.ref (r)), some (.int (z1)), some (.int (Int32.ofNat e)), some (.int (Int32.ofNat l)), some (.long (Int64.ofInt y)), none, some (.int (Int32.ofNat k)), some (.int (Int32.ofNat 0)), some (.int (Int32.ofNat i)), some (.int (Int32.ofNat (120 - (f + 1)))), some (.int (Int32.ofNat (mg_k M i)))], [.int (Int32.ofNat i), .ref (m + 4)], A14)) rfl ?_
              refine wp_mgx h16.N rfl (by omega) rfl ?_
              refine wp_st 2 (f' := (129, [some (.ref (r)), some (.int (z1)), some (.int (Int32.ofNat e)), some (.int (Int32.ofNat l)), some (.long (Int64.ofInt y)), none, some (.int (Int32.ofNat k)), some (.int (Int32.ofNat 0)), some (.int (Int32.ofNat (mg_x M i))), some (.int ((Int32.ofNat (120 - (f + 1))) + (Int32.ofNat 1))), some (.int (Int32.ofNat (mg_k M i)))], [], A14)) rfl ?_
              rw [i32_add (120 - (f + 1)) (1)]
              refine wp_gt rfl (show am_tgt 129 (-120) = 9 by decide +kernel) ?_
              have hres : wr_loop M vf S0 S1 len inner top e y k (f + 1) i w = wr_loop M vf S0 S1 len inner top e y k f (mg_x M i) w8 := by first | (exfalso; omega) | simp [wr_loop, wr_part, h1n, hPn, h2, h3, ha8]
              rw [hres, show 120 - (f + 1) + 1 = 120 - f by omega]
              obtain ⟨q9, q1, q2⟩ := ih (mg_x M i) w8 _ _ (by omega) (by omega) h16
              exact ⟨q9, q1, q2.tr p19 f18⟩
          · skip
            rw [ne_eq, i32_eq (by omega) (by omega)] at h3
            replace h3 := Decidable.not_not.mp h3
            refine wp_st 1 (f' := (87, [some (.ref (r)), some (.int (z1)), some (.int (Int32.ofNat e)), some (.int (Int32.ofNat l)), some (.long (Int64.ofInt y)), none, some (.int (Int32.ofNat k)), some (.int (Int32.ofNat 0)), some (.int (Int32.ofNat i)), some (.int (Int32.ofNat (120 - (f + 1)))), some (.int (Int32.ofNat (mg_k M i)))], [.ref (r)], A)) rfl ?_
            refine wp_gf rfl rfl h.rc rfl rfl ?_
            refine wp_st 3 (f' := (95, [some (.ref (r)), some (.int (z1)), some (.int (Int32.ofNat e)), some (.int (Int32.ofNat l)), some (.long (Int64.ofInt y)), none, some (.int (Int32.ofNat k)), some (.int (Int32.ofNat 0)), some (.int (Int32.ofNat i)), some (.int (Int32.ofNat (120 - (f + 1)))), some (.int (Int32.ofNat (mg_k M i)))], [.int (Int32.ofNat 1), .int (Int32.ofNat k), .long (Int64.ofInt y), .ref (u)], A)) rfl ?_
            rcases hz95 : wr_put w (wr_dg y k true) with c95 | y95
            · skip
              obtain rfl := wr_put_er hz95
              obtain ⟨w24, A20, p25, c26, g21, h22, f23⟩ := wr_Q0 (wr_w h (op_z (d := d - 1) (z := y) (k := k) (g := true) (by omega) (by omega) (by omega) h.O h.K.ten)) hz95
              have f27 := (wr_F.refl A s0 s1 u).trans f23
              have p28 : 3 ≠ 3 → w <+: w24 := fun e => (List.prefix_refl w).trans (p25 e)
              refine wp_cv (A' := A20) (v := some (.int (Int32.ofNat 3))) rfl rfl rfl rfl rfl h.oc (by omega) (g21) rfl ?_
              show am_wp d 101 (98, [some (.ref (r)), some (.int (z1)), some (.int (Int32.ofNat e)), some (.int (Int32.ofNat l)), some (.long (Int64.ofInt y)), none, some (.int (Int32.ofNat k)), some (.int (Int32.ofNat 0)), some (.int (Int32.ofNat i)), some (.int (Int32.ofNat (120 - (f + 1)))), some (.int (Int32.ofNat (mg_k M i)))], [.int (Int32.ofNat 3)], A20) _
              refine wp_st 3 (f' := (115, [some (.ref (r)), some (.int (z1)), some (.int (Int32.ofNat e)), some (.int (Int32.ofNat l)), some (.long (Int64.ofInt y)), none, some (.int (Int32.ofNat k)), some (.int (Int32.ofNat 3)), some (.int (Int32.ofNat i)), some (.int (Int32.ofNat (120 - (f + 1)))), some (.int (Int32.ofNat (mg_k M i)))], [.ref (r)], A20)) rfl ?_
              refine wp_gf rfl rfl h22.rc rfl rfl ?_
              refine wp_gf rfl rfl h22.mc rfl rfl ?_
              refine wp_st 1 (f' := (123, [some (.ref (r)), some (.int (z1)), some (.int (Int32.ofNat e)), some (.int (Int32.ofNat l)), some (.long (Int64.ofInt y)), none, some (.int (Int32.ofNat k)), some (.int (Int32.ofNat 3)), some (.int (Int32.ofNat i)), some (.int (Int32.ofNat (120 - (f + 1)))), some (.int (Int32.ofNat (mg_k M i)))], [.int (Int32.ofNat i), .ref (m + 4)], A20)) rfl ?_
              refine wp_mgx h22.N rfl (by omega) rfl ?_
              refine wp_st 2 (f' := (129, [some (.ref (r)), some (.int (z1)), some (.int (Int32.ofNat e)), some (.int (Int32.ofNat l)), some (.long (Int64.ofInt y)), none, some (.int (Int32.ofNat k)), some (.int (Int32.ofNat 3)), some (.int (Int32.ofNat (mg_x M i))), some (.int ((Int32.ofNat (120 - (f + 1))) + (Int32.ofNat 1))), some (.int (Int32.ofNat (mg_k M i)))], [], A20)) rfl ?_
              rw [i32_add (120 - (f + 1)) (1)]
              refine wp_gt rfl (show am_tgt 129 (-120) = 9 by decide +kernel) ?_
              refine wp_st 2 (f' := (13, [some (.ref (r)), some (.int (z1)), some (.int (Int32.ofNat e)), some (.int (Int32.ofNat l)), some (.long (Int64.ofInt y)), none, some (.int (Int32.ofNat k)), some (.int (Int32.ofNat 3)), some (.int (Int32.ofNat (mg_x M i))), some (.int (Int32.ofNat (120 - (f + 1) + 1))), some (.int (Int32.ofNat (mg_k M i)))], [.int (Int32.ofNat 120), .int (Int32.ofNat (120 - (f + 1) + 1))], A20)) rfl ?_
              refine wp_if rfl (show am_tgt 13 (119) = 132 by decide +kernel) rfl (fun (h29 : (Int32.ofNat 120) ≤ (Int32.ofNat (120 - (f + 1) + 1))) => ?_) (fun (h29 : ¬ ((Int32.ofNat 120) ≤ (Int32.ofNat (120 - (f + 1) + 1)))) => ?_)
              · skip
                rw [i32_le (by omega) (by omega)] at h29
                refine wp_st 1 (f' := (134, [some (.ref (r)), some (.int (z1)), some (.int (Int32.ofNat e)), some (.int (Int32.ofNat l)), some (.long (Int64.ofInt y)), none, some (.int (Int32.ofNat k)), some (.int (Int32.ofNat 3)), some (.int (Int32.ofNat (mg_x M i))), some (.int (Int32.ofNat (120 - (f + 1) + 1))), some (.int (Int32.ofNat (mg_k M i)))], [.int (Int32.ofNat 3)], A20)) rfl ?_
                refine wp_rt rfl rfl rfl ?_
                have hres : wr_loop M vf S0 S1 len inner top e y k (f + 1) i w = .error 3 := by first | (exfalso; omega) | simp [wr_loop, wr_part, h1n, hPn, h2, h3, hz95, h29]
                rw [hres]
                exact wr_Q_er (by omega) p28 h22 f27
              · skip
                rw [i32_le (by omega) (by omega)] at h29
                refine wp_st 1 (f' := (18, [some (.ref (r)), some (.int (z1)), some (.int (Int32.ofNat e)), some (.int (Int32.ofNat l)), some (.long (Int64.ofInt y)), none, some (.int (Int32.ofNat k)), some (.int (Int32.ofNat 3)), some (.int (Int32.ofNat (mg_x M i))), some (.int (Int32.ofNat (120 - (f + 1) + 1))), some (.int (Int32.ofNat (mg_k M i)))], [.int (Int32.ofNat 3)], A20)) rfl ?_
                refine wp_izT rfl (show am_tgt 18 (114) = 132 by decide +kernel) (show (Int32.ofNat 3) ≠ (Int32.ofNat 0) from by decide) ?_
                refine wp_st 1 (f' := (134, [some (.ref (r)), some (.int (z1)), some (.int (Int32.ofNat e)), some (.int (Int32.ofNat l)), some (.long (Int64.ofInt y)), none, some (.int (Int32.ofNat k)), some (.int (Int32.ofNat 3)), some (.int (Int32.ofNat (mg_x M i))), some (.int (Int32.ofNat (120 - (f + 1) + 1))), some (.int (Int32.ofNat (mg_k M i)))], [.int (Int32.ofNat 3)], A20)) rfl ?_
                refine wp_rt rfl rfl rfl ?_
                have hres : wr_loop M vf S0 S1 len inner top e y k (f + 1) i w = .error 3 := by first | (exfalso; omega) | simp [wr_loop, wr_part, h1n, hPn, h2, h3, hz95, h29]
                rw [hres]
                exact wr_Q_er (by omega) p28 h22 f27
            · skip
              obtain ⟨A30, g31, h32, f33⟩ := wr_Q1 (wr_w h (op_z (d := d - 1) (z := y) (k := k) (g := true) (by omega) (by omega) (by omega) h.O h.K.ten)) hz95
              have f34 := (wr_F.refl A s0 s1 u).trans f33
              have p35 := (List.prefix_refl w).trans (wr_put_ok hz95)
              refine wp_cv (A' := A30) (v := some (.int (Int32.ofNat 0))) rfl rfl rfl rfl rfl h.oc (by omega) (g31) rfl ?_
              show am_wp d 101 (98, [some (.ref (r)), some (.int (z1)), some (.int (Int32.ofNat e)), some (.int (Int32.ofNat l)), some (.long (Int64.ofInt y)), none, some (.int (Int32.ofNat k)), some (.int (Int32.ofNat 0)), some (.int (Int32.ofNat i)), some (.int (Int32.ofNat (120 - (f + 1)))), some (.int (Int32.ofNat (mg_k M i)))], [.int (Int32.ofNat 0)], A30) _
              refine wp_st 3 (f' := (115, [some (.ref (r)), some (.int (z1)), some (.int (Int32.ofNat e)), some (.int (Int32.ofNat l)), some (.long (Int64.ofInt y)), none, some (.int (Int32.ofNat k)), some (.int (Int32.ofNat 0)), some (.int (Int32.ofNat i)), some (.int (Int32.ofNat (120 - (f + 1)))), some (.int (Int32.ofNat (mg_k M i)))], [.ref (r)], A30)) rfl ?_
              refine wp_gf rfl rfl h32.rc rfl rfl ?_
              refine wp_gf rfl rfl h32.mc rfl rfl ?_
              refine wp_st 1 (f' := (123, [some (.ref (r)), some (.int (z1)), some (.int (Int32.ofNat e)), some (.int (Int32.ofNat l)), some (.long (Int64.ofInt y)), none, some (.int (Int32.ofNat k)), some (.int (Int32.ofNat 0)), some (.int (Int32.ofNat i)), some (.int (Int32.ofNat (120 - (f + 1)))), some (.int (Int32.ofNat (mg_k M i)))], [.int (Int32.ofNat i), .ref (m + 4)], A30)) rfl ?_
              refine wp_mgx h32.N rfl (by omega) rfl ?_
              refine wp_st 2 (f' := (129, [some (.ref (r)), some (.int (z1)), some (.int (Int32.ofNat e)), some (.int (Int32.ofNat l)), some (.long (Int64.ofInt y)), none, some (.int (Int32.ofNat k)), some (.int (Int32.ofNat 0)), some (.int (Int32.ofNat (mg_x M i))), some (.int ((Int32.ofNat (120 - (f + 1))) + (Int32.ofNat 1))), some (.int (Int32.ofNat (mg_k M i)))], [], A30)) rfl ?_
              rw [i32_add (120 - (f + 1)) (1)]
              refine wp_gt rfl (show am_tgt 129 (-120) = 9 by decide +kernel) ?_
              have hres : wr_loop M vf S0 S1 len inner top e y k (f + 1) i w = wr_loop M vf S0 S1 len inner top e y k f (mg_x M i) y95 := by first | (exfalso; omega) | simp [wr_loop, wr_part, h1n, hPn, h2, h3, hz95]
              rw [hres, show 120 - (f + 1) + 1 = 120 - f by omega]
              obtain ⟨q9, q1, q2⟩ := ih (mg_x M i) y95 _ _ (by omega) (by omega) h32
              exact ⟨q9, q1, q2.tr p35 f34⟩
        · skip
          rw [ne_eq, i32_eq (by omega) (by omega)] at h2
          replace h2 := Decidable.not_not.mp h2
          refine wp_st 1 (f' := (59, [some (.ref (r)), some (.int (z1)), some (.int (Int32.ofNat e)), some (.int (Int32.ofNat l)), some (.long (Int64.ofInt y)), none, some (.int (Int32.ofNat k)), some (.int (Int32.ofNat 0)), some (.int (Int32.ofNat i)), some (.int (Int32.ofNat (120 - (f + 1)))), some (.int (Int32.ofNat (mg_k M i)))], [.ref (r)], A)) rfl ?_
          refine wp_gf rfl rfl h.rc rfl rfl ?_
          refine wp_st 1 (f' := (63, [some (.ref (r)), some (.int (z1)), some (.int (Int32.ofNat e)), some (.int (Int32.ofNat l)), some (.long (Int64.ofInt y)), none, some (.int (Int32.ofNat k)), some (.int (Int32.ofNat 0)), some (.int (Int32.ofNat i)), some (.int (Int32.ofNat (120 - (f + 1)))), some (.int (Int32.ofNat (mg_k M i)))], [.ref (r), .ref (u)], A)) rfl ?_
          refine wp_gf rfl rfl h.rc rfl rfl ?_
          refine wp_gf rfl rfl h.mc rfl rfl ?_
          refine wp_st 1 (f' := (71, [some (.ref (r)), some (.int (z1)), some (.int (Int32.ofNat e)), some (.int (Int32.ofNat l)), some (.long (Int64.ofInt y)), none, some (.int (Int32.ofNat k)), some (.int (Int32.ofNat 0)), some (.int (Int32.ofNat i)), some (.int (Int32.ofNat (120 - (f + 1)))), some (.int (Int32.ofNat (mg_k M i)))], [.int (Int32.ofNat i), .ref (m + 2), .ref (u)], A)) rfl ?_
          refine wp_mgc h.N rfl (by omega) rfl ?_
          rcases hp72 : wr_put w ([(mg_c M i).toUInt32.toNat]) with c72 | y72
          · skip
            obtain rfl := wr_put_er hp72
            obtain ⟨w40, A36, p41, c42, g37, h38, f39⟩ := wr_Q0 (wr_w h (by have e := op_put (d := d - 1) (u := u) (x := (mg_c M i).toUInt32.toNat) (by omega) h.O; rw [← i32_self (mg_c M i)] at e; exact e)) hp72
            have f43 := (wr_F.refl A s0 s1 u).trans f39
            have p44 : 3 ≠ 3 → w <+: w40 := fun e => (List.prefix_refl w).trans (p41 e)
            refine wp_cv (A' := A36) (v := some (.int (Int32.ofNat 3))) rfl rfl rfl rfl rfl h.oc (by omega) (g37) rfl ?_
            show am_wp d 101 (75, [some (.ref (r)), some (.int (z1)), some (.int (Int32.ofNat e)), some (.int (Int32.ofNat l)), some (.long (Int64.ofInt y)), none, some (.int (Int32.ofNat k)), some (.int (Int32.ofNat 0)), some (.int (Int32.ofNat i)), some (.int (Int32.ofNat (120 - (f + 1)))), some (.int (Int32.ofNat (mg_k M i)))], [.int (Int32.ofNat 3)], A36) _
            refine wp_st 3 (f' := (115, [some (.ref (r)), some (.int (z1)), some (.int (Int32.ofNat e)), some (.int (Int32.ofNat l)), some (.long (Int64.ofInt y)), none, some (.int (Int32.ofNat k)), some (.int (Int32.ofNat 3)), some (.int (Int32.ofNat i)), some (.int (Int32.ofNat (120 - (f + 1)))), some (.int (Int32.ofNat (mg_k M i)))], [.ref (r)], A36)) rfl ?_
            refine wp_gf rfl rfl h38.rc rfl rfl ?_
            refine wp_gf rfl rfl h38.mc rfl rfl ?_
            refine wp_st 1 (f' := (123, [some (.ref (r)), some (.int (z1)), some (.int (Int32.ofNat e)), some (.int (Int32.ofNat l)), some (.long (Int64.ofInt y)), none, some (.int (Int32.ofNat k)), some (.int (Int32.ofNat 3)), some (.int (Int32.ofNat i)), some (.int (Int32.ofNat (120 - (f + 1)))), some (.int (Int32.ofNat (mg_k M i)))], [.int (Int32.ofNat i), .ref (m + 4)], A36)) rfl ?_
            refine wp_mgx h38.N rfl (by omega) rfl ?_
            refine wp_st 2 (f' := (129, [some (.ref (r)), some (.int (z1)), some (.int (Int32.ofNat e)), some (.int (Int32.ofNat l)), some (.long (Int64.ofInt y)), none, some (.int (Int32.ofNat k)), some (.int (Int32.ofNat 3)), some (.int (Int32.ofNat (mg_x M i))), some (.int ((Int32.ofNat (120 - (f + 1))) + (Int32.ofNat 1))), some (.int (Int32.ofNat (mg_k M i)))], [], A36)) rfl ?_
            rw [i32_add (120 - (f + 1)) (1)]
            refine wp_gt rfl (show am_tgt 129 (-120) = 9 by decide +kernel) ?_
            refine wp_st 2 (f' := (13, [some (.ref (r)), some (.int (z1)), some (.int (Int32.ofNat e)), some (.int (Int32.ofNat l)), some (.long (Int64.ofInt y)), none, some (.int (Int32.ofNat k)), some (.int (Int32.ofNat 3)), some (.int (Int32.ofNat (mg_x M i))), some (.int (Int32.ofNat (120 - (f + 1) + 1))), some (.int (Int32.ofNat (mg_k M i)))], [.int (Int32.ofNat 120), .int (Int32.ofNat (120 - (f + 1) + 1))], A36)) rfl ?_
            refine wp_if rfl (show am_tgt 13 (119) = 132 by decide +kernel) rfl (fun (h45 : (Int32.ofNat 120) ≤ (Int32.ofNat (120 - (f + 1) + 1))) => ?_) (fun (h45 : ¬ ((Int32.ofNat 120) ≤ (Int32.ofNat (120 - (f + 1) + 1)))) => ?_)
            · skip
              rw [i32_le (by omega) (by omega)] at h45
              refine wp_st 1 (f' := (134, [some (.ref (r)), some (.int (z1)), some (.int (Int32.ofNat e)), some (.int (Int32.ofNat l)), some (.long (Int64.ofInt y)), none, some (.int (Int32.ofNat k)), some (.int (Int32.ofNat 3)), some (.int (Int32.ofNat (mg_x M i))), some (.int (Int32.ofNat (120 - (f + 1) + 1))), some (.int (Int32.ofNat (mg_k M i)))], [.int (Int32.ofNat 3)], A36)) rfl ?_
              refine wp_rt rfl rfl rfl ?_
              have hres : wr_loop M vf S0 S1 len inner top e y k (f + 1) i w = .error 3 := by first | (exfalso; omega) | simp [wr_loop, wr_part, h1n, hPn, h2, hp72, h45]
              rw [hres]
              exact wr_Q_er (by omega) p44 h38 f43
            · skip
              rw [i32_le (by omega) (by omega)] at h45
              refine wp_st 1 (f' := (18, [some (.ref (r)), some (.int (z1)), some (.int (Int32.ofNat e)), some (.int (Int32.ofNat l)), some (.long (Int64.ofInt y)), none, some (.int (Int32.ofNat k)), some (.int (Int32.ofNat 3)), some (.int (Int32.ofNat (mg_x M i))), some (.int (Int32.ofNat (120 - (f + 1) + 1))), some (.int (Int32.ofNat (mg_k M i)))], [.int (Int32.ofNat 3)], A36)) rfl ?_
              refine wp_izT rfl (show am_tgt 18 (114) = 132 by decide +kernel) (show (Int32.ofNat 3) ≠ (Int32.ofNat 0) from by decide) ?_
              refine wp_st 1 (f' := (134, [some (.ref (r)), some (.int (z1)), some (.int (Int32.ofNat e)), some (.int (Int32.ofNat l)), some (.long (Int64.ofInt y)), none, some (.int (Int32.ofNat k)), some (.int (Int32.ofNat 3)), some (.int (Int32.ofNat (mg_x M i))), some (.int (Int32.ofNat (120 - (f + 1) + 1))), some (.int (Int32.ofNat (mg_k M i)))], [.int (Int32.ofNat 3)], A36)) rfl ?_
              refine wp_rt rfl rfl rfl ?_
              have hres : wr_loop M vf S0 S1 len inner top e y k (f + 1) i w = .error 3 := by first | (exfalso; omega) | simp [wr_loop, wr_part, h1n, hPn, h2, hp72, h45]
              rw [hres]
              exact wr_Q_er (by omega) p44 h38 f43
          · skip
            obtain ⟨A46, g47, h48, f49⟩ := wr_Q1 (wr_w h (by have e := op_put (d := d - 1) (u := u) (x := (mg_c M i).toUInt32.toNat) (by omega) h.O; rw [← i32_self (mg_c M i)] at e; exact e)) hp72
            have f50 := (wr_F.refl A s0 s1 u).trans f49
            have p51 := (List.prefix_refl w).trans (wr_put_ok hp72)
            refine wp_cv (A' := A46) (v := some (.int (Int32.ofNat 0))) rfl rfl rfl rfl rfl h.oc (by omega) (g47) rfl ?_
            show am_wp d 101 (75, [some (.ref (r)), some (.int (z1)), some (.int (Int32.ofNat e)), some (.int (Int32.ofNat l)), some (.long (Int64.ofInt y)), none, some (.int (Int32.ofNat k)), some (.int (Int32.ofNat 0)), some (.int (Int32.ofNat i)), some (.int (Int32.ofNat (120 - (f + 1)))), some (.int (Int32.ofNat (mg_k M i)))], [.int (Int32.ofNat 0)], A46) _
            refine wp_st 3 (f' := (115, [some (.ref (r)), some (.int (z1)), some (.int (Int32.ofNat e)), some (.int (Int32.ofNat l)), some (.long (Int64.ofInt y)), none, some (.int (Int32.ofNat k)), some (.int (Int32.ofNat 0)), some (.int (Int32.ofNat i)), some (.int (Int32.ofNat (120 - (f + 1)))), some (.int (Int32.ofNat (mg_k M i)))], [.ref (r)], A46)) rfl ?_
            refine wp_gf rfl rfl h48.rc rfl rfl ?_
            refine wp_gf rfl rfl h48.mc rfl rfl ?_
            refine wp_st 1 (f' := (123, [some (.ref (r)), some (.int (z1)), some (.int (Int32.ofNat e)), some (.int (Int32.ofNat l)), some (.long (Int64.ofInt y)), none, some (.int (Int32.ofNat k)), some (.int (Int32.ofNat 0)), some (.int (Int32.ofNat i)), some (.int (Int32.ofNat (120 - (f + 1)))), some (.int (Int32.ofNat (mg_k M i)))], [.int (Int32.ofNat i), .ref (m + 4)], A46)) rfl ?_
            refine wp_mgx h48.N rfl (by omega) rfl ?_
            refine wp_st 2 (f' := (129, [some (.ref (r)), some (.int (z1)), some (.int (Int32.ofNat e)), some (.int (Int32.ofNat l)), some (.long (Int64.ofInt y)), none, some (.int (Int32.ofNat k)), some (.int (Int32.ofNat 0)), some (.int (Int32.ofNat (mg_x M i))), some (.int ((Int32.ofNat (120 - (f + 1))) + (Int32.ofNat 1))), some (.int (Int32.ofNat (mg_k M i)))], [], A46)) rfl ?_
            rw [i32_add (120 - (f + 1)) (1)]
            refine wp_gt rfl (show am_tgt 129 (-120) = 9 by decide +kernel) ?_
            have hres : wr_loop M vf S0 S1 len inner top e y k (f + 1) i w = wr_loop M vf S0 S1 len inner top e y k f (mg_x M i) y72 := by first | (exfalso; omega) | simp [wr_loop, wr_part, h1n, hPn, h2, hp72]
            rw [hres, show 120 - (f + 1) + 1 = 120 - f by omega]
            obtain ⟨q9, q1, q2⟩ := ih (mg_x M i) y72 _ _ (by omega) (by omega) h48
            exact ⟨q9, q1, q2.tr p51 f50⟩
      · skip
        have hPn : mg_P M ≤ i := by omega
        refine wp_cv (A' := A) (v := some (.int (Int32.ofNat 0))) rfl rfl rfl rfl rfl h.mc (by omega) (mn_isp0 (by omega) (by omega) h.N) rfl ?_
        show am_wp d 101 (36, [some (.ref (r)), some (.int (z1)), some (.int (Int32.ofNat e)), some (.int (Int32.ofNat l)), some (.long (Int64.ofInt y)), none, some (.int (Int32.ofNat k)), some (.int (Int32.ofNat 0)), some (.int (Int32.ofNat i)), some (.int (Int32.ofNat (120 - (f + 1)))), b10], [.int (Int32.ofNat 0)], A) _
        refine wp_izF rfl rfl (show ¬ ((Int32.ofNat 0) ≠ (Int32.ofNat 0)) from by decide) ?_
        refine wp_st 1 (f' := (40, [some (.ref (r)), some (.int (z1)), some (.int (Int32.ofNat e)), some (.int (Int32.ofNat l)), some (.long (Int64.ofInt y)), none, some (.int (Int32.ofNat k)), some (.int (Int32.ofNat 0)), some (.int (Int32.ofNat i)), some (.int (Int32.ofNat (120 - (f + 1)))), b10], [.int (Int32.ofNat 0)], A)) rfl ?_
        refine wp_rt rfl rfl rfl ?_
        have hres : wr_loop M vf S0 S1 len inner top e y k (f + 1) i w = .ok w := by first | (exfalso; omega) | simp [wr_loop, wr_part, h1n, hPn]
        rw [hres]
        exact wr_Q_ok h (wr_F.refl A s0 s1 u)
theorem wi_parts1 {d r m v q s0 s1 u n : Nat} {M : mg} {z len : Bool} {rs : List Nat} {xs : List sb_vt} {S0 S1 : rg} {w : List Nat} {A : am_H} {D0 l : Nat} {inner : wr_i} {vf : wr_v} {i e k : Nat} {y : Int} {top : Bool} (htop : (top = true ∧ l = 0) ∨ (top = false ∧ 0 < l)) (hd : 8 ≤ d) (hd0 : D0 + 5 ≤ d) (hl : l ≤ 3) (hi : i ≤ 120) (he : e ≤ 120) (hk : k ≤ 6) (hy : y.natAbs < 9223372036854775808) (hinn : wr_inn inner) (hv : vl_ok xs n vf) (hw0 : rg_wf S0) (hw1 : rg_wf S1) (hin : wr_in D0 l r m v q s0 s1 u M z rs xs n S0 S1 len inner) (hwf : mg_wf M) (h : wr_I A r m v q s0 s1 u M z rs xs n S0 S1 len w) : am_wp d 101 (0, am_ent 101 [.ref r, .int (Int32.ofNat i), .int (Int32.ofNat e), .int (Int32.ofNat l), .long (Int64.ofInt y), .int (Int32.ofNat k)], [], A) (wr_Q A r m v q s0 s1 u M z rs xs n S0 S1 len w (wr_loop M vf S0 S1 len inner top e y k 120 i w)) := by
  refine wp_st 6 (f' := (9, [some (.ref (r)), some (.int (Int32.ofNat i)), some (.int (Int32.ofNat e)), some (.int (Int32.ofNat l)), some (.long (Int64.ofInt y)), none, some (.int (Int32.ofNat k)), some (.int (Int32.ofNat 0)), some (.int (Int32.ofNat i)), some (.int (Int32.ofNat 0)), none], [], A)) rfl ?_
  exact wi_loop htop hd hd0 hl he hk hy hinn hv hw0 hw1 hin hwf 120 i w A none (by omega) hi h
theorem wi_msg {r m v q s0 s1 u n : Nat} {M : mg} {z len : Bool} {rs : List Nat} {xs : List sb_vt} {S0 S1 : rg} {vf : wr_v} (hv : vl_ok xs n vf) (hw0 : rg_wf S0) (hw1 : rg_wf S1) (hwf : mg_wf M) : ∀ (D l : Nat) (top : Bool), l + D = 3 → ((top = true ∧ l = 0) ∨ (top = false ∧ 0 < l)) → ∀ (d i e k : Nat) (y : Int) (w : List Nat) (A : am_H), 8 + 5 * D ≤ d → i ≤ 120 → e ≤ 120 → k ≤ 6 → y.natAbs < 9223372036854775808 → wr_I A r m v q s0 s1 u M z rs xs n S0 S1 len w → am_wp d 101 (0, am_ent 101 [.ref r, .int (Int32.ofNat i), .int (Int32.ofNat e), .int (Int32.ofNat l), .long (Int64.ofInt y), .int (Int32.ofNat k)], [], A) (wr_Q A r m v q s0 s1 u M z rs xs n S0 S1 len w (wr_msg M vf S0 S1 len D top i e y k w))
  | 0, l, top, hl, ht, d, i, e, k, y, w, A, hd, hi, he, hk, hy, h => wi_parts1 (D0 := 0) (inner := none) ht (by omega) (by omega) (by omega) hi he hk hy (fun f hf => (by cases hf)) hv hw0 hw1 ⟨fun _ => (by omega), fun f hf => (by cases hf)⟩ hwf h
  | D + 1, l, top, hl, ht, d, i, e, k, y, w, A, hd, hi, he, hk, hy, h => wi_parts1 (D0 := 8 + 5 * D) (inner := some (wr_msg M vf S0 S1 len D false)) ht (by omega) (by omega) (by omega) hi he hk hy (fun f hf s e z k w w' h => (by cases hf; exact wr_msg_ok D false s e z k w w' h)) hv hw0 hw1 ⟨fun x => (by cases x), fun f hf => (by cases hf; exact ⟨by omega, fun d i e k y w A h1 h2 h3 h4 h5 h6 => wi_msg hv hw0 hw1 hwf D (l + 1) false (by omega) (Or.inr ⟨rfl, by omega⟩) d i e k y w A h1 h2 h3 h4 h5 h6⟩)⟩ hwf h
