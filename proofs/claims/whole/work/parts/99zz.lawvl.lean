/-! The law's calls: number, word, drop, category. -/
def lv_T (ws : List Int32) (A : am_H) (k d y : Nat) (as : List Value) (y' : Nat) (as' : List Value) : Prop := ∃ B C c, (∃ vs, A[45]? = some (0, vs)) ∧ am_go d y as A (.inl (some (.int (Int32.ofNat c))), B) ∧ (∃ vs, B[128]? = some (11, vs)) ∧ B[0]? = some (100, ws.map .int) ∧ am_go d y' as' B (.inl none, C) ∧ (∃ vs, C[128]? = some (11, vs)) ∧ am_go d 117 [.ref 128] C (.inl (some (.int (Int32.ofNat c))), C) ∧ c ≤ 4 ∧ lw_V ws C (k + 1)
section LV
variable {ws : List Int32} {A B C : am_H} {k d : Nat}
/-- only the values have changed -/
theorem lw_R.vk {f : Int32} {cs : List Nat} {n : Nat} {xs xs' : List sb_vt} {nv nv' : Nat} {M0 M1 : mg} {z0 z1 : Bool} {S0 S1 : rg} {w1 : List Nat} {s u : rf_S} (h : lw_R f cs n xs nv M0 M1 z0 z1 S0 S1 w1 s) (hk : rf_vk s u) (hv : lw_Vs u xs' nv') : lw_R f cs n xs' nv' M0 M1 z0 z1 S0 S1 w1 u := by
  have e : ∀ j, j ≠ 0 → ¬ (42 ≤ j ∧ j ≤ 46) → u j = s j := fun j h1 h2 => by
    funext i
    exact hk j i (by unfold rf_vj; omega)
  obtain ⟨q1, q2, q3, q4, q5, q6, q7, q8, q9⟩ := h
  exact ⟨q1.fr (e _ (by omega) (by omega)) (e _ (by omega) (by omega)), by rw [e 1 (by omega) (by omega)]; exact q2, q3.fr (by rw [e _ (by omega) (by omega)]) (by rw [e _ (by omega) (by omega)]) (fun j i _ _ _ _ => by rw [e _ (by omega) (by omega)]) (fun j i _ _ _ _ => by rw [e _ (by omega) (by omega)]), q4.fr (by rw [e _ (by omega) (by omega)]) (by rw [e _ (by omega) (by omega)]) (fun j i _ _ _ _ => by rw [e _ (by omega) (by omega)]) (fun j i _ _ _ _ => by rw [e _ (by omega) (by omega)]), ⟨q5.1.fr q5.2 (fun j i _ _ _ _ => by rw [e _ (by omega) (by omega)]) (fun j i _ _ _ _ => by rw [e _ (by omega) (by omega)]) (fun j i _ _ _ _ => by rw [e _ (by omega) (by omega)]), q5.2⟩, ⟨q6.1.fr q6.2 (fun j i _ _ _ _ => by rw [e _ (by omega) (by omega)]) (fun j i _ _ _ _ => by rw [e _ (by omega) (by omega)]) (fun j i _ _ _ _ => by rw [e _ (by omega) (by omega)]), q6.2⟩, hv, q8.fr (e _ (by omega) (by omega)) (e _ (by omega) (by omega)), q9.fr (e _ (by omega) (by omega)) (e _ (by omega) (by omega)) (e _ (by omega) (by omega)) (e _ (by omega) (by omega))⟩
/-- a value put under a name, both ways -/
theorem vr_put {xs : List sb_vt} {nv : Nat} {X N : Nat} {e : sb_vt} {bo : Bool} {lo : Int64} {co : Int32} {nf cf : Nat → Int32} {bf : Nat → Bool} {lf : Nat → Int64} {s : rf_S} (hvs : rf_vs s nv nf bf lf cf) (h : vr_R xs nv nf bf lf cf) (hw : rm_w 4 X N) (hen : e.1 = Int32.ofNat X) (he : vr_E e (Int32.ofNat N) bo lo co) (h0 : s 0 0 = .int (Int32.ofNat 0)) : (cl_put xs nv e = none ∧ rf_pt s nv (rf_fd nf (Int32.ofNat N) nv 0) (Int32.ofNat N) bo lo co = rf_u s 0 0 (.int (Int32.ofNat 2))) ∨ ∃ xs' nv', cl_put xs nv e = some (xs', nv') ∧ lw_Vs (rf_pt s nv (rf_fd nf (Int32.ofNat N) nv 0) (Int32.ofNat N) bo lo co) xs' nv' ∧ rf_vk s (rf_pt s nv (rf_fd nf (Int32.ofNat N) nv 0) (Int32.ofNat N) bo lo co) ∧ rf_pt s nv (rf_fd nf (Int32.ofNat N) nv 0) (Int32.ofNat N) bo lo co 0 0 = .int (Int32.ofNat 0) := by
  have hn6 := h.2.1
  unfold cl_put
  rw [hen]
  rcases vr_find h hw with ⟨a, b⟩ | ⟨i, j, a, b, hi, hj, hE⟩
  · rw [a, b]
    dsimp only
    unfold rf_pt
    dsimp only
    by_cases hv : nv < 6
    · right
      rw [if_pos hv, if_pos hv]
      refine ⟨_, _, rfl, ⟨_, _, _, _, hvs.set (nv' := nv + 1) (t := rf_u s 42 0 (.int (Int32.ofNat (nv + 1)))) (rf_u_eq ..) (by omega) (fun j i _ _ => rf_u_ne (Or.inl (by omega))), vr_app h hv he (fun i hi => ?_)⟩, ((rf_vk.refl s).u (by unfold rf_vj; omega)).pv, ?_⟩
      · rcases cl_dx_sp (xs := xs) (nm := Int32.ofNat X) hn6 with ⟨_, _, c⟩ | ⟨i', c, _⟩
        · rw [hen]; exact c i hi
        · rw [a] at c; cases c
      · unfold rf_pv
        rw [rf_u_ne (Or.inl (by decide)), rf_u_ne (Or.inl (by decide)), rf_u_ne (Or.inl (by decide)), rf_u_ne (Or.inl (by decide)), rf_u_ne (Or.inl (by decide))]
        exact h0
    · left
      rw [if_neg hv, if_neg hv]
      exact ⟨rfl, rfl⟩
  · right
    rw [a, b]
    unfold rf_pt
    dsimp only
    refine ⟨_, _, rfl, ⟨_, _, _, _, hvs.set (nv' := nv) (t := s) hvs.1 hn6 (fun _ _ _ _ => rfl), vr_set h hi hj hE he ?_⟩, (rf_vk.refl s).pv, ?_⟩
    · rw [hen]
      rcases cl_dx_sp (xs := xs) (nm := Int32.ofNat X) hn6 with ⟨c, _⟩ | ⟨i', c, _, _, g⟩
      · rw [a] at c; cases c
      · rw [a] at c
        injection c with c
        rw [c]
        exact g.symm
    · unfold rf_pv
      rw [rf_u_ne (Or.inl (by decide)), rf_u_ne (Or.inl (by decide)), rf_u_ne (Or.inl (by decide)), rf_u_ne (Or.inl (by decide))]
      exact h0
theorem rf_u0 {s : rf_S} {v : Value} : rf_vk s (rf_u s 0 0 v) := (rf_vk.refl s).u (by unfold rf_vj; omega)
theorem lw_Vs.u0 {s : rf_S} {v : Value} {xs : List sb_vt} {nv : Nat} (h : lw_Vs s xs nv) : lw_Vs (rf_u s 0 0 v) xs nv := h.fr (fun j h1 h2 => rf_u_row j (by omega))
theorem lv_num {x c : Int32} {y : Int64} (hd : 12 ≤ d) (h : lw_V ws A k) : lv_T ws A k d 84 [.ref 45, .int x, .long y, .int c] 161 [.ref 128, .int x, .long y, .int c] := by
  obtain ⟨f, cs, n, xs, nv, M0, M1, z0, z1, S0, S1, w1, s, h1, h2, h3, h4⟩ := h
  obtain ⟨vs, hk⟩ := h1.k
  obtain ⟨m0, m1, m2, s0, s1, s2, u0, u1, a, ff, rs, M2, z2, S2, w0, hJ⟩ := h1
  have hV := h3.2.2.2.2.2.2.1
  have hV' := hV
  obtain ⟨nf, bf, lf, cf, hv1, hv2⟩ := hV'
  have hcl := cm_num (d := d - 1) (w := x) (c := c) (y := y) (by omega) hJ
  by_cases hbad : sb_pn x = -1 ∨ sb_isn y c = false
  · have hbad' : rf_nm x = -1 ∨ sb_isn y c = false := by
      rcases nm_two x with ⟨_, q⟩ | ⟨X, N, q1, q2, q3⟩
      · exact Or.inl q
      · rcases hbad with q | q
        · rw [q2] at q
          exact absurd q (i32_neg1 (rm_w_4 q1).1)
        · exact Or.inr q
    obtain ⟨⟨o, B⟩, g, hq1, hq2, hq3⟩ := hp_84 (d := d) (Q := fun q => q.1 = .inl (some (.int (Int32.ofNat 1))) ∧ cl_J q.2 m0 m1 m2 s0 s1 s2 u0 u1 f cs n a ff rs xs nv M0 M1 M2 z0 z1 z2 S0 S1 S2 w0 w1 ∧ cl_F A q.2 1) (by omega) hk hcl (fun q hq => by
      rw [if_pos hbad] at hq
      obtain ⟨e, e1, e2, e3, e4⟩ := hq
      exact Or.inr ⟨e, e1, Or.inl ⟨e2, rfl, e3, e4⟩⟩)
    dsimp only at hq1 hq2 hq3
    subst hq1
    have hB := h2.cl hq3 h4.2.2.1
    have hA := h4.cl hq3 (by omega)
    obtain ⟨C, g1, g2, g3⟩ := rn_num (d := d) (w := x) (c := c) (y := y) (by omega) hv1 hB
    rw [if_pos hbad'] at g2
    exact ⟨B, C, 1, ⟨vs, hk⟩, g, hB.k, hA.1, g1, g2.k, rn_thr (rf_u_eq ..) g2, by omega, lw_mk ⟨m0, m1, m2, s0, s1, s2, u0, u1, a, ff, rs, M2, z2, S2, w0, hq2⟩ hA g3 g2 (h3.fr (fun j hj => rf_u_row j hj))⟩
  · rcases nm_two x with ⟨q, _⟩ | ⟨X, N, q1, q2, q3⟩
    · exact absurd (Or.inl q) hbad
    have his : sb_isn y c = true := by
      rcases hb : sb_isn y c with _ | _
      · exact absurd (Or.inr hb) hbad
      · rfl
    have hgood : ¬ (rf_nm x = -1 ∨ sb_isn y c = false) := by
      rintro (q | q)
      · rw [q3] at q
        exact absurd q (i32_neg1 (rm_w_4 q1).2)
      · rw [his] at q; cases q
    obtain ⟨z, kk, i1, i2, i3, i4⟩ := sb_isn_k his
    have hE : vr_E (sb_pn x, false, y, c) (Int32.ofNat N) false y c := ⟨X, N, q1, q2, rfl, Or.inr ⟨rfl, rfl, z, kk, i4, i3, i1, i2, i1, i2⟩⟩
    have hvs0 : rf_vs (rf_u s 0 0 (.int (Int32.ofNat 0))) nv nf bf lf cf := ⟨(rf_u_ne (Or.inl (by decide))).trans hv1.1, hv1.2.1, fun i hi => by
      have := hv1.2.2 i hi
      exact ⟨(rf_u_ne (Or.inl (by decide))).trans this.1, (rf_u_ne (Or.inl (by decide))).trans this.2.1, (rf_u_ne (Or.inl (by decide))).trans this.2.2.1, (rf_u_ne (Or.inl (by decide))).trans this.2.2.2⟩⟩
    rcases vr_put hvs0 hv2 q1 q2 hE (rf_u_eq ..) with ⟨p1, p2⟩ | ⟨xs', nv', p1, p2, p3, p4⟩
    · obtain ⟨⟨o, B⟩, g, hq1, hq2, hq3⟩ := hp_84 (d := d) (Q := fun q => q.1 = .inl (some (.int (Int32.ofNat 2))) ∧ cl_J q.2 m0 m1 m2 s0 s1 s2 u0 u1 f cs n a ff rs xs nv M0 M1 M2 z0 z1 z2 S0 S1 S2 w0 w1 ∧ cl_F A q.2 1) (by omega) hk hcl (fun q hq => by
        rw [if_neg hbad, p1] at hq
        obtain ⟨e, e1, e2, e3, e4⟩ := hq
        exact Or.inr ⟨e, e1, Or.inr ⟨e2, rfl, e3, e4⟩⟩)
      dsimp only at hq1 hq2 hq3
      subst hq1
      have hB := h2.cl hq3 h4.2.2.1
      have hA := h4.cl hq3 (by omega)
      obtain ⟨C, g1, g2, g3⟩ := rn_num (d := d) (w := x) (c := c) (y := y) (by omega) hv1 hB
      rw [if_neg hgood, q3, p2] at g2
      exact ⟨B, C, 2, ⟨vs, hk⟩, g, hB.k, hA.1, g1, g2.k, rn_thr (rf_u_eq ..) g2, by omega, lw_mk ⟨m0, m1, m2, s0, s1, s2, u0, u1, a, ff, rs, M2, z2, S2, w0, hq2⟩ hA g3 g2 (h3.fr (fun j hj => (rf_u_row j hj).trans (rf_u_row j hj)))⟩
    · obtain ⟨⟨o, B⟩, g, hq1, hq2, hq3⟩ := hp_84 (d := d) (Q := fun q => q.1 = .inl (some (.int (Int32.ofNat 0))) ∧ cl_J q.2 m0 m1 m2 s0 s1 s2 u0 u1 f cs n a ff rs xs' nv' M0 M1 M2 z0 z1 z2 S0 S1 S2 w0 w1 ∧ cl_F A q.2 0) (by omega) hk hcl (fun q hq => by
        rw [if_neg hbad, p1] at hq
        obtain ⟨e1, e3, e4⟩ := hq
        exact Or.inl ⟨e1, rfl, e3, e4⟩)
      dsimp only at hq1 hq2 hq3
      subst hq1
      have hB := h2.cl hq3 h4.2.2.1
      have hA := h4.cl hq3 (by omega)
      obtain ⟨C, g1, g2, g3⟩ := rn_num (d := d) (w := x) (c := c) (y := y) (by omega) hv1 hB
      rw [if_neg hgood, q3] at g2
      exact ⟨B, C, 0, ⟨vs, hk⟩, g, hB.k, hA.1, g1, g2.k, rn_thr p4 g2, by omega, lw_mk ⟨m0, m1, m2, s0, s1, s2, u0, u1, a, ff, rs, M2, z2, S2, w0, hq2⟩ hA g3 g2 (h3.vk (rf_u0.trans p3) p2)⟩
theorem sb_wd_nn {x : Int32} (h : sb_all 32 126 (sb_bl x 4) = true) : ∃ R, R < 2147483648 ∧ x = Int32.ofNat R := by
  have h1 := sb_bl_all h
  have h2 : sb_by x 24 ≤ 126 := by
    by_cases q : sb_by x (8 * 3) = 0
    · have : sb_by x 24 = 0 := q
      omega
    · have := h1 (sb_by x (8 * 3)) (by rw [sb_bl_s q]; exact List.mem_cons_self ..)
      exact this.2
  unfold sb_by at h2
  have h3 : x.toUInt32.toNat < 2 ^ 32 := x.toUInt32.toNat_lt
  refine ⟨x.toUInt32.toNat, by omega, ?_⟩
  have := i32_of_u32 (x := x.toUInt32) rfl
  rw [Int32.toInt32_toUInt32] at this
  exact this
theorem lv_word {x c : Int32} (hd : 12 ≤ d) (h : lw_V ws A k) : lv_T ws A k d 89 [.ref 45, .int x, .int c] 165 [.ref 128, .int x, .int c] := by
  obtain ⟨f, cs, n, xs, nv, M0, M1, z0, z1, S0, S1, w1, s, h1, h2, h3, h4⟩ := h
  obtain ⟨vs, hk⟩ := h1.k
  obtain ⟨m0, m1, m2, s0, s1, s2, u0, u1, a, ff, rs, M2, z2, S2, w0, hJ⟩ := h1
  have hV := h3.2.2.2.2.2.2.1
  have hV' := hV
  obtain ⟨nf, bf, lf, cf, hv1, hv2⟩ := hV'
  have hcl := cm_word (d := d - 1) (w := x) (x := c) (by omega) hJ
  by_cases hbad : sb_pn x = -1 ∨ sb_all 32 126 (sb_bl c 4) = false
  · have hbad' : rf_nm x = -1 ∨ sb_all 32 126 (sb_bl c 4) = false := by
      rcases nm_two x with ⟨_, q⟩ | ⟨X, N, q1, q2, q3⟩
      · exact Or.inl q
      · rcases hbad with q | q
        · rw [q2] at q
          exact absurd q (i32_neg1 (rm_w_4 q1).1)
        · exact Or.inr q
    obtain ⟨⟨o, B⟩, g, hq1, hq2, hq3⟩ := hp_89 (d := d) (Q := fun q => q.1 = .inl (some (.int (Int32.ofNat 1))) ∧ cl_J q.2 m0 m1 m2 s0 s1 s2 u0 u1 f cs n a ff rs xs nv M0 M1 M2 z0 z1 z2 S0 S1 S2 w0 w1 ∧ cl_F A q.2 1) (by omega) hk hcl (fun q hq => by
      rw [if_pos hbad] at hq
      obtain ⟨e, e1, e2, e3, e4⟩ := hq
      exact Or.inr ⟨e, e1, Or.inl ⟨e2, rfl, e3, e4⟩⟩)
    dsimp only at hq1 hq2 hq3
    subst hq1
    have hB := h2.cl hq3 h4.2.2.1
    have hA := h4.cl hq3 (by omega)
    obtain ⟨C, g1, g2, g3⟩ := rn_word (d := d) (w := x) (x := c) (by omega) hv1 hB
    rw [if_pos hbad'] at g2
    exact ⟨B, C, 1, ⟨vs, hk⟩, g, hB.k, hA.1, g1, g2.k, rn_thr (rf_u_eq ..) g2, by omega, lw_mk ⟨m0, m1, m2, s0, s1, s2, u0, u1, a, ff, rs, M2, z2, S2, w0, hq2⟩ hA g3 g2 (h3.fr (fun j hj => rf_u_row j hj))⟩
  · rcases nm_two x with ⟨q, _⟩ | ⟨X, N, q1, q2, q3⟩
    · exact absurd (Or.inl q) hbad
    have his : sb_all 32 126 (sb_bl c 4) = true := by
      rcases hb : sb_all 32 126 (sb_bl c 4) with _ | _
      · exact absurd (Or.inr hb) hbad
      · rfl
    have hgood : ¬ (rf_nm x = -1 ∨ sb_all 32 126 (sb_bl c 4) = false) := by
      rintro (q | q)
      · rw [q3] at q
        exact absurd q (i32_neg1 (rm_w_4 q1).2)
      · rw [his] at q; cases q
    obtain ⟨R, hR, hc⟩ := sb_wd_nn his
    have hfp := sb_fp_N (sb_bl_len c 4) (sb_bl_all his)
    have hE : vr_E (sb_pn x, true, (sb_fp 0 (sb_bl c 4)).toInt64, 0) (Int32.ofNat N) true c.toInt64 0 := ⟨X, N, q1, q2, rfl, Or.inl ⟨rfl, rfl, R, hR, by rw [← hc]; exact his, by rw [hc]; exact i64_of hR, rfl, by
      show (sb_fp 0 (sb_bl c 4)).toInt64 = _
      rw [hfp.1, i64_of hfp.2, hc]⟩⟩
    have hvs0 : rf_vs (rf_u s 0 0 (.int (Int32.ofNat 0))) nv nf bf lf cf := ⟨(rf_u_ne (Or.inl (by decide))).trans hv1.1, hv1.2.1, fun i hi => by
      have := hv1.2.2 i hi
      exact ⟨(rf_u_ne (Or.inl (by decide))).trans this.1, (rf_u_ne (Or.inl (by decide))).trans this.2.1, (rf_u_ne (Or.inl (by decide))).trans this.2.2.1, (rf_u_ne (Or.inl (by decide))).trans this.2.2.2⟩⟩
    rcases vr_put hvs0 hv2 q1 q2 hE (rf_u_eq ..) with ⟨p1, p2⟩ | ⟨xs', nv', p1, p2, p3, p4⟩
    · obtain ⟨⟨o, B⟩, g, hq1, hq2, hq3⟩ := hp_89 (d := d) (Q := fun q => q.1 = .inl (some (.int (Int32.ofNat 2))) ∧ cl_J q.2 m0 m1 m2 s0 s1 s2 u0 u1 f cs n a ff rs xs nv M0 M1 M2 z0 z1 z2 S0 S1 S2 w0 w1 ∧ cl_F A q.2 1) (by omega) hk hcl (fun q hq => by
        rw [if_neg hbad, p1] at hq
        obtain ⟨e, e1, e2, e3, e4⟩ := hq
        exact Or.inr ⟨e, e1, Or.inr ⟨e2, rfl, e3, e4⟩⟩)
      dsimp only at hq1 hq2 hq3
      subst hq1
      have hB := h2.cl hq3 h4.2.2.1
      have hA := h4.cl hq3 (by omega)
      obtain ⟨C, g1, g2, g3⟩ := rn_word (d := d) (w := x) (x := c) (by omega) hv1 hB
      rw [if_neg hgood, q3, p2] at g2
      exact ⟨B, C, 2, ⟨vs, hk⟩, g, hB.k, hA.1, g1, g2.k, rn_thr (rf_u_eq ..) g2, by omega, lw_mk ⟨m0, m1, m2, s0, s1, s2, u0, u1, a, ff, rs, M2, z2, S2, w0, hq2⟩ hA g3 g2 (h3.fr (fun j hj => (rf_u_row j hj).trans (rf_u_row j hj)))⟩
    · obtain ⟨⟨o, B⟩, g, hq1, hq2, hq3⟩ := hp_89 (d := d) (Q := fun q => q.1 = .inl (some (.int (Int32.ofNat 0))) ∧ cl_J q.2 m0 m1 m2 s0 s1 s2 u0 u1 f cs n a ff rs xs' nv' M0 M1 M2 z0 z1 z2 S0 S1 S2 w0 w1 ∧ cl_F A q.2 0) (by omega) hk hcl (fun q hq => by
        rw [if_neg hbad, p1] at hq
        obtain ⟨e1, e3, e4⟩ := hq
        exact Or.inl ⟨e1, rfl, e3, e4⟩)
      dsimp only at hq1 hq2 hq3
      subst hq1
      have hB := h2.cl hq3 h4.2.2.1
      have hA := h4.cl hq3 (by omega)
      obtain ⟨C, g1, g2, g3⟩ := rn_word (d := d) (w := x) (x := c) (by omega) hv1 hB
      rw [if_neg hgood, q3] at g2
      exact ⟨B, C, 0, ⟨vs, hk⟩, g, hB.k, hA.1, g1, g2.k, rn_thr p4 g2, by omega, lw_mk ⟨m0, m1, m2, s0, s1, s2, u0, u1, a, ff, rs, M2, z2, S2, w0, hq2⟩ hA g3 g2 (h3.vk (rf_u0.trans p3) p2)⟩
theorem lv_drop {x : Int32} (hd : 2 ≤ d) (h : lw_V ws A k) : lv_P ws A k d 14 [.ref 45, .int x] 166 [.ref 128, .int x] := by
  obtain ⟨f, cs, n, xs, nv, M0, M1, z0, z1, S0, S1, w1, s, h1, h2, h3, h4⟩ := h
  have hk := h1.k
  obtain ⟨m0, m1, m2, s0, s1, s2, u0, u1, a, ff, rs, M2, z2, S2, w0, hJ⟩ := h1
  obtain ⟨nf, bf, lf, cf, hv1, hv2⟩ := h3.2.2.2.2.2.2.1
  obtain ⟨⟨o, B⟩, g, ok, hq1, hq2, hq3⟩ := cm_drop_w (d := d) (w := x) hd hJ
  dsimp only at hq1 hq2 hq3
  subst hq1
  have hB := h2.cl hq3 h4.2.2.1
  have hA := h4.cl hq3 (by omega)
  obtain ⟨⟨o', C⟩, g', ok', hr1, hr2⟩ := rn_drop (d := d) (w := x) hd hv1 hB
  dsimp only at hr1 hr2
  subst hr1
  have hfd : (cl_dx xs nv (sb_pn x) = none ∧ rf_fd nf (rf_nm x) nv 0 = none) ∨ (sb_pn x = -1 ∧ rf_fd nf (rf_nm x) nv 0 = none ∧ cl_dx xs nv (sb_pn x) = none) ∨ ∃ i j, cl_dx xs nv (sb_pn x) = some i ∧ rf_fd nf (rf_nm x) nv 0 = some j ∧ i < nv ∧ j < nv ∧ vr_E (xs.getD i sb_v0) (nf j) (bf j) (lf j) (cf j) ∧ sb_pn x ≠ -1 := by
    rcases nm_two x with ⟨q, q'⟩ | ⟨X, N, q1, q2, q3⟩
    · right; left
      rw [q, q']
      refine ⟨rfl, ?_, ?_⟩
      · rcases hf : rf_fd nf (-1) nv 0 with _ | j
        · rfl
        · exfalso
          have hj := rf_fd_lt hf
          obtain ⟨i, hi, X, N, e1, e2, e3, _⟩ := hv2.2.2.2.1 j (by omega)
          rw [hj.2.2] at e3
          exact i32_neg1 (rm_w_4 e1).2 e3.symm
      · rcases cl_dx_sp (xs := xs) (nm := -1) hv2.2.1 with ⟨e, _⟩ | ⟨i, e1, e2, e3, e4⟩
        · exact e
        · exfalso
          obtain ⟨j, hj, X, N, f1, f2, f3, _⟩ := hv2.2.2.1 i e3
          rw [e4] at f2
          exact i32_neg1 (rm_w_4 f1).1 f2.symm
    · rw [q2, q3]
      rcases vr_find hv2 q1 with ⟨e1, e2⟩ | ⟨i, j, e1, e2, e3, e4, e5⟩
      · exact Or.inl ⟨e1, e2⟩
      · exact Or.inr (Or.inr ⟨i, j, e1, e2, e3, e4, e5, i32_neg1 (rm_w_4 q1).1⟩)
  have hno : cl_dx xs nv (sb_pn x) = none → rf_fd nf (rf_nm x) nv 0 = none → lv_P ws A k d 14 [.ref 45, .int x] 166 [.ref 128, .int x] := by
    intro e1 e2
    rcases hq2 with ⟨k1, _, k2⟩ | ⟨_, i, k2, _⟩
    · rcases hr2 with ⟨l1, _, l2, l3⟩ | ⟨_, j, l2, _⟩
      · subst k1
        subst l1
        exact ⟨B, C, _, hk, g, hB.k, hA.1, g', lw_mk ⟨m0, m1, m2, s0, s1, s2, u0, u1, a, ff, rs, M2, z2, S2, w0, k2⟩ hA l3 l2 (h3.fr (fun j hj => rf_u_row j hj))⟩
      · rw [e2] at l2; cases l2
    · rw [e1] at k2; cases k2
  rcases hfd with ⟨e1, e2⟩ | ⟨_, e2, e1⟩ | ⟨i, j, e1, e2, e3, e4, e5, e6⟩
  · exact hno e1 e2
  · exact hno e1 e2
  · rcases hq2 with ⟨_, k1 | k1, _⟩ | ⟨k1, i', k2, _, rs9, k3⟩
    · exact absurd k1 e6
    · rw [e1] at k1; cases k1
    · rcases hr2 with ⟨_, l1, _⟩ | ⟨l1, j', l2, t, l3, l4, l5, l6, l7⟩
      · rw [e2] at l1; cases l1
      · subst k1
        subst l1
        rw [e1] at k2
        rw [e2] at l2
        injection k2 with k2
        injection l2 with l2
        subst k2
        subst l2
        exact ⟨B, C, _, hk, g, hB.k, hA.1, g', lw_mk ⟨m0, m1, m2, s0, s1, s2, u0, u1, a, ff, rs9, M2, z2, S2, w0, k3⟩ hA l7 l3 (h3.vk l5 ⟨_, _, _, _, l4, vr_drop hv2 e3 e4 e5⟩)⟩
end LV
