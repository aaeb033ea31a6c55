/-! PluralMessages: compile, rules. -/
theorem cm_comp {d m0 m1 m2 s0 s1 s2 u0 u1 n a nv : Nat} {f ff : Int32} {cs rs : List Nat} {xs : List sb_vt} {M0 M1 M2 : mg} {z0 z1 z2 : Bool} {S0 S1 S2 : rg} {w0 w1 : List Nat} {A : am_H} {x : Int32} {dbl : Bool} (hd : 30 ≤ d) (h : cl_J A m0 m1 m2 s0 s1 s2 u0 u1 f cs n a ff rs xs nv M0 M1 M2 z0 z1 z2 S0 S1 S2 w0 w1) : am_wp d 21 (0, am_ent 21 [.ref 45, .int x, .int (sb_i dbl)], [], A) (fun q => if sb_slot x = true then (match rd_msg cs n dbl 3 true false 0 (mg_clr M2) with | .error e => (∃ y a9 M9, q.1 = .inr y ∧ am_knd q.2 y = 210 ∧ cl_J q.2 m0 m1 m2 s0 s1 s2 u0 u1 (Int32.ofNat e) cs n (a9) (Int32.ofNat e) rs xs nv M0 M1 (M9) z0 z1 z2 S0 S1 S2 w0 w1 ∧ cl_F A q.2 2) | .ok y9 => q.1 = .inl none ∧ (if x = Int32.ofNat 0 then cl_J q.2 (m2) m1 (m0) s0 s1 s2 u0 u1 (-1) cs n (y9.1) (-1) rs xs nv (y9.2) M1 (M0) (true) z1 (z0) S0 S1 S2 w0 w1 else cl_J q.2 m0 (m2) (m1) s0 s1 s2 u0 u1 (-1) cs n (y9.1) (-1) rs xs nv M0 (y9.2) (M1) z0 (true) (z1) S0 S1 S2 w0 w1) ∧ cl_F A q.2 1) else (∃ y, q.1 = .inr y ∧ am_knd q.2 y = 210 ∧ cl_J q.2 m0 m1 m2 s0 s1 s2 u0 u1 (-1) cs n a ff rs xs nv M0 M1 M2 z0 z1 z2 S0 S1 S2 w0 w1 ∧ cl_F A q.2 1)) := by
  have hP9 := h.P
  unfold cl_P at hP9
  have hn9 := h.2.1.2.2.2.1
  have hd9 := h.2.1.2.2.2.2.2.2
  refine wp_st 2 (f' := (2, [some (.ref (45)), some (.int (x)), some (.int (sb_i dbl)), none], [.int ((-1)), .ref (45)], A)) rfl ?_
  have q1 := cl_obj_set (c' := cl_c m2 s2 u0 u1 ((-1))) h.1 rfl
  obtain ⟨A2, e3⟩ : ∃ B, B = A.set 45 (cl_c m2 s2 u0 u1 ((-1))) := ⟨_, rfl⟩
  rw [← e3] at q1
  refine wp_pf (A' := A2) rfl rfl h.oc rfl rfl rfl rfl e3.symm ?_
  have h4 := cl_J.obj (m0' := 0) (m1' := 0) (m2' := 0) (s0' := 0) (s1' := 0) (s2' := 0) (u0' := 0) (u1' := 0) h q1.1 q1.2.1 q1.2.2.1
  have f5 := (cl_F.refl A).trans q1.2.2.2
  refine wp_st 1 (f' := (6, [some (.ref (45)), some (.int (x)), some (.int (sb_i dbl)), none], [.int (x)], A2)) rfl ?_
  refine wp_cs (n := 0) (A' := A2) (v := some (.int (sb_i (sb_slot x)))) rfl rfl rfl (by omega) (sl_go) rfl ?_
  show am_wp d 21 (9, [some (.ref (45)), some (.int (x)), some (.int (sb_i dbl)), none], [.int (sb_i (sb_slot x))], A2) _
  by_cases b6 : (sb_slot x) = true
  · skip
    refine wp_izT rfl rfl (show sb_i (sb_slot x) ≠ 0 from by rw [b6]; decide) ?_
    refine wp_st 1 (f' := (23, [some (.ref (45)), some (.int (x)), some (.int (sb_i dbl)), none], [.ref (45)], A2)) rfl ?_
    refine wp_gf rfl rfl h4.oc rfl rfl ?_
    have hst := tx_start (d := d - 1) h4.2.1
    obtain ⟨Xa2, xe2⟩ : ∃ B, B = A2.set 46 (sb_tc 46 n 0 (-1)) := ⟨_, rfl⟩
    rw [← xe2] at hst
    have xf2 : sb_fr A2 Xa2 46 48 := (sb_fr.refl A2 46 48).set xe2 h4.2.1.1 rfl (by omega) (by omega)
    have xh2 := h4.text (by rw [xe2]; exact h4.2.1.set (a' := 0) (f' := -1) (by omega)) xf2
    have xg2 := cl_F.fr' f5 xf2 (by omega) (by omega)
    refine wp_cv (A' := Xa2) (v := none) rfl rfl rfl rfl rfl (show _ = some (1, [.ref 47, .int (Int32.ofNat n), .int (Int32.ofNat a), .int ff]) from h4.2.1.1) (by omega) (hst) rfl ?_
    show am_wp d 21 (29, [some (.ref (45)), some (.int (x)), some (.int (sb_i dbl)), none], [], Xa2) _
    refine wp_st 1 (f' := (30, [some (.ref (45)), some (.int (x)), some (.int (sb_i dbl)), none], [.ref (45)], Xa2)) rfl ?_
    refine wp_gf rfl rfl xh2.oc rfl rfl ?_
    obtain ⟨gv, gm2, -⟩ := xh2.2.2.2.2.2.2.2.1.fill
    obtain ⟨Xa3, xg3, xn3, xf3⟩ := mn_clear (d := d - 1) xh2.2.2.2.2.2.2.2.1
    have xh3 := xh2.msg2 xn3 xf3
    have xk3 := cl_F.fr' xg2 xf3 (by omega) (by omega)
    refine wp_cv (A' := Xa3) (v := none) rfl rfl rfl rfl rfl gm2 (by omega) (xg3) rfl ?_
    show am_wp d 21 (36, [some (.ref (45)), some (.int (x)), some (.int (sb_i dbl)), none], [], Xa3) _
    obtain ⟨r, hr⟩ : ∃ r, r = Xa3.length := ⟨_, rfl⟩
    obtain ⟨Xa5, xe5⟩ : ∃ B, B = Xa3 ++ [(8, am_def 8)] := ⟨_, rfl⟩
    refine wp_nw rfl rfl rfl ?_
    rw [← hr, ← xe5]
    have xc5 : Xa5[r]? = some (8, [.null, .null, .int 0]) := by rw [xe5, hr]; exact sb_app_last
    have xh5 := xh3.app (c := (8, am_def 8))
    rw [← xe5] at xh5
    have xf5 := xk3.trans (cl_F.app (c := (8, am_def 8)) (by decide))
    rw [← xe5] at xf5
    have hrl : A.length ≤ r ∧ 128 ≤ r ∧ r < Xa5.length := by
      have q1 := xk3.1
      have q2 := xh3.len
      rw [xe5]; simp; omega
    refine wp_st 2 (f' := (41, [some (.ref (45)), some (.int (x)), some (.int (sb_i dbl)), none], [.ref (45), .ref (r), .ref (r)], Xa5)) rfl ?_
    refine wp_gf rfl rfl xh5.oc rfl rfl ?_
    refine wp_st 1 (f' := (45, [some (.ref (45)), some (.int (x)), some (.int (sb_i dbl)), none], [.ref (45), .ref (46), .ref (r), .ref (r)], Xa5)) rfl ?_
    refine wp_gf rfl rfl xh5.oc rfl rfl ?_
    refine wp_st 1 (f' := (49, [some (.ref (45)), some (.int (x)), some (.int (sb_i dbl)), none], [.int (sb_i dbl), .ref (m2), .ref (46), .ref (r), .ref (r)], Xa5)) rfl ?_
    have hci := ct_mr (d := d - 1) (t := 46) (m := m2) (b := dbl) (by omega) (by omega) xc5
    obtain ⟨Xa6, xe6⟩ : ∃ B, B = Xa5.set r (8, [.ref 46, .ref m2, .int (sb_i dbl)]) := ⟨_, rfl⟩
    rw [← xe6] at hci
    have xc6 : Xa6[r]? = some (8, [.ref 46, .ref m2, .int (sb_i dbl)]) := by rw [xe6]; exact sb_ss xc5
    have xh6 := xh5.keep (B := Xa6) (fun q hq => by rw [xe6]; exact List.getElem?_set_ne (by omega)) (by rw [xe6, List.length_set]; omega)
    have xf6 := cl_F.set (c' := (8, [.ref 46, .ref m2, .int (sb_i dbl)])) xf5 hrl.1 xc5 rfl
    rw [← xe6] at xf6
    refine wp_ci (n := 0) (A' := Xa6) (v := none) rfl rfl rfl (by omega) (hci) rfl ?_
    show am_wp d 21 (52, [some (.ref (45)), some (.int (x)), some (.int (sb_i dbl)), none], [.ref (r)], Xa6) _
    refine wp_st 2 (f' := (54, [some (.ref (45)), some (.int (x)), some (.int (sb_i dbl)), none], [.int (Int32.ofNat 0), .int (Int32.ofNat 0), .ref (r)], Xa6)) rfl ?_
    have hmr : mr_I Xa6 r 46 m2 cs n 0 (-1) dbl (mg_clr M2) z2 := ⟨xc6, xh6.2.1, xh6.2.2.2.2.2.2.2.1, xh6.K, Or.inl (by omega), Or.inr (by omega), Or.inr (by omega), by omega⟩
    have hrd := mi_msg (r := r) (t := 46) (m := m2) 3 0 true rfl (Or.inl ⟨rfl, rfl⟩) (d - 1) 0 false (mg_clr M2) Xa6 (by omega) (by omega) (Nat.le_refl 0) (by show 3 * 0 ≤ _; omega) hmr
    rcases hrm : rd_msg cs n dbl 3 true false 0 (mg_clr M2) with xe0 | ⟨xa7, xM7⟩
    · skip
      obtain ⟨xa7, xM7, Xa7, xg7, xi7, xf7⟩ := mr_Q0 hrd hrm
      have xh7 := xh6.rdm xi7 xf7
      have xk7 := cl_F.rdm xf6 xf7 (by omega) (by omega)
      have her := rd_msg_er 3 true false 0 (mg_clr M2) xe0 (by omega) hrm
      refine wp_cv (A' := Xa7) (v := some (.int (Int32.ofNat 0))) rfl rfl rfl rfl rfl xc6 (by omega) (xg7) rfl ?_
      show am_wp d 21 (57, [some (.ref (45)), some (.int (x)), some (.int (sb_i dbl)), none], [.int (Int32.ofNat 0)], Xa7) _
      refine wp_st 3 (f' := (60, [some (.ref (45)), some (.int (x)), some (.int (sb_i dbl)), none], [.ref (45), .ref (45)], Xa7)) rfl ?_
      refine wp_gf rfl rfl xh7.oc rfl rfl ?_
      refine wp_gf rfl rfl (show _ = some (1, [.ref 47, .int (Int32.ofNat n), .int (Int32.ofNat xa7), .int (Int32.ofNat xe0)]) from xh7.2.1.1) rfl rfl ?_
      have q7 := cl_obj_set (c' := cl_c m2 s2 u0 u1 (Int32.ofNat xe0)) xh7.1 rfl
      obtain ⟨A8, e9⟩ : ∃ B, B = Xa7.set 45 (cl_c m2 s2 u0 u1 (Int32.ofNat xe0)) := ⟨_, rfl⟩
      rw [← e9] at q7
      refine wp_pf (A' := A8) rfl rfl xh7.oc rfl rfl rfl rfl e9.symm ?_
      have h10 := cl_J.obj (m0' := 0) (m1' := 0) (m2' := 0) (s0' := 0) (s1' := 0) (s2' := 0) (u0' := 0) (u1' := 0) xh7 q7.1 q7.2.1 q7.2.2.1
      have f11 := xk7.trans q7.2.2.2
      refine wp_st 1 (f' := (70, [some (.ref (45)), some (.int (x)), some (.int (sb_i dbl)), none], [.ref (45)], A8)) rfl ?_
      refine wp_gf rfl rfl h10.oc rfl rfl ?_
      refine wp_st 1 (f' := (74, [some (.ref (45)), some (.int (x)), some (.int (sb_i dbl)), none], [.int ((-1)), .int (Int32.ofNat xe0)], A8)) rfl ?_
      refine wp_ifF rfl rfl (i32_neg1 (by omega)) ?_
      refine wp_thr (q := 0) (by have := h10.len; omega) (by omega) rfl rfl (by omega) rfl rfl rfl rfl rfl rfl (by omega) (by decide) (fun a j vs B e1 e2 e3 e4 => ex_0 (by omega) e1 e2 e3 e4) rfl rfl ?_
      rw [if_pos b6]
      dsimp only
      exact ⟨A8.length, xa7, xM7, rfl, (show am_knd (ex_hp A8 200) A8.length = 210 by unfold am_knd ex_hp; rw [sb_app_last]), h10.app, (f11.trans (cl_F.app (by decide))).wide (by omega)⟩
    · skip
      obtain ⟨Xa7, xg7, xi7, xf7⟩ := mr_Q1 hrd hrm
      have xh7 := xh6.rdm xi7 xf7
      have xk7 := cl_F.rdm xf6 xf7 (by omega) (by omega)
      refine wp_cv (A' := Xa7) (v := some (.int (Int32.ofNat 1))) rfl rfl rfl rfl rfl xc6 (by omega) (xg7) rfl ?_
      show am_wp d 21 (57, [some (.ref (45)), some (.int (x)), some (.int (sb_i dbl)), none], [.int (Int32.ofNat 1)], Xa7) _
      refine wp_st 3 (f' := (60, [some (.ref (45)), some (.int (x)), some (.int (sb_i dbl)), none], [.ref (45), .ref (45)], Xa7)) rfl ?_
      refine wp_gf rfl rfl xh7.oc rfl rfl ?_
      refine wp_gf rfl rfl (show _ = some (1, [.ref 47, .int (Int32.ofNat n), .int (Int32.ofNat xa7), .int ((-1))]) from xh7.2.1.1) rfl rfl ?_
      have q12 := cl_obj_set (c' := cl_c m2 s2 u0 u1 ((-1))) xh7.1 rfl
      obtain ⟨A13, e14⟩ : ∃ B, B = Xa7.set 45 (cl_c m2 s2 u0 u1 ((-1))) := ⟨_, rfl⟩
      rw [← e14] at q12
      refine wp_pf (A' := A13) rfl rfl xh7.oc rfl rfl rfl rfl e14.symm ?_
      have h15 := cl_J.obj (m0' := 0) (m1' := 0) (m2' := 0) (s0' := 0) (s1' := 0) (s2' := 0) (u0' := 0) (u1' := 0) xh7 q12.1 q12.2.1 q12.2.2.1
      have f16 := xk7.trans q12.2.2.2
      refine wp_st 1 (f' := (70, [some (.ref (45)), some (.int (x)), some (.int (sb_i dbl)), none], [.ref (45)], A13)) rfl ?_
      refine wp_gf rfl rfl h15.oc rfl rfl ?_
      refine wp_st 1 (f' := (74, [some (.ref (45)), some (.int (x)), some (.int (sb_i dbl)), none], [.int ((-1)), .int ((-1))], A13)) rfl ?_
      refine wp_ifT rfl rfl (rfl) ?_
      rcases sl_two b6 with hx | hx
      · skip
        subst hx
        have hP := h15.P
        unfold cl_P at hP
        obtain ⟨gv, gm, gl, gn⟩ := h15.2.2.2.2.2.2.2.1.fill
        obtain ⟨B1, b1⟩ : ∃ B, B = A13.set 56 (111, [.ref m2, .ref m1]) := ⟨_, rfl⟩
        have gm1 : B1[m2]? = some (4, gv) := by rw [b1]; exact sb_so (by omega) gm
        obtain ⟨B2, b2⟩ : ∃ B, B = B1.set m2 (4, gv.set 10 (.int (Int32.ofNat 1))) := ⟨_, rfl⟩
        have o1 : B2[45]? = some (cl_c m2 s2 u0 u1 (-1)) := by rw [b2, b1]; exact sb_so (by omega) (sb_so (by omega) h15.1)
        obtain ⟨B3, b3⟩ : ∃ B, B = B2.set 45 (cl_c m0 s2 u0 u1 (-1)) := ⟨_, rfl⟩
        have r1 : B1[56]? = some (111, [.ref m2, .ref m1]) := by rw [b1]; exact sb_ss h15.2.2.2.1
        refine wp_st 1 (f' := (88, [some (.ref (45)), some (.int (Int32.ofNat 0)), some (.int (sb_i dbl)), none], [.ref (45)], A13)) rfl ?_
        refine wp_gf rfl rfl h15.oc rfl rfl ?_
        refine wp_st 1 (f' := (92, [some (.ref (45)), some (.int (Int32.ofNat 0)), some (.int (sb_i dbl)), none], [.int (Int32.ofNat 0), .ref (56)], A13)) rfl ?_
        refine wp_al rfl (Or.inr (Or.inr (Or.inr (Or.inr ⟨rfl, rfl⟩)))) rfl h15.2.2.2.1 (by omega) rfl rfl ?_
        refine wp_st 2 (f' := (95, [some (.ref (45)), some (.int (Int32.ofNat 0)), some (.int (sb_i dbl)), some (.ref (m0))], [.ref (45)], A13)) rfl ?_
        refine wp_gf rfl rfl h15.oc rfl rfl ?_
        refine wp_st 2 (f' := (100, [some (.ref (45)), some (.int (Int32.ofNat 0)), some (.int (sb_i dbl)), some (.ref (m0))], [.ref (45), .int (Int32.ofNat 0), .ref (56)], A13)) rfl ?_
        refine wp_gf rfl rfl h15.oc rfl rfl ?_
        refine wp_rs (A' := B1) rfl h15.2.2.2.1 rfl gm (by omega) (by simp) rfl rfl (by rw [b1]; rfl) ?_
        refine wp_st 1 (f' := (105, [some (.ref (45)), some (.int (Int32.ofNat 0)), some (.int (sb_i dbl)), some (.ref (m0))], [.ref (45)], B1)) rfl ?_
        refine wp_gf rfl rfl (show B1[45]? = some (0, [.ref 46, .ref 48, .ref 56, .ref 75, .ref m2, .ref s2, .ref u0, .ref u1, .int (-1)]) by rw [b1]; exact sb_so (by omega) h15.1) rfl rfl ?_
        refine wp_st 1 (f' := (109, [some (.ref (45)), some (.int (Int32.ofNat 0)), some (.int (sb_i dbl)), some (.ref (m0))], [.int (Int32.ofNat 0), .ref (56)], B1)) rfl ?_
        refine wp_al rfl (Or.inr (Or.inr (Or.inr (Or.inr ⟨rfl, rfl⟩)))) rfl r1 (by omega) rfl rfl ?_
        refine wp_st 1 (f' := (111, [some (.ref (45)), some (.int (Int32.ofNat 0)), some (.int (sb_i dbl)), some (.ref (m0))], [.int (Int32.ofNat 1), .ref (m2)], B1)) rfl ?_
        refine wp_pf (A' := B2) rfl rfl gm1 rfl (decide_eq_true (by omega)) (decide_eq_true (by omega)) rfl b2.symm ?_
        refine wp_st 2 (f' := (116, [some (.ref (45)), some (.int (Int32.ofNat 0)), some (.int (sb_i dbl)), some (.ref (m0))], [.ref (m0), .ref (45)], B2)) rfl ?_
        refine wp_pf (A' := B3) rfl rfl (show B2[45]? = some (0, [.ref 46, .ref 48, .ref 56, .ref 75, .ref m2, .ref s2, .ref u0, .ref u1, .int (-1)]) from o1) rfl rfl rfl rfl b3.symm ?_
        refine wp_rt rfl rfl rfl ?_
        rw [if_pos b6]
        dsimp only
        have hB2 : sb_N B2 m2 xM7 true := (show sb_N B1 m2 xM7 z2 from (h15.2.2.2.2.2.2.2.1).same (fun q _ _ => by rw [b1]; exact List.getElem?_set_ne (by omega))).fillx gm1 b2
        have hsx : ∀ q, q ≠ 45 → q ≠ 56 → (q < m2 ∨ m2 + 9 ≤ q) → B3[q]? = A13[q]? := fun q x1 x2 x3 => by rw [b3, List.getElem?_set_ne (fun e => x1 e.symm), b2, List.getElem?_set_ne (by omega), b1, List.getElem?_set_ne (fun e => x2 e.symm)]
        have hlen : B3.length = A13.length := by rw [b3, b2, b1]; simp
        refine ⟨rfl, ?_, ?_⟩
        · rw [if_pos rfl]
          exact h15.swm0 (by rw [b3]; exact sb_ss o1) (by rw [b3, b2]; exact sb_so (by omega) (sb_so (by omega) r1)) (hB2.same (fun q _ _ => by rw [b3]; exact List.getElem?_set_ne (by omega))) hsx hlen
        · exact cl_F.reg f16 hlen (by rw [b3, am_sl_set (c' := cl_c m0 s2 u0 u1 (-1)) o1 rfl, b2, am_sl_set (c' := (4, gv.set 10 (.int (Int32.ofNat 1)))) gm1 (by simp), b1, am_sl_set (c' := (111, [.ref m2, .ref m1])) h15.2.2.2.1 rfl]) (fun q hq => hsx q (by omega) (by omega) (by omega))
      · skip
        subst hx
        have hP := h15.P
        unfold cl_P at hP
        obtain ⟨gv, gm, gl, gn⟩ := h15.2.2.2.2.2.2.2.1.fill
        obtain ⟨B1, b1⟩ : ∃ B, B = A13.set 56 (111, [.ref m0, .ref m2]) := ⟨_, rfl⟩
        have gm1 : B1[m2]? = some (4, gv) := by rw [b1]; exact sb_so (by omega) gm
        obtain ⟨B2, b2⟩ : ∃ B, B = B1.set m2 (4, gv.set 10 (.int (Int32.ofNat 1))) := ⟨_, rfl⟩
        have o1 : B2[45]? = some (cl_c m2 s2 u0 u1 (-1)) := by rw [b2, b1]; exact sb_so (by omega) (sb_so (by omega) h15.1)
        obtain ⟨B3, b3⟩ : ∃ B, B = B2.set 45 (cl_c m1 s2 u0 u1 (-1)) := ⟨_, rfl⟩
        have r1 : B1[56]? = some (111, [.ref m0, .ref m2]) := by rw [b1]; exact sb_ss h15.2.2.2.1
        refine wp_st 1 (f' := (88, [some (.ref (45)), some (.int (Int32.ofNat 1)), some (.int (sb_i dbl)), none], [.ref (45)], A13)) rfl ?_
        refine wp_gf rfl rfl h15.oc rfl rfl ?_
        refine wp_st 1 (f' := (92, [some (.ref (45)), some (.int (Int32.ofNat 1)), some (.int (sb_i dbl)), none], [.int (Int32.ofNat 1), .ref (56)], A13)) rfl ?_
        refine wp_al rfl (Or.inr (Or.inr (Or.inr (Or.inr ⟨rfl, rfl⟩)))) rfl h15.2.2.2.1 (by omega) rfl rfl ?_
        refine wp_st 2 (f' := (95, [some (.ref (45)), some (.int (Int32.ofNat 1)), some (.int (sb_i dbl)), some (.ref (m1))], [.ref (45)], A13)) rfl ?_
        refine wp_gf rfl rfl h15.oc rfl rfl ?_
        refine wp_st 2 (f' := (100, [some (.ref (45)), some (.int (Int32.ofNat 1)), some (.int (sb_i dbl)), some (.ref (m1))], [.ref (45), .int (Int32.ofNat 1), .ref (56)], A13)) rfl ?_
        refine wp_gf rfl rfl h15.oc rfl rfl ?_
        refine wp_rs (A' := B1) rfl h15.2.2.2.1 rfl gm (by omega) (by simp) rfl rfl (by rw [b1]; rfl) ?_
        refine wp_st 1 (f' := (105, [some (.ref (45)), some (.int (Int32.ofNat 1)), some (.int (sb_i dbl)), some (.ref (m1))], [.ref (45)], B1)) rfl ?_
        refine wp_gf rfl rfl (show B1[45]? = some (0, [.ref 46, .ref 48, .ref 56, .ref 75, .ref m2, .ref s2, .ref u0, .ref u1, .int (-1)]) by rw [b1]; exact sb_so (by omega) h15.1) rfl rfl ?_
        refine wp_st 1 (f' := (109, [some (.ref (45)), some (.int (Int32.ofNat 1)), some (.int (sb_i dbl)), some (.ref (m1))], [.int (Int32.ofNat 1), .ref (56)], B1)) rfl ?_
        refine wp_al rfl (Or.inr (Or.inr (Or.inr (Or.inr ⟨rfl, rfl⟩)))) rfl r1 (by omega) rfl rfl ?_
        refine wp_st 1 (f' := (111, [some (.ref (45)), some (.int (Int32.ofNat 1)), some (.int (sb_i dbl)), some (.ref (m1))], [.int (Int32.ofNat 1), .ref (m2)], B1)) rfl ?_
        refine wp_pf (A' := B2) rfl rfl gm1 rfl (decide_eq_true (by omega)) (decide_eq_true (by omega)) rfl b2.symm ?_
        refine wp_st 2 (f' := (116, [some (.ref (45)), some (.int (Int32.ofNat 1)), some (.int (sb_i dbl)), some (.ref (m1))], [.ref (m1), .ref (45)], B2)) rfl ?_
        refine wp_pf (A' := B3) rfl rfl (show B2[45]? = some (0, [.ref 46, .ref 48, .ref 56, .ref 75, .ref m2, .ref s2, .ref u0, .ref u1, .int (-1)]) from o1) rfl rfl rfl rfl b3.symm ?_
        refine wp_rt rfl rfl rfl ?_
        rw [if_pos b6]
        dsimp only
        have hB2 : sb_N B2 m2 xM7 true := (show sb_N B1 m2 xM7 z2 from (h15.2.2.2.2.2.2.2.1).same (fun q _ _ => by rw [b1]; exact List.getElem?_set_ne (by omega))).fillx gm1 b2
        have hsx : ∀ q, q ≠ 45 → q ≠ 56 → (q < m2 ∨ m2 + 9 ≤ q) → B3[q]? = A13[q]? := fun q x1 x2 x3 => by rw [b3, List.getElem?_set_ne (fun e => x1 e.symm), b2, List.getElem?_set_ne (by omega), b1, List.getElem?_set_ne (fun e => x2 e.symm)]
        have hlen : B3.length = A13.length := by rw [b3, b2, b1]; simp
        refine ⟨rfl, ?_, ?_⟩
        · rw [if_neg (by decide)]
          exact h15.swm1 (by rw [b3]; exact sb_ss o1) (by rw [b3, b2]; exact sb_so (by omega) (sb_so (by omega) r1)) (hB2.same (fun q _ _ => by rw [b3]; exact List.getElem?_set_ne (by omega))) hsx hlen
        · exact cl_F.reg f16 hlen (by rw [b3, am_sl_set (c' := cl_c m1 s2 u0 u1 (-1)) o1 rfl, b2, am_sl_set (c' := (4, gv.set 10 (.int (Int32.ofNat 1)))) gm1 (by simp), b1, am_sl_set (c' := (111, [.ref m0, .ref m2])) h15.2.2.2.1 rfl]) (fun q hq => hsx q (by omega) (by omega) (by omega))
  · skip
    have b6f : (sb_slot x) = false := by simpa using b6
    refine wp_izF rfl rfl (show ¬ (sb_i (sb_slot x) ≠ 0) from by rw [b6f]; decide) ?_
    refine wp_thr (q := 0) (by have := h4.len; omega) (by omega) rfl rfl (by omega) rfl rfl rfl rfl rfl rfl (by omega) (by decide) (fun a j vs B e1 e2 e3 e4 => ex_0 (by omega) e1 e2 e3 e4) rfl rfl ?_
    rw [if_neg b6]
    exact ⟨A2.length, rfl, (show am_knd (ex_hp A2 200) A2.length = 210 by unfold am_knd ex_hp; rw [sb_app_last]), h4.app, (f5.trans (cl_F.app (by decide))).wide (by omega)⟩
