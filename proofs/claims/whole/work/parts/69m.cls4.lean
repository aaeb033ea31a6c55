/-! PluralMessages: rules, format. -/
theorem uv_Q1 {A : am_H} {r t m n d y a1 : Nat} {cs : List Nat} {as : List Value} {S1 : rg} {X : ru_R} (h : am_wp d y (0, am_ent y as, [], A) (uv_Q A r t m cs n X)) (hx : X = .ok (a1, S1)) : ui_go d y as A none r t m cs n a1 (-1) S1 := by
  subst hx
  obtain ⟨⟨o, B⟩, h1, h2, h3, h4⟩ := h
  dsimp only at h2
  subst h2
  exact ⟨B, h1, h3, h4⟩
theorem uv_Q0 {A : am_H} {r t m n d y e : Nat} {cs : List Nat} {as : List Value} {X : ru_R} (h : am_wp d y (0, am_ent y as, [], A) (uv_Q A r t m cs n X)) (hx : X = .error e) : ∃ a' S', ui_go d y as A none r t m cs n a' (Int32.ofNat e) S' := by
  subst hx
  obtain ⟨⟨o, B⟩, h1, h2, a', S', h3, h4⟩ := h
  dsimp only at h2
  subst h2
  exact ⟨a', S', B, h1, h3, h4⟩
theorem sb_G.cell {A : am_H} {s : Nat} {S : rg} (h : sb_G A s S) : ∃ vs, A[s]? = some (5, vs) := by
  obtain ⟨fi, en, op, mo, ng, og, fr, re, lo, hi, q, -⟩ := h
  exact ⟨_, q.1⟩
theorem cm_rul {d m0 m1 m2 s0 s1 s2 u0 u1 n a nv : Nat} {f ff : Int32} {cs rs : List Nat} {xs : List sb_vt} {M0 M1 M2 : mg} {z0 z1 z2 : Bool} {S0 S1 S2 : rg} {w0 w1 : List Nat} {A : am_H} {o : Bool} (hd : 30 ≤ d) (h : cl_J A m0 m1 m2 s0 s1 s2 u0 u1 f cs n a ff rs xs nv M0 M1 M2 z0 z1 z2 S0 S1 S2 w0 w1) : am_wp d 64 (0, am_ent 64 [.ref 45, .int (sb_i o)], [], A) (fun q => match ru_all cs n (rg_clr S2) with | .error e => (∃ y a9 S9, q.1 = .inr y ∧ am_knd q.2 y = 210 ∧ cl_J q.2 m0 m1 m2 s0 s1 s2 u0 u1 (Int32.ofNat e) cs n (a9) (Int32.ofNat e) rs xs nv M0 M1 M2 z0 z1 z2 S0 S1 (S9) w0 w1 ∧ cl_F A q.2 2) | .ok y9 => q.1 = .inl none ∧ (if o = true then cl_J q.2 m0 m1 m2 s0 (s2) (s1) u0 u1 (-1) cs n (y9.1) (-1) rs xs nv M0 M1 M2 z0 z1 z2 S0 (y9.2) (S1) w0 w1 else cl_J q.2 m0 m1 m2 (s2) s1 (s0) u0 u1 (-1) cs n (y9.1) (-1) rs xs nv M0 M1 M2 z0 z1 z2 (y9.2) S1 (S0) w0 w1) ∧ cl_F A q.2 1) := by
  have hP9 := h.P
  unfold cl_P at hP9
  have hn9 := h.2.1.2.2.2.1
  have hd9 := h.2.1.2.2.2.2.2.2
  refine wp_st 1 (f' := (1, [some (.ref (45)), some (.int (sb_i o)), none, none], [.ref (45)], A)) rfl ?_
  refine wp_gf rfl rfl h.oc rfl rfl ?_
  have hst := tx_start (d := d - 1) h.2.1
  obtain ⟨Xa2, xe2⟩ : ∃ B, B = A.set 46 (sb_tc 46 n 0 (-1)) := ⟨_, rfl⟩
  rw [← xe2] at hst
  have xf2 : sb_fr A Xa2 46 48 := (sb_fr.refl A 46 48).set xe2 h.2.1.1 rfl (by omega) (by omega)
  have xh2 := h.text (by rw [xe2]; exact h.2.1.set (a' := 0) (f' := -1) (by omega)) xf2
  have xg2 := cl_F.fr' (cl_F.refl A) xf2 (by omega) (by omega)
  refine wp_cv (A' := Xa2) (v := none) rfl rfl rfl rfl rfl (show _ = some (1, [.ref 47, .int (Int32.ofNat n), .int (Int32.ofNat a), .int ff]) from h.2.1.1) (by omega) (hst) rfl ?_
  show am_wp d 64 (7, [some (.ref (45)), some (.int (sb_i o)), none, none], [], Xa2) _
  refine wp_st 1 (f' := (8, [some (.ref (45)), some (.int (sb_i o)), none, none], [.ref (45)], Xa2)) rfl ?_
  refine wp_gf rfl rfl xh2.oc rfl rfl ?_
  obtain ⟨gv, gm2⟩ := xh2.2.2.2.2.2.2.2.2.2.2.1.cell
  obtain ⟨Xa3, xg3, xn3, xf3⟩ := gn_clear (d := d - 1) xh2.2.2.2.2.2.2.2.2.2.2.1
  have xh3 := xh2.rul2 xn3 xf3
  have xk3 := cl_F.fr' xg2 xf3 (by omega) (by omega)
  refine wp_cv (A' := Xa3) (v := none) rfl rfl rfl rfl rfl gm2 (by omega) (xg3) rfl ?_
  show am_wp d 64 (14, [some (.ref (45)), some (.int (sb_i o)), none, none], [], Xa3) _
  obtain ⟨r, hr⟩ : ∃ r, r = Xa3.length := ⟨_, rfl⟩
  obtain ⟨Xa5, xe5⟩ : ∃ B, B = Xa3 ++ [(9, am_def 9)] := ⟨_, rfl⟩
  refine wp_nw rfl rfl rfl ?_
  rw [← hr, ← xe5]
  have xc5 : Xa5[r]? = some (9, [.null, .null]) := by rw [xe5, hr]; exact sb_app_last
  have xh5 := xh3.app (c := (9, am_def 9))
  rw [← xe5] at xh5
  have xf5 := xk3.trans (cl_F.app (c := (9, am_def 9)) (by decide))
  rw [← xe5] at xf5
  have hrl : A.length ≤ r ∧ 128 ≤ r ∧ r < Xa5.length := by
    have q1 := xk3.1
    have q2 := xh3.len
    rw [xe5]; simp; omega
  refine wp_st 2 (f' := (19, [some (.ref (45)), some (.int (sb_i o)), none, none], [.ref (45), .ref (r), .ref (r)], Xa5)) rfl ?_
  refine wp_gf rfl rfl xh5.oc rfl rfl ?_
  refine wp_st 1 (f' := (23, [some (.ref (45)), some (.int (sb_i o)), none, none], [.ref (45), .ref (46), .ref (r), .ref (r)], Xa5)) rfl ?_
  refine wp_gf rfl rfl xh5.oc rfl rfl ?_
  have hci := ct_rr (d := d - 1) (t := 46) (s := s2) (by omega) (by omega) xc5
  obtain ⟨Xa6, xe6⟩ : ∃ B, B = Xa5.set r (9, [.ref 46, .ref s2]) := ⟨_, rfl⟩
  rw [← xe6] at hci
  have xc6 : Xa6[r]? = some (9, [.ref 46, .ref s2]) := by rw [xe6]; exact sb_ss xc5
  have xh6 := xh5.keep (B := Xa6) (fun q hq => by rw [xe6]; exact List.getElem?_set_ne (by omega)) (by rw [xe6, List.length_set]; omega)
  have xf6 := cl_F.set (c' := (9, [.ref 46, .ref s2])) xf5 hrl.1 xc5 rfl
  rw [← xe6] at xf6
  refine wp_ci (n := 0) (A' := Xa6) (v := none) rfl rfl rfl (by omega) (hci) rfl ?_
  show am_wp d 64 (29, [some (.ref (45)), some (.int (sb_i o)), none, none], [.ref (r)], Xa6) _
  have hmr : ur_I Xa6 r 46 s2 cs n 0 (-1) (rg_clr S2) := ⟨xc6, xh6.2.1, xh6.2.2.2.2.2.2.2.2.2.2.1, xh6.K, Or.inl (by omega), Or.inr (by omega), Or.inr (by omega), by omega⟩
  have hrd := ui_rules (d := d - 1) (by omega) rfl rfl hmr
  rcases hrm : ru_all cs n (rg_clr S2) with xe0 | ⟨xa7, xM7⟩
  · skip
    obtain ⟨xa7, xM7, Xa7, xg7, xi7, xf7⟩ := uv_Q0 hrd hrm
    have xh7 := xh6.rdr xi7 xf7
    have xk7 := cl_F.rdr xf6 xf7 (by omega) (by omega)
    have her := ru_all_er hrm
    refine wp_cv (A' := Xa7) (v := none) rfl rfl rfl rfl rfl xc6 (by omega) (xg7) rfl ?_
    show am_wp d 64 (32, [some (.ref (45)), some (.int (sb_i o)), none, none], [], Xa7) _
    refine wp_st 2 (f' := (34, [some (.ref (45)), some (.int (sb_i o)), none, none], [.ref (45), .ref (45)], Xa7)) rfl ?_
    refine wp_gf rfl rfl xh7.oc rfl rfl ?_
    refine wp_gf rfl rfl (show _ = some (1, [.ref 47, .int (Int32.ofNat n), .int (Int32.ofNat xa7), .int (Int32.ofNat xe0)]) from xh7.2.1.1) rfl rfl ?_
    have q1 := cl_obj_set (c' := cl_c m2 s2 u0 u1 (Int32.ofNat xe0)) xh7.1 rfl
    obtain ⟨A2, e3⟩ : ∃ B, B = Xa7.set 45 (cl_c m2 s2 u0 u1 (Int32.ofNat xe0)) := ⟨_, rfl⟩
    rw [← e3] at q1
    refine wp_pf (A' := A2) rfl rfl xh7.oc rfl rfl rfl rfl e3.symm ?_
    have h4 := cl_J.obj (m0' := 0) (m1' := 0) (m2' := 0) (s0' := 0) (s1' := 0) (s2' := 0) (u0' := 0) (u1' := 0) xh7 q1.1 q1.2.1 q1.2.2.1
    have f5 := xk7.trans q1.2.2.2
    refine wp_st 1 (f' := (44, [some (.ref (45)), some (.int (sb_i o)), none, none], [.ref (45)], A2)) rfl ?_
    refine wp_gf rfl rfl h4.oc rfl rfl ?_
    refine wp_st 1 (f' := (48, [some (.ref (45)), some (.int (sb_i o)), none, none], [.int ((-1)), .int (Int32.ofNat xe0)], A2)) rfl ?_
    refine wp_ifF rfl rfl (i32_neg1 (by omega)) ?_
    refine wp_thr (q := 0) (by have := h4.len; omega) (by omega) rfl rfl (by omega) rfl rfl rfl rfl rfl rfl (by omega) (by decide) (fun a j vs B e1 e2 e3 e4 => ex_0 (by omega) e1 e2 e3 e4) rfl rfl ?_
    dsimp only
    exact ⟨A2.length, xa7, xM7, rfl, (show am_knd (ex_hp A2 200) A2.length = 210 by unfold am_knd ex_hp; rw [sb_app_last]), h4.app, (f5.trans (cl_F.app (by decide))).wide (by omega)⟩
  · skip
    obtain ⟨Xa7, xg7, xi7, xf7⟩ := uv_Q1 hrd hrm
    have xh7 := xh6.rdr xi7 xf7
    have xk7 := cl_F.rdr xf6 xf7 (by omega) (by omega)
    refine wp_cv (A' := Xa7) (v := none) rfl rfl rfl rfl rfl xc6 (by omega) (xg7) rfl ?_
    show am_wp d 64 (32, [some (.ref (45)), some (.int (sb_i o)), none, none], [], Xa7) _
    refine wp_st 2 (f' := (34, [some (.ref (45)), some (.int (sb_i o)), none, none], [.ref (45), .ref (45)], Xa7)) rfl ?_
    refine wp_gf rfl rfl xh7.oc rfl rfl ?_
    refine wp_gf rfl rfl (show _ = some (1, [.ref 47, .int (Int32.ofNat n), .int (Int32.ofNat xa7), .int ((-1))]) from xh7.2.1.1) rfl rfl ?_
    have q6 := cl_obj_set (c' := cl_c m2 s2 u0 u1 ((-1))) xh7.1 rfl
    obtain ⟨A7, e8⟩ : ∃ B, B = Xa7.set 45 (cl_c m2 s2 u0 u1 ((-1))) := ⟨_, rfl⟩
    rw [← e8] at q6
    refine wp_pf (A' := A7) rfl rfl xh7.oc rfl rfl rfl rfl e8.symm ?_
    have h9 := cl_J.obj (m0' := 0) (m1' := 0) (m2' := 0) (s0' := 0) (s1' := 0) (s2' := 0) (u0' := 0) (u1' := 0) xh7 q6.1 q6.2.1 q6.2.2.1
    have f10 := xk7.trans q6.2.2.2
    refine wp_st 1 (f' := (44, [some (.ref (45)), some (.int (sb_i o)), none, none], [.ref (45)], A7)) rfl ?_
    refine wp_gf rfl rfl h9.oc rfl rfl ?_
    refine wp_st 1 (f' := (48, [some (.ref (45)), some (.int (sb_i o)), none, none], [.int ((-1)), .int ((-1))], A7)) rfl ?_
    refine wp_ifT rfl rfl (rfl) ?_
    refine wp_st 1 (f' := (62, [some (.ref (45)), some (.int (sb_i o)), none, none], [.int (sb_i o)], A7)) rfl ?_
    by_cases b11 : o = true
    · skip
      refine wp_izF rfl rfl (show ¬ (sb_i o = 0) from by rw [b11]; decide) ?_
      refine wp_st 2 (f' := (70, [some (.ref (45)), some (.int (sb_i o)), none, none], [.int (Int32.ofNat 1)], A7)) rfl ?_
      have hP := h9.P
      unfold cl_P at hP
      obtain ⟨gv9, gm9⟩ := h9.2.2.2.2.2.2.2.2.2.2.1.cell
      obtain ⟨B1, bb1⟩ : ∃ B, B = A7.set 75 (112, [.ref s0, .ref s2]) := ⟨_, rfl⟩
      have o1 : B1[45]? = some (cl_c m2 s2 u0 u1 (-1)) := by rw [bb1]; exact sb_so (by omega) h9.1
      obtain ⟨B3, bb3⟩ : ∃ B, B = B1.set 45 (cl_c m2 s1 u0 u1 (-1)) := ⟨_, rfl⟩
      refine wp_st 2 (f' := (72, [some (.ref (45)), some (.int (sb_i o)), some (.int (Int32.ofNat 1)), none], [.ref (45)], A7)) rfl ?_
      refine wp_gf rfl rfl h9.oc rfl rfl ?_
      refine wp_st 1 (f' := (76, [some (.ref (45)), some (.int (sb_i o)), some (.int (Int32.ofNat 1)), none], [.int (Int32.ofNat 1), .ref (75)], A7)) rfl ?_
      refine wp_al rfl (Or.inr (Or.inr (Or.inr (Or.inr ⟨rfl, rfl⟩)))) rfl h9.2.2.2.2.1 (by omega) rfl rfl ?_
      refine wp_st 2 (f' := (79, [some (.ref (45)), some (.int (sb_i o)), some (.int (Int32.ofNat 1)), some (.ref (s1))], [.ref (45)], A7)) rfl ?_
      refine wp_gf rfl rfl h9.oc rfl rfl ?_
      refine wp_st 2 (f' := (84, [some (.ref (45)), some (.int (sb_i o)), some (.int (Int32.ofNat 1)), some (.ref (s1))], [.ref (45), .int (Int32.ofNat 1), .ref (75)], A7)) rfl ?_
      refine wp_gf rfl rfl h9.oc rfl rfl ?_
      refine wp_rs (A' := B1) rfl h9.2.2.2.2.1 rfl gm9 (by omega) (by simp) rfl rfl (by rw [bb1]; rfl) ?_
      refine wp_st 2 (f' := (90, [some (.ref (45)), some (.int (sb_i o)), some (.int (Int32.ofNat 1)), some (.ref (s1))], [.ref (s1), .ref (45)], B1)) rfl ?_
      refine wp_pf (A' := B3) rfl rfl (show B1[45]? = some (0, [.ref 46, .ref 48, .ref 56, .ref 75, .ref m2, .ref s2, .ref u0, .ref u1, .int (-1)]) from o1) rfl rfl rfl rfl bb3.symm ?_
      refine wp_rt rfl rfl rfl ?_
      dsimp only
      have hsx : ∀ q, q ≠ 45 → q ≠ 75 → B3[q]? = A7[q]? := fun q x1 x2 => by rw [bb3, List.getElem?_set_ne (fun e => x1 e.symm), bb1, List.getElem?_set_ne (fun e => x2 e.symm)]
      have hlen : B3.length = A7.length := by rw [bb3, bb1]; simp
      refine ⟨rfl, ?_, ?_⟩
      · rw [if_pos b11]
        exact h9.sws1 (by rw [bb3]; exact sb_ss o1) (by rw [bb3]; exact sb_so (by omega) (by rw [bb1]; exact sb_ss h9.2.2.2.2.1)) hsx hlen
      · exact cl_F.reg f10 hlen (by rw [bb3, am_sl_set (c' := cl_c m2 s1 u0 u1 (-1)) o1 rfl, bb1, am_sl_set (c' := (112, [.ref s0, .ref s2])) h9.2.2.2.2.1 rfl]) (fun q hq => hsx q (by omega) (by omega))
    · skip
      have b11f : o = false := by simpa using b11
      refine wp_izT rfl rfl (show sb_i o = 0 from by rw [b11f]; decide) ?_
      refine wp_st 1 (f' := (70, [some (.ref (45)), some (.int (sb_i o)), none, none], [.int (Int32.ofNat 0)], A7)) rfl ?_
      have hP := h9.P
      unfold cl_P at hP
      obtain ⟨gv9, gm9⟩ := h9.2.2.2.2.2.2.2.2.2.2.1.cell
      obtain ⟨B1, bb1⟩ : ∃ B, B = A7.set 75 (112, [.ref s2, .ref s1]) := ⟨_, rfl⟩
      have o1 : B1[45]? = some (cl_c m2 s2 u0 u1 (-1)) := by rw [bb1]; exact sb_so (by omega) h9.1
      obtain ⟨B3, bb3⟩ : ∃ B, B = B1.set 45 (cl_c m2 s0 u0 u1 (-1)) := ⟨_, rfl⟩
      refine wp_st 2 (f' := (72, [some (.ref (45)), some (.int (sb_i o)), some (.int (Int32.ofNat 0)), none], [.ref (45)], A7)) rfl ?_
      refine wp_gf rfl rfl h9.oc rfl rfl ?_
      refine wp_st 1 (f' := (76, [some (.ref (45)), some (.int (sb_i o)), some (.int (Int32.ofNat 0)), none], [.int (Int32.ofNat 0), .ref (75)], A7)) rfl ?_
      refine wp_al rfl (Or.inr (Or.inr (Or.inr (Or.inr ⟨rfl, rfl⟩)))) rfl h9.2.2.2.2.1 (by omega) rfl rfl ?_
      refine wp_st 2 (f' := (79, [some (.ref (45)), some (.int (sb_i o)), some (.int (Int32.ofNat 0)), some (.ref (s0))], [.ref (45)], A7)) rfl ?_
      refine wp_gf rfl rfl h9.oc rfl rfl ?_
      refine wp_st 2 (f' := (84, [some (.ref (45)), some (.int (sb_i o)), some (.int (Int32.ofNat 0)), some (.ref (s0))], [.ref (45), .int (Int32.ofNat 0), .ref (75)], A7)) rfl ?_
      refine wp_gf rfl rfl h9.oc rfl rfl ?_
      refine wp_rs (A' := B1) rfl h9.2.2.2.2.1 rfl gm9 (by omega) (by simp) rfl rfl (by rw [bb1]; rfl) ?_
      refine wp_st 2 (f' := (90, [some (.ref (45)), some (.int (sb_i o)), some (.int (Int32.ofNat 0)), some (.ref (s0))], [.ref (s0), .ref (45)], B1)) rfl ?_
      refine wp_pf (A' := B3) rfl rfl (show B1[45]? = some (0, [.ref 46, .ref 48, .ref 56, .ref 75, .ref m2, .ref s2, .ref u0, .ref u1, .int (-1)]) from o1) rfl rfl rfl rfl bb3.symm ?_
      refine wp_rt rfl rfl rfl ?_
      dsimp only
      have hsx : ∀ q, q ≠ 45 → q ≠ 75 → B3[q]? = A7[q]? := fun q x1 x2 => by rw [bb3, List.getElem?_set_ne (fun e => x1 e.symm), bb1, List.getElem?_set_ne (fun e => x2 e.symm)]
      have hlen : B3.length = A7.length := by rw [bb3, bb1]; simp
      refine ⟨rfl, ?_, ?_⟩
      · rw [if_neg b11]
        exact h9.sws0 (by rw [bb3]; exact sb_ss o1) (by rw [bb3]; exact sb_so (by omega) (by rw [bb1]; exact sb_ss h9.2.2.2.2.1)) hsx hlen
      · exact cl_F.reg f10 hlen (by rw [bb3, am_sl_set (c' := cl_c m2 s0 u0 u1 (-1)) o1 rfl, bb1, am_sl_set (c' := (112, [.ref s2, .ref s1])) h9.2.2.2.2.1 rfl]) (fun q hq => hsx q (by omega) (by omega))
theorem sb_N.cell {A : am_H} {m : Nat} {M : mg} {z : Bool} (h : sb_N A m M z) : A[m]? = some (4, [.ref (m + 1), .ref (m + 2), .ref (m + 3), .ref (m + 4), .int (Int32.ofNat (mg_P M)), .ref (m + 5), .ref (m + 6), .ref (m + 7), .ref (m + 8), .int (Int32.ofNat (mg_B M)), .int (sb_i z)]) := by
  obtain ⟨ks, ct, os, ns, ow, se, st, en, q, e⟩ := h
  exact q.1
theorem cm_fmt0 {d m0 m1 m2 s0 s1 s2 u0 u1 n a nv : Nat} {f ff : Int32} {cs rs : List Nat} {xs : List sb_vt} {M0 M1 M2 : mg} {z0 z1 z2 : Bool} {S0 S1 S2 : rg} {w0 w1 : List Nat} {A : am_H} {len : Bool} {vf : wr_v} (hd : 40 ≤ d) (hv : vl_ok xs nv vf) (hw0 : rg_wf S0) (hw1 : rg_wf S1) (hwf : z0 = true → mg_wf M0) (h : cl_J A m0 m1 m2 s0 s1 s2 u0 u1 f cs n a ff rs xs nv M0 M1 M2 z0 z1 z2 S0 S1 S2 w0 w1) : am_wp d 99 (0, am_ent 99 [.ref 45, .int (Int32.ofNat 0), .int (sb_i len)], [], A) (fun q => if z0 = true then (match wr_msg M0 vf S0 S1 len 3 true 0 (mg_P M0) 0 0 [] with | .error c => (∃ y w9, q.1 = .inr y ∧ am_knd q.2 y = (if c = 1 then 213 else if c = 2 then 211 else 212) ∧ cl_J q.2 m0 m1 m2 s0 s1 s2 u0 u1 f cs n a ff rs xs nv M0 M1 M2 z0 z1 z2 S0 S1 S2 (w9) w1 ∧ cl_F A q.2 2) | .ok w9 => q.1 = .inl (some (.int (Int32.ofNat w9.length))) ∧ cl_J q.2 m0 m1 m2 s0 s1 s2 (u1) (u0) f cs n a ff rs xs nv M0 M1 M2 z0 z1 z2 S0 S1 S2 (w1) (w9) ∧ cl_F A q.2 1) else (∃ y, q.1 = .inr y ∧ am_knd q.2 y = 210 ∧ cl_J q.2 m0 m1 m2 s0 s1 s2 u0 u1 f cs n a ff rs xs nv M0 M1 M2 z0 z1 z2 S0 S1 S2 w0 w1 ∧ cl_F A q.2 1)) := by
  have hP9 := h.P
  unfold cl_P at hP9
  have hn9 := h.2.1.2.2.2.1
  have hd9 := h.2.1.2.2.2.2.2.2
  refine wp_st 1 (f' := (1, [some (.ref (45)), some (.int (Int32.ofNat 0)), some (.int (sb_i len)), none, none, none, none], [.int (Int32.ofNat 0)], A)) rfl ?_
  refine wp_cs (n := 0) (A' := A) (v := some (.int (Int32.ofNat 1))) rfl rfl rfl (by omega) (by have e := sl_go (d := d - 1) (x := Int32.ofNat 0) (A := A); exact e) rfl ?_
  show am_wp d 99 (4, [some (.ref (45)), some (.int (Int32.ofNat 0)), some (.int (sb_i len)), none, none, none, none], [.int (Int32.ofNat 1)], A) _
  refine wp_izF rfl rfl (show ¬ ((Int32.ofNat 1) = (Int32.ofNat 0)) from by decide) ?_
  refine wp_st 1 (f' := (8, [some (.ref (45)), some (.int (Int32.ofNat 0)), some (.int (sb_i len)), none, none, none, none], [.ref (45)], A)) rfl ?_
  refine wp_gf rfl rfl h.oc rfl rfl ?_
  refine wp_st 1 (f' := (12, [some (.ref (45)), some (.int (Int32.ofNat 0)), some (.int (sb_i len)), none, none, none, none], [.int (Int32.ofNat 0), .ref (56)], A)) rfl ?_
  refine wp_al rfl (Or.inr (Or.inr (Or.inr (Or.inr ⟨rfl, rfl⟩)))) rfl h.2.2.2.1 (by omega) rfl rfl ?_
  refine wp_gf rfl rfl (show _ = some (4, [.ref (m0 + 1), .ref (m0 + 2), .ref (m0 + 3), .ref (m0 + 4), .int (Int32.ofNat (mg_P M0)), .ref (m0 + 5), .ref (m0 + 6), .ref (m0 + 7), .ref (m0 + 8), .int (Int32.ofNat (mg_B M0)), .int (sb_i z0)]) from (sb_N.cell h.2.2.2.2.2.1)) rfl rfl ?_
  by_cases b1 : z0 = true
  · skip
    refine wp_izT rfl rfl (show sb_i z0 ≠ 0 from by rw [b1]; decide) ?_
    refine wp_st 1 (f' := (30, [some (.ref (45)), some (.int (Int32.ofNat 0)), some (.int (sb_i len)), none, none, none, none], [.ref (45)], A)) rfl ?_
    refine wp_gf rfl rfl h.oc rfl rfl ?_
    refine wp_st 1 (f' := (34, [some (.ref (45)), some (.int (Int32.ofNat 0)), some (.int (sb_i len)), none, none, none, none], [.int (Int32.ofNat 0), .ref (56)], A)) rfl ?_
    refine wp_al rfl (Or.inr (Or.inr (Or.inr (Or.inr ⟨rfl, rfl⟩)))) rfl h.2.2.2.1 (by omega) rfl rfl ?_
    refine wp_st 2 (f' := (37, [some (.ref (45)), some (.int (Int32.ofNat 0)), some (.int (sb_i len)), some (.ref (m0)), none, none, none], [.ref (45)], A)) rfl ?_
    refine wp_gf rfl rfl h.oc rfl rfl ?_
    refine wp_st 1 (f' := (41, [some (.ref (45)), some (.int (Int32.ofNat 0)), some (.int (sb_i len)), some (.ref (m0)), none, none, none], [.int (Int32.ofNat 0), .ref (u0)], A)) rfl ?_
    obtain ⟨uz1, uz2, uz3⟩ := sb_O.zero h.2.2.2.2.2.2.2.2.2.2.2.2.2.2.1
    obtain ⟨Xa4, xe4⟩ : ∃ B, B = A.set u0 (7, [.ref (u0 + 1), .int (Int32.ofNat 0)]) := ⟨_, rfl⟩
    rw [← xe4] at uz2 uz3
    refine wp_pf (A' := Xa4) rfl rfl uz1 rfl rfl (decide_eq_true (by omega)) rfl xe4.symm ?_
    have xh4 := h.out0 uz2 uz3
    have xk4 := cl_F.fr' (cl_F.refl A) uz3 (by omega) (by omega)
    obtain ⟨r, hr⟩ : ∃ r, r = Xa4.length := ⟨_, rfl⟩
    obtain ⟨Xa5, xe5⟩ : ∃ B, B = Xa4 ++ [(10, am_def 10)] := ⟨_, rfl⟩
    refine wp_nw rfl rfl rfl ?_
    rw [← hr, ← xe5]
    have xc5 : Xa5[r]? = some (10, [.null, .null, .null, .null, .int 0]) := by rw [xe5, hr]; exact sb_app_last
    have xh5 := xh4.app (c := (10, am_def 10))
    rw [← xe5] at xh5
    have xf5 := xk4.trans (cl_F.app (c := (10, am_def 10)) (by decide))
    rw [← xe5] at xf5
    have hrl : A.length ≤ r ∧ 128 ≤ r ∧ r < Xa5.length := by
      have q1 := xk4.1
      have q2 := xh4.len
      rw [xe5]; simp; omega
    refine wp_st 3 (f' := (50, [some (.ref (45)), some (.int (Int32.ofNat 0)), some (.int (sb_i len)), some (.ref (m0)), none, none, none], [.ref (45), .ref (m0), .ref (r), .ref (r)], Xa5)) rfl ?_
    refine wp_gf rfl rfl xh5.oc rfl rfl ?_
    refine wp_st 1 (f' := (54, [some (.ref (45)), some (.int (Int32.ofNat 0)), some (.int (sb_i len)), some (.ref (m0)), none, none, none], [.ref (45), .ref (48), .ref (m0), .ref (r), .ref (r)], Xa5)) rfl ?_
    refine wp_gf rfl rfl xh5.oc rfl rfl ?_
    refine wp_st 1 (f' := (58, [some (.ref (45)), some (.int (Int32.ofNat 0)), some (.int (sb_i len)), some (.ref (m0)), none, none, none], [.ref (45), .ref (75), .ref (48), .ref (m0), .ref (r), .ref (r)], Xa5)) rfl ?_
    refine wp_gf rfl rfl xh5.oc rfl rfl ?_
    refine wp_st 1 (f' := (62, [some (.ref (45)), some (.int (Int32.ofNat 0)), some (.int (sb_i len)), some (.ref (m0)), none, none, none], [.int (sb_i len), .ref (u0), .ref (75), .ref (48), .ref (m0), .ref (r), .ref (r)], Xa5)) rfl ?_
    have hci := ct_wr (d := d - 1) (m := m0) (v := 48) (s := 75) (u := u0) (b := len) (by omega) (by omega) xc5
    obtain ⟨Xa6, xe6⟩ : ∃ B, B = Xa5.set r (10, [.ref m0, .ref 48, .ref 75, .ref u0, .int (sb_i len)]) := ⟨_, rfl⟩
    rw [← xe6] at hci
    have xc6 : Xa6[r]? = some (10, [.ref m0, .ref 48, .ref 75, .ref u0, .int (sb_i len)]) := by rw [xe6]; exact sb_ss xc5
    have xh6 := xh5.keep (B := Xa6) (fun q hq => by rw [xe6]; exact List.getElem?_set_ne (by omega)) (by rw [xe6, List.length_set]; omega)
    have xf6 := cl_F.set (c' := (10, [.ref m0, .ref 48, .ref 75, .ref u0, .int (sb_i len)])) xf5 hrl.1 xc5 rfl
    rw [← xe6] at xf6
    refine wp_ci (n := 0) (A' := Xa6) (v := none) rfl rfl rfl (by omega) (hci) rfl ?_
    show am_wp d 99 (65, [some (.ref (45)), some (.int (Int32.ofNat 0)), some (.int (sb_i len)), some (.ref (m0)), none, none, none], [.ref (r)], Xa6) _
    refine wp_st 4 (f' := (71, [some (.ref (45)), some (.int (Int32.ofNat 0)), some (.int (sb_i len)), some (.ref (m0)), some (.ref (r)), none, none], [.ref (m0), .int (Int32.ofNat 0), .ref (r)], Xa6)) rfl ?_
    refine wp_gf rfl rfl (show _ = some (4, [.ref (m0 + 1), .ref (m0 + 2), .ref (m0 + 3), .ref (m0 + 4), .int (Int32.ofNat (mg_P M0)), .ref (m0 + 5), .ref (m0 + 6), .ref (m0 + 7), .ref (m0 + 8), .int (Int32.ofNat (mg_B M0)), .int (sb_i z0)]) from (sb_N.cell xh6.2.2.2.2.2.1)) rfl rfl ?_
    refine wp_st 3 (f' := (77, [some (.ref (45)), some (.int (Int32.ofNat 0)), some (.int (sb_i len)), some (.ref (m0)), some (.ref (r)), none, none], [.int (Int32.ofNat 0), .long (Int64.ofNat 0), .int (Int32.ofNat 0), .int (Int32.ofNat (mg_P M0)), .int (Int32.ofNat 0), .ref (r)], Xa6)) rfl ?_
    have q9 := h.P
    unfold cl_P at q9
    obtain ⟨q1, q2, q3, q4, q5, q6, q7, q8, q9, q10, q11, q12, q13, q14⟩ := q9
    have hwr : wr_I Xa6 r m0 48 75 s0 s1 u0 M0 z0 rs xs nv S0 S1 len [] := ⟨xc6, xh6.2.2.2.2.2.1, xh6.2.2.1, xh6.2.2.2.2.1, xh6.2.2.2.2.2.2.2.2.1, xh6.2.2.2.2.2.2.2.2.2.1, xh6.2.2.2.2.2.2.2.2.2.2.2.1, xh6.2.2.2.2.2.2.2.2.2.2.2.2.1, xh6.2.2.2.2.2.2.2.2.2.2.2.2.2.2.1, xh6.K, ⟨⟨Or.inr (by omega), Or.inr (by omega), Or.inr (by omega)⟩, ⟨Or.inl (by omega), (by have e1 := q12.1; unfold sb_dj at e1 ⊢; omega), (by have e1 := q12.2.1; unfold sb_dj at e1 ⊢; omega)⟩, ⟨Or.inl (by omega), Or.inl (by omega), Or.inl (by omega)⟩, ⟨Or.inl (by omega), Or.inl (by omega), Or.inl (by omega)⟩, Or.inl (by omega), Or.inl (by omega), q11.1, by omega⟩⟩
    have hrd := wi_msg hv hw0 hw1 (hwf b1) 3 0 true rfl (Or.inl ⟨rfl, rfl⟩) (d - 1) 0 (mg_P M0) 0 0 [] Xa6 (by omega) (by omega) hwr.lenw.2.2.1 (by omega) (by decide) hwr
    rcases hrm : wr_msg M0 vf S0 S1 len 3 true 0 (mg_P M0) 0 0 [] with xc0 | xw7
    · skip
      obtain ⟨xw7, Xa7, xp7, xq7, xg7, xi7, xf7⟩ := wr_Q0 hrd hrm
      have xh7 := xh6.wrm0 xi7 xf7
      have xk7 := cl_F.wrm xf6 xf7 (by omega) (by omega) (by omega)
      refine wp_cv (A' := Xa7) (v := some (.int (Int32.ofNat xc0))) rfl rfl rfl rfl rfl xc6 (by omega) (xg7) rfl ?_
      show am_wp d 99 (80, [some (.ref (45)), some (.int (Int32.ofNat 0)), some (.int (sb_i len)), some (.ref (m0)), some (.ref (r)), none, none], [.int (Int32.ofNat xc0)], Xa7) _
      refine wp_st 3 (f' := (85, [some (.ref (45)), some (.int (Int32.ofNat 0)), some (.int (sb_i len)), some (.ref (m0)), some (.ref (r)), some (.int (Int32.ofNat xc0)), none], [.int (Int32.ofNat 1), .int (Int32.ofNat xc0)], Xa7)) rfl ?_
      refine wp_if rfl rfl rfl (fun (h2 : (Int32.ofNat xc0) ≠ (Int32.ofNat 1)) => ?_) (fun (h2 : ¬ ((Int32.ofNat xc0) ≠ (Int32.ofNat 1))) => ?_)
      · skip
        rw [ne_eq, i32_eq (by omega) (by omega)] at h2
        refine wp_st 2 (f' := (101, [some (.ref (45)), some (.int (Int32.ofNat 0)), some (.int (sb_i len)), some (.ref (m0)), some (.ref (r)), some (.int (Int32.ofNat xc0)), none], [.int (Int32.ofNat 2), .int (Int32.ofNat xc0)], Xa7)) rfl ?_
        refine wp_if rfl rfl rfl (fun (h3 : (Int32.ofNat xc0) ≠ (Int32.ofNat 2)) => ?_) (fun (h3 : ¬ ((Int32.ofNat xc0) ≠ (Int32.ofNat 2))) => ?_)
        · skip
          rw [ne_eq, i32_eq (by omega) (by omega)] at h3
          refine wp_st 2 (f' := (117, [some (.ref (45)), some (.int (Int32.ofNat 0)), some (.int (sb_i len)), some (.ref (m0)), some (.ref (r)), some (.int (Int32.ofNat xc0)), none], [.int (Int32.ofNat 3), .int (Int32.ofNat xc0)], Xa7)) rfl ?_
          refine wp_if rfl rfl rfl (fun (h4 : (Int32.ofNat xc0) ≠ (Int32.ofNat 3)) => ?_) (fun (h4 : ¬ ((Int32.ofNat xc0) ≠ (Int32.ofNat 3))) => ?_)
          · skip
            rw [ne_eq, i32_eq (by omega) (by omega)] at h4
            exfalso
            omega
          · skip
            rw [ne_eq, i32_eq (by omega) (by omega)] at h4
            replace h4 := Decidable.not_not.mp h4
            refine wp_thr (q := 2) (by have := xh7.len; omega) (by omega) rfl rfl (by omega) rfl rfl rfl rfl rfl rfl (by omega) (by decide) (fun a j vs B e1 e2 e3 e4 => ex_2 (by omega) e1 e2 e3 e4) rfl rfl ?_
            rw [if_pos b1]
            dsimp only
            exact ⟨Xa7.length, xw7, rfl, (show am_knd (ex_hp Xa7 202) Xa7.length = _ by unfold am_knd ex_hp; rw [sb_app_last]; simp [h2, h3, h4]), xh7.app, (xk7.trans (cl_F.app (by decide))).wide (by omega)⟩
        · skip
          rw [ne_eq, i32_eq (by omega) (by omega)] at h3
          replace h3 := Decidable.not_not.mp h3
          refine wp_thr (q := 1) (by have := xh7.len; omega) (by omega) rfl rfl (by omega) rfl rfl rfl rfl rfl rfl (by omega) (by decide) (fun a j vs B e1 e2 e3 e4 => ex_1 (by omega) e1 e2 e3 e4) rfl rfl ?_
          rw [if_pos b1]
          dsimp only
          exact ⟨Xa7.length, xw7, rfl, (show am_knd (ex_hp Xa7 201) Xa7.length = _ by unfold am_knd ex_hp; rw [sb_app_last]; simp [h2, h3]), xh7.app, (xk7.trans (cl_F.app (by decide))).wide (by omega)⟩
      · skip
        rw [ne_eq, i32_eq (by omega) (by omega)] at h2
        replace h2 := Decidable.not_not.mp h2
        refine wp_thr (q := 3) (by have := xh7.len; omega) (by omega) rfl rfl (by omega) rfl rfl rfl rfl rfl rfl (by omega) (by decide) (fun a j vs B e1 e2 e3 e4 => ex_3 (by omega) e1 e2 e3 e4) rfl rfl ?_
        rw [if_pos b1]
        dsimp only
        exact ⟨Xa7.length, xw7, rfl, (show am_knd (ex_hp Xa7 203) Xa7.length = _ by unfold am_knd ex_hp; rw [sb_app_last]; simp [h2]), xh7.app, (xk7.trans (cl_F.app (by decide))).wide (by omega)⟩
    · skip
      obtain ⟨Xa7, xg7, xi7, xf7⟩ := wr_Q1 hrd hrm
      have xh7 := xh6.wrm0 xi7 xf7
      have xk7 := cl_F.wrm xf6 xf7 (by omega) (by omega) (by omega)
      refine wp_cv (A' := Xa7) (v := some (.int (Int32.ofNat 0))) rfl rfl rfl rfl rfl xc6 (by omega) (xg7) rfl ?_
      show am_wp d 99 (80, [some (.ref (45)), some (.int (Int32.ofNat 0)), some (.int (sb_i len)), some (.ref (m0)), some (.ref (r)), none, none], [.int (Int32.ofNat 0)], Xa7) _
      refine wp_st 3 (f' := (85, [some (.ref (45)), some (.int (Int32.ofNat 0)), some (.int (sb_i len)), some (.ref (m0)), some (.ref (r)), some (.int (Int32.ofNat 0)), none], [.int (Int32.ofNat 1), .int (Int32.ofNat 0)], Xa7)) rfl ?_
      refine wp_ifT rfl rfl (show (Int32.ofNat 0) ≠ (Int32.ofNat 1) from by decide) ?_
      refine wp_st 2 (f' := (101, [some (.ref (45)), some (.int (Int32.ofNat 0)), some (.int (sb_i len)), some (.ref (m0)), some (.ref (r)), some (.int (Int32.ofNat 0)), none], [.int (Int32.ofNat 2), .int (Int32.ofNat 0)], Xa7)) rfl ?_
      refine wp_ifT rfl rfl (show (Int32.ofNat 0) ≠ (Int32.ofNat 2) from by decide) ?_
      refine wp_st 2 (f' := (117, [some (.ref (45)), some (.int (Int32.ofNat 0)), some (.int (sb_i len)), some (.ref (m0)), some (.ref (r)), some (.int (Int32.ofNat 0)), none], [.int (Int32.ofNat 3), .int (Int32.ofNat 0)], Xa7)) rfl ?_
      refine wp_ifT rfl rfl (show (Int32.ofNat 0) ≠ (Int32.ofNat 3) from by decide) ?_
      obtain ⟨B1, bb1⟩ : ∃ B, B = Xa7.set 45 (cl_c m2 s2 u0 u0 f) := ⟨_, rfl⟩
      have o1 : B1[45]? = some (0, [.ref 46, .ref 48, .ref 56, .ref 75, .ref m2, .ref s2, .ref u0, .ref u0, .int f]) := by rw [bb1]; exact sb_ss xh7.1
      obtain ⟨B2, bb2⟩ : ∃ B, B = B1.set 45 (cl_c m2 s2 u1 u0 f) := ⟨_, rfl⟩
      have o2 : B2[45]? = some (0, [.ref 46, .ref 48, .ref 56, .ref 75, .ref m2, .ref s2, .ref u1, .ref u0, .int f]) := by rw [bb2]; exact sb_ss o1
      have ou : B2[u0]? = some (7, [.ref (u0 + 1), .int (Int32.ofNat xw7.length)]) := by rw [bb2, bb1]; exact sb_so (by omega) (sb_so (by omega) xi7.oc)
      refine wp_st 1 (f' := (131, [some (.ref (45)), some (.int (Int32.ofNat 0)), some (.int (sb_i len)), some (.ref (m0)), some (.ref (r)), some (.int (Int32.ofNat 0)), none], [.ref (45)], Xa7)) rfl ?_
      refine wp_gf rfl rfl xh7.oc rfl rfl ?_
      refine wp_st 3 (f' := (138, [some (.ref (45)), some (.int (Int32.ofNat 0)), some (.int (sb_i len)), some (.ref (m0)), some (.ref (r)), some (.int (Int32.ofNat 0)), some (.ref (u1))], [.ref (45), .ref (45)], Xa7)) rfl ?_
      refine wp_gf rfl rfl xh7.oc rfl rfl ?_
      refine wp_pf (A' := B1) rfl rfl (show Xa7[45]? = some (0, [.ref 46, .ref 48, .ref 56, .ref 75, .ref m2, .ref s2, .ref u0, .ref u1, .int f]) from xh7.1) rfl rfl rfl rfl bb1.symm ?_
      refine wp_st 2 (f' := (147, [some (.ref (45)), some (.int (Int32.ofNat 0)), some (.int (sb_i len)), some (.ref (m0)), some (.ref (r)), some (.int (Int32.ofNat 0)), some (.ref (u1))], [.ref (u1), .ref (45)], B1)) rfl ?_
      refine wp_pf (A' := B2) rfl rfl o1 rfl rfl rfl rfl bb2.symm ?_
      refine wp_st 1 (f' := (151, [some (.ref (45)), some (.int (Int32.ofNat 0)), some (.int (sb_i len)), some (.ref (m0)), some (.ref (r)), some (.int (Int32.ofNat 0)), some (.ref (u1))], [.ref (45)], B2)) rfl ?_
      refine wp_gf rfl rfl o2 rfl rfl ?_
      refine wp_gf rfl rfl ou rfl rfl ?_
      refine wp_rt rfl rfl rfl ?_
      rw [if_pos b1]
      dsimp only
      have hsx : ∀ q, q ≠ 45 → B2[q]? = Xa7[q]? := fun q x1 => by rw [bb2, List.getElem?_set_ne (fun e => x1 e.symm), bb1, List.getElem?_set_ne (fun e => x1 e.symm)]
      have hlen : B2.length = Xa7.length := by rw [bb2, bb1]; simp
      refine ⟨rfl, xh7.swo o2 hsx hlen, ?_⟩
      exact cl_F.reg xk7 hlen (by rw [bb2, am_sl_set (c' := cl_c m2 s2 u1 u0 f) o1 rfl, bb1, am_sl_set (c' := cl_c m2 s2 u0 u0 f) xh7.1 rfl]) (fun q hq => hsx q (by omega))
  · skip
    have b1f : z0 = false := by simpa using b1
    refine wp_izF rfl rfl (show ¬ (sb_i z0 ≠ 0) from by rw [b1f]; decide) ?_
    refine wp_thr (q := 0) (by have := h.len; omega) (by omega) rfl rfl (by omega) rfl rfl rfl rfl rfl rfl (by omega) (by decide) (fun a j vs B e1 e2 e3 e4 => ex_0 (by omega) e1 e2 e3 e4) rfl rfl ?_
    rw [if_neg b1]
    exact ⟨A.length, rfl, (show am_knd (ex_hp A 200) A.length = 210 by unfold am_knd ex_hp; rw [sb_app_last]), h.app, ((cl_F.refl A).trans (cl_F.app (by decide))).wide (by omega)⟩
theorem cm_fmt1 {d m0 m1 m2 s0 s1 s2 u0 u1 n a nv : Nat} {f ff : Int32} {cs rs : List Nat} {xs : List sb_vt} {M0 M1 M2 : mg} {z0 z1 z2 : Bool} {S0 S1 S2 : rg} {w0 w1 : List Nat} {A : am_H} {len : Bool} {vf : wr_v} (hd : 40 ≤ d) (hv : vl_ok xs nv vf) (hw0 : rg_wf S0) (hw1 : rg_wf S1) (hwf : z1 = true → mg_wf M1) (h : cl_J A m0 m1 m2 s0 s1 s2 u0 u1 f cs n a ff rs xs nv M0 M1 M2 z0 z1 z2 S0 S1 S2 w0 w1) : am_wp d 99 (0, am_ent 99 [.ref 45, .int (Int32.ofNat 1), .int (sb_i len)], [], A) (fun q => if z1 = true then (match wr_msg M1 vf S0 S1 len 3 true 0 (mg_P M1) 0 0 [] with | .error c => (∃ y w9, q.1 = .inr y ∧ am_knd q.2 y = (if c = 1 then 213 else if c = 2 then 211 else 212) ∧ cl_J q.2 m0 m1 m2 s0 s1 s2 u0 u1 f cs n a ff rs xs nv M0 M1 M2 z0 z1 z2 S0 S1 S2 (w9) w1 ∧ cl_F A q.2 2) | .ok w9 => q.1 = .inl (some (.int (Int32.ofNat w9.length))) ∧ cl_J q.2 m0 m1 m2 s0 s1 s2 (u1) (u0) f cs n a ff rs xs nv M0 M1 M2 z0 z1 z2 S0 S1 S2 (w1) (w9) ∧ cl_F A q.2 1) else (∃ y, q.1 = .inr y ∧ am_knd q.2 y = 210 ∧ cl_J q.2 m0 m1 m2 s0 s1 s2 u0 u1 f cs n a ff rs xs nv M0 M1 M2 z0 z1 z2 S0 S1 S2 w0 w1 ∧ cl_F A q.2 1)) := by
  have hP9 := h.P
  unfold cl_P at hP9
  have hn9 := h.2.1.2.2.2.1
  have hd9 := h.2.1.2.2.2.2.2.2
  refine wp_st 1 (f' := (1, [some (.ref (45)), some (.int (Int32.ofNat 1)), some (.int (sb_i len)), none, none, none, none], [.int (Int32.ofNat 1)], A)) rfl ?_
  refine wp_cs (n := 0) (A' := A) (v := some (.int (Int32.ofNat 1))) rfl rfl rfl (by omega) (by have e := sl_go (d := d - 1) (x := Int32.ofNat 1) (A := A); exact e) rfl ?_
  show am_wp d 99 (4, [some (.ref (45)), some (.int (Int32.ofNat 1)), some (.int (sb_i len)), none, none, none, none], [.int (Int32.ofNat 1)], A) _
  refine wp_izF rfl rfl (show ¬ ((Int32.ofNat 1) = (Int32.ofNat 0)) from by decide) ?_
  refine wp_st 1 (f' := (8, [some (.ref (45)), some (.int (Int32.ofNat 1)), some (.int (sb_i len)), none, none, none, none], [.ref (45)], A)) rfl ?_
  refine wp_gf rfl rfl h.oc rfl rfl ?_
  refine wp_st 1 (f' := (12, [some (.ref (45)), some (.int (Int32.ofNat 1)), some (.int (sb_i len)), none, none, none, none], [.int (Int32.ofNat 1), .ref (56)], A)) rfl ?_
  refine wp_al rfl (Or.inr (Or.inr (Or.inr (Or.inr ⟨rfl, rfl⟩)))) rfl h.2.2.2.1 (by omega) rfl rfl ?_
  refine wp_gf rfl rfl (show _ = some (4, [.ref (m1 + 1), .ref (m1 + 2), .ref (m1 + 3), .ref (m1 + 4), .int (Int32.ofNat (mg_P M1)), .ref (m1 + 5), .ref (m1 + 6), .ref (m1 + 7), .ref (m1 + 8), .int (Int32.ofNat (mg_B M1)), .int (sb_i z1)]) from (sb_N.cell h.2.2.2.2.2.2.1)) rfl rfl ?_
  by_cases b1 : z1 = true
  · skip
    refine wp_izT rfl rfl (show sb_i z1 ≠ 0 from by rw [b1]; decide) ?_
    refine wp_st 1 (f' := (30, [some (.ref (45)), some (.int (Int32.ofNat 1)), some (.int (sb_i len)), none, none, none, none], [.ref (45)], A)) rfl ?_
    refine wp_gf rfl rfl h.oc rfl rfl ?_
    refine wp_st 1 (f' := (34, [some (.ref (45)), some (.int (Int32.ofNat 1)), some (.int (sb_i len)), none, none, none, none], [.int (Int32.ofNat 1), .ref (56)], A)) rfl ?_
    refine wp_al rfl (Or.inr (Or.inr (Or.inr (Or.inr ⟨rfl, rfl⟩)))) rfl h.2.2.2.1 (by omega) rfl rfl ?_
    refine wp_st 2 (f' := (37, [some (.ref (45)), some (.int (Int32.ofNat 1)), some (.int (sb_i len)), some (.ref (m1)), none, none, none], [.ref (45)], A)) rfl ?_
    refine wp_gf rfl rfl h.oc rfl rfl ?_
    refine wp_st 1 (f' := (41, [some (.ref (45)), some (.int (Int32.ofNat 1)), some (.int (sb_i len)), some (.ref (m1)), none, none, none], [.int (Int32.ofNat 0), .ref (u0)], A)) rfl ?_
    obtain ⟨uz1, uz2, uz3⟩ := sb_O.zero h.2.2.2.2.2.2.2.2.2.2.2.2.2.2.1
    obtain ⟨Xa4, xe4⟩ : ∃ B, B = A.set u0 (7, [.ref (u0 + 1), .int (Int32.ofNat 0)]) := ⟨_, rfl⟩
    rw [← xe4] at uz2 uz3
    refine wp_pf (A' := Xa4) rfl rfl uz1 rfl rfl (decide_eq_true (by omega)) rfl xe4.symm ?_
    have xh4 := h.out0 uz2 uz3
    have xk4 := cl_F.fr' (cl_F.refl A) uz3 (by omega) (by omega)
    obtain ⟨r, hr⟩ : ∃ r, r = Xa4.length := ⟨_, rfl⟩
    obtain ⟨Xa5, xe5⟩ : ∃ B, B = Xa4 ++ [(10, am_def 10)] := ⟨_, rfl⟩
    refine wp_nw rfl rfl rfl ?_
    rw [← hr, ← xe5]
    have xc5 : Xa5[r]? = some (10, [.null, .null, .null, .null, .int 0]) := by rw [xe5, hr]; exact sb_app_last
    have xh5 := xh4.app (c := (10, am_def 10))
    rw [← xe5] at xh5
    have xf5 := xk4.trans (cl_F.app (c := (10, am_def 10)) (by decide))
    rw [← xe5] at xf5
    have hrl : A.length ≤ r ∧ 128 ≤ r ∧ r < Xa5.length := by
      have q1 := xk4.1
      have q2 := xh4.len
      rw [xe5]; simp; omega
    refine wp_st 3 (f' := (50, [some (.ref (45)), some (.int (Int32.ofNat 1)), some (.int (sb_i len)), some (.ref (m1)), none, none, none], [.ref (45), .ref (m1), .ref (r), .ref (r)], Xa5)) rfl ?_
    refine wp_gf rfl rfl xh5.oc rfl rfl ?_
    refine wp_st 1 (f' := (54, [some (.ref (45)), some (.int (Int32.ofNat 1)), some (.int (sb_i len)), some (.ref (m1)), none, none, none], [.ref (45), .ref (48), .ref (m1), .ref (r), .ref (r)], Xa5)) rfl ?_
    refine wp_gf rfl rfl xh5.oc rfl rfl ?_
    refine wp_st 1 (f' := (58, [some (.ref (45)), some (.int (Int32.ofNat 1)), some (.int (sb_i len)), some (.ref (m1)), none, none, none], [.ref (45), .ref (75), .ref (48), .ref (m1), .ref (r), .ref (r)], Xa5)) rfl ?_
    refine wp_gf rfl rfl xh5.oc rfl rfl ?_
    refine wp_st 1 (f' := (62, [some (.ref (45)), some (.int (Int32.ofNat 1)), some (.int (sb_i len)), some (.ref (m1)), none, none, none], [.int (sb_i len), .ref (u0), .ref (75), .ref (48), .ref (m1), .ref (r), .ref (r)], Xa5)) rfl ?_
    have hci := ct_wr (d := d - 1) (m := m1) (v := 48) (s := 75) (u := u0) (b := len) (by omega) (by omega) xc5
    obtain ⟨Xa6, xe6⟩ : ∃ B, B = Xa5.set r (10, [.ref m1, .ref 48, .ref 75, .ref u0, .int (sb_i len)]) := ⟨_, rfl⟩
    rw [← xe6] at hci
    have xc6 : Xa6[r]? = some (10, [.ref m1, .ref 48, .ref 75, .ref u0, .int (sb_i len)]) := by rw [xe6]; exact sb_ss xc5
    have xh6 := xh5.keep (B := Xa6) (fun q hq => by rw [xe6]; exact List.getElem?_set_ne (by omega)) (by rw [xe6, List.length_set]; omega)
    have xf6 := cl_F.set (c' := (10, [.ref m1, .ref 48, .ref 75, .ref u0, .int (sb_i len)])) xf5 hrl.1 xc5 rfl
    rw [← xe6] at xf6
    refine wp_ci (n := 0) (A' := Xa6) (v := none) rfl rfl rfl (by omega) (hci) rfl ?_
    show am_wp d 99 (65, [some (.ref (45)), some (.int (Int32.ofNat 1)), some (.int (sb_i len)), some (.ref (m1)), none, none, none], [.ref (r)], Xa6) _
    refine wp_st 4 (f' := (71, [some (.ref (45)), some (.int (Int32.ofNat 1)), some (.int (sb_i len)), some (.ref (m1)), some (.ref (r)), none, none], [.ref (m1), .int (Int32.ofNat 0), .ref (r)], Xa6)) rfl ?_
    refine wp_gf rfl rfl (show _ = some (4, [.ref (m1 + 1), .ref (m1 + 2), .ref (m1 + 3), .ref (m1 + 4), .int (Int32.ofNat (mg_P M1)), .ref (m1 + 5), .ref (m1 + 6), .ref (m1 + 7), .ref (m1 + 8), .int (Int32.ofNat (mg_B M1)), .int (sb_i z1)]) from (sb_N.cell xh6.2.2.2.2.2.2.1)) rfl rfl ?_
    refine wp_st 3 (f' := (77, [some (.ref (45)), some (.int (Int32.ofNat 1)), some (.int (sb_i len)), some (.ref (m1)), some (.ref (r)), none, none], [.int (Int32.ofNat 0), .long (Int64.ofNat 0), .int (Int32.ofNat 0), .int (Int32.ofNat (mg_P M1)), .int (Int32.ofNat 0), .ref (r)], Xa6)) rfl ?_
    have q9 := h.P
    unfold cl_P at q9
    obtain ⟨q1, q2, q3, q4, q5, q6, q7, q8, q9, q10, q11, q12, q13, q14⟩ := q9
    have hwr : wr_I Xa6 r m1 48 75 s0 s1 u0 M1 z1 rs xs nv S0 S1 len [] := ⟨xc6, xh6.2.2.2.2.2.2.1, xh6.2.2.1, xh6.2.2.2.2.1, xh6.2.2.2.2.2.2.2.2.1, xh6.2.2.2.2.2.2.2.2.2.1, xh6.2.2.2.2.2.2.2.2.2.2.2.1, xh6.2.2.2.2.2.2.2.2.2.2.2.2.1, xh6.2.2.2.2.2.2.2.2.2.2.2.2.2.2.1, xh6.K, ⟨⟨Or.inr (by omega), Or.inr (by omega), Or.inr (by omega)⟩, ⟨Or.inl (by omega), (by have e1 := q13.1; unfold sb_dj at e1 ⊢; omega), (by have e1 := q13.2.1; unfold sb_dj at e1 ⊢; omega)⟩, ⟨Or.inl (by omega), Or.inl (by omega), Or.inl (by omega)⟩, ⟨Or.inl (by omega), Or.inl (by omega), Or.inl (by omega)⟩, Or.inl (by omega), Or.inl (by omega), q11.1, by omega⟩⟩
    have hrd := wi_msg hv hw0 hw1 (hwf b1) 3 0 true rfl (Or.inl ⟨rfl, rfl⟩) (d - 1) 0 (mg_P M1) 0 0 [] Xa6 (by omega) (by omega) hwr.lenw.2.2.1 (by omega) (by decide) hwr
    rcases hrm : wr_msg M1 vf S0 S1 len 3 true 0 (mg_P M1) 0 0 [] with xc0 | xw7
    · skip
      obtain ⟨xw7, Xa7, xp7, xq7, xg7, xi7, xf7⟩ := wr_Q0 hrd hrm
      have xh7 := xh6.wrm1 xi7 xf7
      have xk7 := cl_F.wrm xf6 xf7 (by omega) (by omega) (by omega)
      refine wp_cv (A' := Xa7) (v := some (.int (Int32.ofNat xc0))) rfl rfl rfl rfl rfl xc6 (by omega) (xg7) rfl ?_
      show am_wp d 99 (80, [some (.ref (45)), some (.int (Int32.ofNat 1)), some (.int (sb_i len)), some (.ref (m1)), some (.ref (r)), none, none], [.int (Int32.ofNat xc0)], Xa7) _
      refine wp_st 3 (f' := (85, [some (.ref (45)), some (.int (Int32.ofNat 1)), some (.int (sb_i len)), some (.ref (m1)), some (.ref (r)), some (.int (Int32.ofNat xc0)), none], [.int (Int32.ofNat 1), .int (Int32.ofNat xc0)], Xa7)) rfl ?_
      refine wp_if rfl rfl rfl (fun (h2 : (Int32.ofNat xc0) ≠ (Int32.ofNat 1)) => ?_) (fun (h2 : ¬ ((Int32.ofNat xc0) ≠ (Int32.ofNat 1))) => ?_)
      · skip
        rw [ne_eq, i32_eq (by omega) (by omega)] at h2
        refine wp_st 2 (f' := (101, [some (.ref (45)), some (.int (Int32.ofNat 1)), some (.int (sb_i len)), some (.ref (m1)), some (.ref (r)), some (.int (Int32.ofNat xc0)), none], [.int (Int32.ofNat 2), .int (Int32.ofNat xc0)], Xa7)) rfl ?_
        refine wp_if rfl rfl rfl (fun (h3 : (Int32.ofNat xc0) ≠ (Int32.ofNat 2)) => ?_) (fun (h3 : ¬ ((Int32.ofNat xc0) ≠ (Int32.ofNat 2))) => ?_)
        · skip
          rw [ne_eq, i32_eq (by omega) (by omega)] at h3
          refine wp_st 2 (f' := (117, [some (.ref (45)), some (.int (Int32.ofNat 1)), some (.int (sb_i len)), some (.ref (m1)), some (.ref (r)), some (.int (Int32.ofNat xc0)), none], [.int (Int32.ofNat 3), .int (Int32.ofNat xc0)], Xa7)) rfl ?_
          refine wp_if rfl rfl rfl (fun (h4 : (Int32.ofNat xc0) ≠ (Int32.ofNat 3)) => ?_) (fun (h4 : ¬ ((Int32.ofNat xc0) ≠ (Int32.ofNat 3))) => ?_)
          · skip
            rw [ne_eq, i32_eq (by omega) (by omega)] at h4
            exfalso
            omega
          · skip
            rw [ne_eq, i32_eq (by omega) (by omega)] at h4
            replace h4 := Decidable.not_not.mp h4
            refine wp_thr (q := 2) (by have := xh7.len; omega) (by omega) rfl rfl (by omega) rfl rfl rfl rfl rfl rfl (by omega) (by decide) (fun a j vs B e1 e2 e3 e4 => ex_2 (by omega) e1 e2 e3 e4) rfl rfl ?_
            rw [if_pos b1]
            dsimp only
            exact ⟨Xa7.length, xw7, rfl, (show am_knd (ex_hp Xa7 202) Xa7.length = _ by unfold am_knd ex_hp; rw [sb_app_last]; simp [h2, h3, h4]), xh7.app, (xk7.trans (cl_F.app (by decide))).wide (by omega)⟩
        · skip
          rw [ne_eq, i32_eq (by omega) (by omega)] at h3
          replace h3 := Decidable.not_not.mp h3
          refine wp_thr (q := 1) (by have := xh7.len; omega) (by omega) rfl rfl (by omega) rfl rfl rfl rfl rfl rfl (by omega) (by decide) (fun a j vs B e1 e2 e3 e4 => ex_1 (by omega) e1 e2 e3 e4) rfl rfl ?_
          rw [if_pos b1]
          dsimp only
          exact ⟨Xa7.length, xw7, rfl, (show am_knd (ex_hp Xa7 201) Xa7.length = _ by unfold am_knd ex_hp; rw [sb_app_last]; simp [h2, h3]), xh7.app, (xk7.trans (cl_F.app (by decide))).wide (by omega)⟩
      · skip
        rw [ne_eq, i32_eq (by omega) (by omega)] at h2
        replace h2 := Decidable.not_not.mp h2
        refine wp_thr (q := 3) (by have := xh7.len; omega) (by omega) rfl rfl (by omega) rfl rfl rfl rfl rfl rfl (by omega) (by decide) (fun a j vs B e1 e2 e3 e4 => ex_3 (by omega) e1 e2 e3 e4) rfl rfl ?_
        rw [if_pos b1]
        dsimp only
        exact ⟨Xa7.length, xw7, rfl, (show am_knd (ex_hp Xa7 203) Xa7.length = _ by unfold am_knd ex_hp; rw [sb_app_last]; simp [h2]), xh7.app, (xk7.trans (cl_F.app (by decide))).wide (by omega)⟩
    · skip
      obtain ⟨Xa7, xg7, xi7, xf7⟩ := wr_Q1 hrd hrm
      have xh7 := xh6.wrm1 xi7 xf7
      have xk7 := cl_F.wrm xf6 xf7 (by omega) (by omega) (by omega)
      refine wp_cv (A' := Xa7) (v := some (.int (Int32.ofNat 0))) rfl rfl rfl rfl rfl xc6 (by omega) (xg7) rfl ?_
      show am_wp d 99 (80, [some (.ref (45)), some (.int (Int32.ofNat 1)), some (.int (sb_i len)), some (.ref (m1)), some (.ref (r)), none, none], [.int (Int32.ofNat 0)], Xa7) _
      refine wp_st 3 (f' := (85, [some (.ref (45)), some (.int (Int32.ofNat 1)), some (.int (sb_i len)), some (.ref (m1)), some (.ref (r)), some (.int (Int32.ofNat 0)), none], [.int (Int32.ofNat 1), .int (Int32.ofNat 0)], Xa7)) rfl ?_
      refine wp_ifT rfl rfl (show (Int32.ofNat 0) ≠ (Int32.ofNat 1) from by decide) ?_
      refine wp_st 2 (f' := (101, [some (.ref (45)), some (.int (Int32.ofNat 1)), some (.int (sb_i len)), some (.ref (m1)), some (.ref (r)), some (.int (Int32.ofNat 0)), none], [.int (Int32.ofNat 2), .int (Int32.ofNat 0)], Xa7)) rfl ?_
      refine wp_ifT rfl rfl (show (Int32.ofNat 0) ≠ (Int32.ofNat 2) from by decide) ?_
      refine wp_st 2 (f' := (117, [some (.ref (45)), some (.int (Int32.ofNat 1)), some (.int (sb_i len)), some (.ref (m1)), some (.ref (r)), some (.int (Int32.ofNat 0)), none], [.int (Int32.ofNat 3), .int (Int32.ofNat 0)], Xa7)) rfl ?_
      refine wp_ifT rfl rfl (show (Int32.ofNat 0) ≠ (Int32.ofNat 3) from by decide) ?_
      obtain ⟨B1, bb1⟩ : ∃ B, B = Xa7.set 45 (cl_c m2 s2 u0 u0 f) := ⟨_, rfl⟩
      have o1 : B1[45]? = some (0, [.ref 46, .ref 48, .ref 56, .ref 75, .ref m2, .ref s2, .ref u0, .ref u0, .int f]) := by rw [bb1]; exact sb_ss xh7.1
      obtain ⟨B2, bb2⟩ : ∃ B, B = B1.set 45 (cl_c m2 s2 u1 u0 f) := ⟨_, rfl⟩
      have o2 : B2[45]? = some (0, [.ref 46, .ref 48, .ref 56, .ref 75, .ref m2, .ref s2, .ref u1, .ref u0, .int f]) := by rw [bb2]; exact sb_ss o1
      have ou : B2[u0]? = some (7, [.ref (u0 + 1), .int (Int32.ofNat xw7.length)]) := by rw [bb2, bb1]; exact sb_so (by omega) (sb_so (by omega) xi7.oc)
      refine wp_st 1 (f' := (131, [some (.ref (45)), some (.int (Int32.ofNat 1)), some (.int (sb_i len)), some (.ref (m1)), some (.ref (r)), some (.int (Int32.ofNat 0)), none], [.ref (45)], Xa7)) rfl ?_
      refine wp_gf rfl rfl xh7.oc rfl rfl ?_
      refine wp_st 3 (f' := (138, [some (.ref (45)), some (.int (Int32.ofNat 1)), some (.int (sb_i len)), some (.ref (m1)), some (.ref (r)), some (.int (Int32.ofNat 0)), some (.ref (u1))], [.ref (45), .ref (45)], Xa7)) rfl ?_
      refine wp_gf rfl rfl xh7.oc rfl rfl ?_
      refine wp_pf (A' := B1) rfl rfl (show Xa7[45]? = some (0, [.ref 46, .ref 48, .ref 56, .ref 75, .ref m2, .ref s2, .ref u0, .ref u1, .int f]) from xh7.1) rfl rfl rfl rfl bb1.symm ?_
      refine wp_st 2 (f' := (147, [some (.ref (45)), some (.int (Int32.ofNat 1)), some (.int (sb_i len)), some (.ref (m1)), some (.ref (r)), some (.int (Int32.ofNat 0)), some (.ref (u1))], [.ref (u1), .ref (45)], B1)) rfl ?_
      refine wp_pf (A' := B2) rfl rfl o1 rfl rfl rfl rfl bb2.symm ?_
      refine wp_st 1 (f' := (151, [some (.ref (45)), some (.int (Int32.ofNat 1)), some (.int (sb_i len)), some (.ref (m1)), some (.ref (r)), some (.int (Int32.ofNat 0)), some (.ref (u1))], [.ref (45)], B2)) rfl ?_
      refine wp_gf rfl rfl o2 rfl rfl ?_
      refine wp_gf rfl rfl ou rfl rfl ?_
      refine wp_rt rfl rfl rfl ?_
      rw [if_pos b1]
      dsimp only
      have hsx : ∀ q, q ≠ 45 → B2[q]? = Xa7[q]? := fun q x1 => by rw [bb2, List.getElem?_set_ne (fun e => x1 e.symm), bb1, List.getElem?_set_ne (fun e => x1 e.symm)]
      have hlen : B2.length = Xa7.length := by rw [bb2, bb1]; simp
      refine ⟨rfl, xh7.swo o2 hsx hlen, ?_⟩
      exact cl_F.reg xk7 hlen (by rw [bb2, am_sl_set (c' := cl_c m2 s2 u1 u0 f) o1 rfl, bb1, am_sl_set (c' := cl_c m2 s2 u0 u0 f) xh7.1 rfl]) (fun q hq => hsx q (by omega))
  · skip
    have b1f : z1 = false := by simpa using b1
    refine wp_izF rfl rfl (show ¬ (sb_i z1 ≠ 0) from by rw [b1f]; decide) ?_
    refine wp_thr (q := 0) (by have := h.len; omega) (by omega) rfl rfl (by omega) rfl rfl rfl rfl rfl rfl (by omega) (by decide) (fun a j vs B e1 e2 e3 e4 => ex_0 (by omega) e1 e2 e3 e4) rfl rfl ?_
    rw [if_neg b1]
    exact ⟨A.length, rfl, (show am_knd (ex_hp A 200) A.length = 210 by unfold am_knd ex_hp; rw [sb_app_last]), h.app, ((cl_F.refl A).trans (cl_F.app (by decide))).wide (by omega)⟩
theorem cm_fmtb {d m0 m1 m2 s0 s1 s2 u0 u1 n a nv : Nat} {f ff : Int32} {cs rs : List Nat} {xs : List sb_vt} {M0 M1 M2 : mg} {z0 z1 z2 : Bool} {S0 S1 S2 : rg} {w0 w1 : List Nat} {A : am_H} {x : Int32} {len : Bool} (hd : 10 ≤ d) (hx : sb_slot x = false) (h : cl_J A m0 m1 m2 s0 s1 s2 u0 u1 f cs n a ff rs xs nv M0 M1 M2 z0 z1 z2 S0 S1 S2 w0 w1) : am_wp d 99 (0, am_ent 99 [.ref 45, .int x, .int (sb_i len)], [], A) (fun q => ∃ y, q.1 = .inr y ∧ am_knd q.2 y = 210 ∧ cl_J q.2 m0 m1 m2 s0 s1 s2 u0 u1 f cs n a ff rs xs nv M0 M1 M2 z0 z1 z2 S0 S1 S2 w0 w1 ∧ cl_F A q.2 1) := by
  refine wp_st 1 (f' := (1, [some (.ref (45)), some (.int (x)), some (.int (sb_i len)), none, none, none, none], [.int (x)], A)) rfl ?_
  refine wp_cs (n := 0) (A' := A) (v := some (.int (Int32.ofNat 0))) rfl rfl rfl (by omega) (by have e := sl_go (d := d - 1) (x := x) (A := A); rw [hx] at e; exact e) rfl ?_
  show am_wp d 99 (4, [some (.ref (45)), some (.int (x)), some (.int (sb_i len)), none, none, none, none], [.int (Int32.ofNat 0)], A) _
  refine wp_izT rfl rfl (show (Int32.ofNat 0) = (Int32.ofNat 0) from by decide) ?_
  refine wp_thr (q := 0) (by have := h.len; omega) (by omega) rfl rfl (by omega) rfl rfl rfl rfl rfl rfl (by omega) (by decide) (fun a j vs B e1 e2 e3 e4 => ex_0 (by omega) e1 e2 e3 e4) rfl rfl ?_
  exact ⟨A.length, rfl, (show am_knd (ex_hp A 200) A.length = 210 by unfold am_knd ex_hp; rw [sb_app_last]), h.app, ((cl_F.refl A).trans (cl_F.app (by decide))).wide (by omega)⟩
