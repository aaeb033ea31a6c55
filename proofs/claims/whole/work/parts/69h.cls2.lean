/-! PluralMessages: number, word, category. -/
def cl_put (xs : List sb_vt) (nv : Nat) (x : sb_vt) : Option (List sb_vt × Nat) := match cl_dx xs nv x.1 with
  | some i => some (xs.set i x, nv)
  | none => if nv < 6 then some (xs.set nv x, nv + 1) else none
theorem cm_num {d m0 m1 m2 s0 s1 s2 u0 u1 n a nv : Nat} {f ff : Int32} {cs rs : List Nat} {xs : List sb_vt} {M0 M1 M2 : mg} {z0 z1 z2 : Bool} {S0 S1 S2 : rg} {w0 w1 : List Nat} {A : am_H} {w c : Int32} {y : Int64} (hd : 10 ≤ d) (h : cl_J A m0 m1 m2 s0 s1 s2 u0 u1 f cs n a ff rs xs nv M0 M1 M2 z0 z1 z2 S0 S1 S2 w0 w1) : am_wp d 85 (0, am_ent 85 [.ref 45, .int w, .long y, .int c], [], A) (fun q => if sb_pn w = -1 ∨ sb_isn y c = false then (∃ e, q.1 = .inr e ∧ am_knd q.2 e = 210 ∧ cl_J q.2 m0 m1 m2 s0 s1 s2 u0 u1 f cs n a ff rs xs nv M0 M1 M2 z0 z1 z2 S0 S1 S2 w0 w1 ∧ cl_F A q.2 1) else match cl_put xs nv (sb_pn w, false, y, c) with | none => (∃ e, q.1 = .inr e ∧ am_knd q.2 e = 211 ∧ cl_J q.2 m0 m1 m2 s0 s1 s2 u0 u1 f cs n a ff rs xs nv M0 M1 M2 z0 z1 z2 S0 S1 S2 w0 w1 ∧ cl_F A q.2 1) | some y9 => q.1 = .inl none ∧ cl_J q.2 m0 m1 m2 s0 s1 s2 u0 u1 f cs n a ff rs (y9.1) (y9.2) M0 M1 M2 z0 z1 z2 S0 S1 S2 w0 w1 ∧ cl_F A q.2 0) := by
  have hnv := h.2.2.1.2.2.2.2.1
  refine wp_st 1 (f' := (1, [some (.ref (45)), some (.int (w)), some (.long (y)), none, some (.int (c)), none], [.int (w)], A)) rfl ?_
  by_cases hpn : sb_pn w = -1
  · skip
    refine wp_cs (n := 0) (A' := A) (v := some (.int ((-1)))) rfl rfl rfl (by omega) (by have e := pn_go (d := d - 1) (w := w) (A := A) (by omega); rw [hpn] at e; exact e) rfl ?_
    show am_wp d 85 (4, [some (.ref (45)), some (.int (w)), some (.long (y)), none, some (.int (c)), none], [.int ((-1))], A) _
    refine wp_st 3 (f' := (9, [some (.ref (45)), some (.int (w)), some (.long (y)), none, some (.int (c)), some (.int ((-1)))], [.int ((-1)), .int ((-1))], A)) rfl ?_
    refine wp_ifT rfl rfl (rfl) ?_
    refine wp_thr (q := 0) (by have := h.len; omega) (by omega) rfl rfl (by omega) rfl rfl rfl rfl rfl rfl (by omega) (by decide) (fun a j vs B e1 e2 e3 e4 => ex_0 (by omega) e1 e2 e3 e4) rfl rfl ?_
    rw [if_pos (Or.inl hpn)]
    exact ⟨A.length, rfl, (show am_knd (ex_hp A 200) A.length = 210 by unfold am_knd ex_hp; rw [sb_app_last]), h.app, ((cl_F.refl A).trans (cl_F.app (by decide))).wide (by omega)⟩
  · skip
    refine wp_cs (n := 0) (A' := A) (v := some (.int (sb_pn w))) rfl rfl rfl (by omega) (pn_go (by omega)) rfl ?_
    show am_wp d 85 (4, [some (.ref (45)), some (.int (w)), some (.long (y)), none, some (.int (c)), none], [.int (sb_pn w)], A) _
    refine wp_st 3 (f' := (9, [some (.ref (45)), some (.int (w)), some (.long (y)), none, some (.int (c)), some (.int (sb_pn w))], [.int ((-1)), .int (sb_pn w)], A)) rfl ?_
    refine wp_ifF rfl rfl (hpn) ?_
    refine wp_st 2 (f' := (15, [some (.ref (45)), some (.int (w)), some (.long (y)), none, some (.int (c)), some (.int (sb_pn w))], [.int (c), .long (y)], A)) rfl ?_
    refine wp_cs (n := 0) (A' := A) (v := some (.int (sb_i (sb_isn y c)))) rfl rfl rfl (by omega) (cm_isn) rfl ?_
    show am_wp d 85 (18, [some (.ref (45)), some (.int (w)), some (.long (y)), none, some (.int (c)), some (.int (sb_pn w))], [.int (sb_i (sb_isn y c))], A) _
    by_cases b1 : (sb_isn y c) = true
    · skip
      refine wp_izT rfl rfl (show sb_i (sb_isn y c) ≠ 0 from by rw [b1]; decide) ?_
      refine wp_st 1 (f' := (32, [some (.ref (45)), some (.int (w)), some (.long (y)), none, some (.int (c)), some (.int (sb_pn w))], [.ref (45)], A)) rfl ?_
      refine wp_gf rfl rfl h.oc rfl rfl ?_
      refine wp_st 4 (f' := (41, [some (.ref (45)), some (.int (w)), some (.long (y)), none, some (.int (c)), some (.int (sb_pn w))], [.int (c), .long (y), .int (Int32.ofNat 0), .int (sb_pn w), .ref (48)], A)) rfl ?_
      rcases vl_plx xs (sb_pn w) nv 0 with hpl | ⟨i, hi1, hi2, hpl⟩
      · skip
        have hdx : cl_dx xs nv (sb_pn w) = none := cl_dx_n hpl
        by_cases h6 : nv < 6
        · skip
          have hput : cl_put xs nv (sb_pn w, false, y, c) = some (xs.set nv (sb_pn w, false, y, c), nv + 1) := by simp only [cl_put, hdx, h6, ↓reduceIte]
          obtain ⟨A1, g1, v1, f1⟩ := vl_put2 (d := d - 1) (nm := sb_pn w) (b := false) (c := y) (s := c) (by omega) (by omega) hpl h.2.2.1
          have h1 := h.vals v1 f1
          refine wp_cv (A' := A1) (v := some (.int (Int32.ofNat 1))) rfl rfl rfl rfl rfl (show _ = some (2, [.ref 49, .int (Int32.ofNat nv)]) from h.2.2.1.1) (by omega) (g1) rfl ?_
          show am_wp d 85 (44, [some (.ref (45)), some (.int (w)), some (.long (y)), none, some (.int (c)), some (.int (sb_pn w))], [.int (Int32.ofNat 1)], A1) _
          refine wp_izT rfl rfl (show (Int32.ofNat 1) ≠ (Int32.ofNat 0) from by decide) ?_
          refine wp_rt rfl rfl rfl ?_
          rw [if_neg (fun e => e.elim hpn (fun e2 => by rw [b1] at e2; cases e2)), hput]
          exact ⟨rfl, h1, (cl_F.fr f1 (by omega) (by omega))⟩
        · skip
          have hput : cl_put xs nv (sb_pn w, false, y, c) = none := by simp only [cl_put, hdx, h6, ↓reduceIte]
          refine wp_cv (A' := A) (v := some (.int (Int32.ofNat 0))) rfl rfl rfl rfl rfl (show _ = some (2, [.ref 49, .int (Int32.ofNat nv)]) from h.2.2.1.1) (by omega) (vl_putf (nm := sb_pn w) (b := false) (c := y) (s := c) (by omega) (by omega) hpl h.2.2.1) rfl ?_
          show am_wp d 85 (44, [some (.ref (45)), some (.int (w)), some (.long (y)), none, some (.int (c)), some (.int (sb_pn w))], [.int (Int32.ofNat 0)], A) _
          refine wp_izF rfl rfl (show ¬ ((Int32.ofNat 0) ≠ (Int32.ofNat 0)) from by decide) ?_
          refine wp_thr (q := 1) (by have := h.len; omega) (by omega) rfl rfl (by omega) rfl rfl rfl rfl rfl rfl (by omega) (by decide) (fun a j vs B e1 e2 e3 e4 => ex_1 (by omega) e1 e2 e3 e4) rfl rfl ?_
          rw [if_neg (fun e => e.elim hpn (fun e2 => by rw [b1] at e2; cases e2)), hput]
          exact ⟨A.length, rfl, (show am_knd (ex_hp A 201) A.length = 211 by unfold am_knd ex_hp; rw [sb_app_last]), h.app, ((cl_F.refl A).trans (cl_F.app (by decide))).wide (by omega)⟩
      · skip
        have hdx : cl_dx xs nv (sb_pn w) = some i := cl_dx_s (by omega) hpl
        have hput : cl_put xs nv (sb_pn w, false, y, c) = some (xs.set i (sb_pn w, false, y, c), nv) := by simp only [cl_put, hdx]
        obtain ⟨A1, g1, v1, f1⟩ := vl_put1 (d := d - 1) (nm := sb_pn w) (b := false) (c := y) (s := c) (by omega) (by omega) hpl h.2.2.1
        have h1 := h.vals v1 f1
        refine wp_cv (A' := A1) (v := some (.int (Int32.ofNat 1))) rfl rfl rfl rfl rfl (show _ = some (2, [.ref 49, .int (Int32.ofNat nv)]) from h.2.2.1.1) (by omega) (g1) rfl ?_
        show am_wp d 85 (44, [some (.ref (45)), some (.int (w)), some (.long (y)), none, some (.int (c)), some (.int (sb_pn w))], [.int (Int32.ofNat 1)], A1) _
        refine wp_izT rfl rfl (show (Int32.ofNat 1) ≠ (Int32.ofNat 0) from by decide) ?_
        refine wp_rt rfl rfl rfl ?_
        rw [if_neg (fun e => e.elim hpn (fun e2 => by rw [b1] at e2; cases e2)), hput]
        exact ⟨rfl, h1, (cl_F.fr f1 (by omega) (by omega))⟩
    · skip
      have b1f : (sb_isn y c) = false := by simpa using b1
      refine wp_izF rfl rfl (show ¬ (sb_i (sb_isn y c) ≠ 0) from by rw [b1f]; decide) ?_
      refine wp_thr (q := 0) (by have := h.len; omega) (by omega) rfl rfl (by omega) rfl rfl rfl rfl rfl rfl (by omega) (by decide) (fun a j vs B e1 e2 e3 e4 => ex_0 (by omega) e1 e2 e3 e4) rfl rfl ?_
      rw [if_pos (Or.inr (by simpa using b1))]
      exact ⟨A.length, rfl, (show am_knd (ex_hp A 200) A.length = 210 by unfold am_knd ex_hp; rw [sb_app_last]), h.app, ((cl_F.refl A).trans (cl_F.app (by decide))).wide (by omega)⟩
theorem cm_word {d m0 m1 m2 s0 s1 s2 u0 u1 n a nv : Nat} {f ff : Int32} {cs rs : List Nat} {xs : List sb_vt} {M0 M1 M2 : mg} {z0 z1 z2 : Bool} {S0 S1 S2 : rg} {w0 w1 : List Nat} {A : am_H} {w x : Int32} (hd : 10 ≤ d) (h : cl_J A m0 m1 m2 s0 s1 s2 u0 u1 f cs n a ff rs xs nv M0 M1 M2 z0 z1 z2 S0 S1 S2 w0 w1) : am_wp d 90 (0, am_ent 90 [.ref 45, .int w, .int x], [], A) (fun q => if sb_pn w = -1 ∨ sb_all 32 126 (sb_bl x 4) = false then (∃ e, q.1 = .inr e ∧ am_knd q.2 e = 210 ∧ cl_J q.2 m0 m1 m2 s0 s1 s2 u0 u1 f cs n a ff rs xs nv M0 M1 M2 z0 z1 z2 S0 S1 S2 w0 w1 ∧ cl_F A q.2 1) else match cl_put xs nv (sb_pn w, true, (sb_fp 0 (sb_bl x 4)).toInt64, 0) with | none => (∃ e, q.1 = .inr e ∧ am_knd q.2 e = 211 ∧ cl_J q.2 m0 m1 m2 s0 s1 s2 u0 u1 f cs n a ff rs xs nv M0 M1 M2 z0 z1 z2 S0 S1 S2 w0 w1 ∧ cl_F A q.2 1) | some y9 => q.1 = .inl none ∧ cl_J q.2 m0 m1 m2 s0 s1 s2 u0 u1 f cs n a ff rs (y9.1) (y9.2) M0 M1 M2 z0 z1 z2 S0 S1 S2 w0 w1 ∧ cl_F A q.2 0) := by
  have hnv := h.2.2.1.2.2.2.2.1
  refine wp_st 1 (f' := (1, [some (.ref (45)), some (.int (w)), some (.int (x)), none, none], [.int (w)], A)) rfl ?_
  by_cases hpn : sb_pn w = -1
  · skip
    refine wp_cs (n := 0) (A' := A) (v := some (.int ((-1)))) rfl rfl rfl (by omega) (by have e := pn_go (d := d - 1) (w := w) (A := A) (by omega); rw [hpn] at e; exact e) rfl ?_
    show am_wp d 90 (4, [some (.ref (45)), some (.int (w)), some (.int (x)), none, none], [.int ((-1))], A) _
    refine wp_st 4 (f' := (10, [some (.ref (45)), some (.int (w)), some (.int (x)), some (.int ((-1))), none], [.int (Int32.ofNat 126), .int (Int32.ofNat 32), .int (x)], A)) rfl ?_
    by_cases hall : sb_all 32 126 (sb_bl x 4) = true
    · skip
      refine wp_cs (n := 0) (A' := A) (v := some (.int (sb_fp 0 (sb_bl x 4)))) rfl rfl rfl (by omega) (by have e := pb_go (d := d - 1) (lo := 32) (hi := 126) (w := x) (A := A) (by omega) (by omega); rw [hall] at e; exact e) rfl ?_
      show am_wp d 90 (13, [some (.ref (45)), some (.int (w)), some (.int (x)), some (.int ((-1))), none], [.int (sb_fp 0 (sb_bl x 4))], A) _
      refine wp_st 3 (f' := (17, [some (.ref (45)), some (.int (w)), some (.int (x)), some (.int ((-1))), some (.int (sb_fp 0 (sb_bl x 4)))], [.int ((-1)), .int ((-1))], A)) rfl ?_
      refine wp_ifT rfl rfl (rfl) ?_
      refine wp_thr (q := 0) (by have := h.len; omega) (by omega) rfl rfl (by omega) rfl rfl rfl rfl rfl rfl (by omega) (by decide) (fun a j vs B e1 e2 e3 e4 => ex_0 (by omega) e1 e2 e3 e4) rfl rfl ?_
      rw [if_pos (Or.inl hpn)]
      exact ⟨A.length, rfl, (show am_knd (ex_hp A 200) A.length = 210 by unfold am_knd ex_hp; rw [sb_app_last]), h.app, ((cl_F.refl A).trans (cl_F.app (by decide))).wide (by omega)⟩
    · skip
      have hal2 : sb_all 32 126 (sb_bl x 4) = false := by simpa using hall
      refine wp_cs (n := 0) (A' := A) (v := some (.int ((-1)))) rfl rfl rfl (by omega) (by have e := pb_go (d := d - 1) (lo := 32) (hi := 126) (w := x) (A := A) (by omega) (by omega); rw [hal2] at e; exact e) rfl ?_
      show am_wp d 90 (13, [some (.ref (45)), some (.int (w)), some (.int (x)), some (.int ((-1))), none], [.int ((-1))], A) _
      refine wp_st 3 (f' := (17, [some (.ref (45)), some (.int (w)), some (.int (x)), some (.int ((-1))), some (.int ((-1)))], [.int ((-1)), .int ((-1))], A)) rfl ?_
      refine wp_ifT rfl rfl (rfl) ?_
      refine wp_thr (q := 0) (by have := h.len; omega) (by omega) rfl rfl (by omega) rfl rfl rfl rfl rfl rfl (by omega) (by decide) (fun a j vs B e1 e2 e3 e4 => ex_0 (by omega) e1 e2 e3 e4) rfl rfl ?_
      rw [if_pos (Or.inl hpn)]
      exact ⟨A.length, rfl, (show am_knd (ex_hp A 200) A.length = 210 by unfold am_knd ex_hp; rw [sb_app_last]), h.app, ((cl_F.refl A).trans (cl_F.app (by decide))).wide (by omega)⟩
  · skip
    refine wp_cs (n := 0) (A' := A) (v := some (.int (sb_pn w))) rfl rfl rfl (by omega) (pn_go (by omega)) rfl ?_
    show am_wp d 90 (4, [some (.ref (45)), some (.int (w)), some (.int (x)), none, none], [.int (sb_pn w)], A) _
    refine wp_st 4 (f' := (10, [some (.ref (45)), some (.int (w)), some (.int (x)), some (.int (sb_pn w)), none], [.int (Int32.ofNat 126), .int (Int32.ofNat 32), .int (x)], A)) rfl ?_
    by_cases hall : sb_all 32 126 (sb_bl x 4) = true
    · skip
      refine wp_cs (n := 0) (A' := A) (v := some (.int (sb_fp 0 (sb_bl x 4)))) rfl rfl rfl (by omega) (by have e := pb_go (d := d - 1) (lo := 32) (hi := 126) (w := x) (A := A) (by omega) (by omega); rw [hall] at e; exact e) rfl ?_
      show am_wp d 90 (13, [some (.ref (45)), some (.int (w)), some (.int (x)), some (.int (sb_pn w)), none], [.int (sb_fp 0 (sb_bl x 4))], A) _
      refine wp_st 3 (f' := (17, [some (.ref (45)), some (.int (w)), some (.int (x)), some (.int (sb_pn w)), some (.int (sb_fp 0 (sb_bl x 4)))], [.int ((-1)), .int (sb_pn w)], A)) rfl ?_
      refine wp_ifF rfl rfl (hpn) ?_
      refine wp_st 2 (f' := (23, [some (.ref (45)), some (.int (w)), some (.int (x)), some (.int (sb_pn w)), some (.int (sb_fp 0 (sb_bl x 4)))], [.int ((-1)), .int (sb_fp 0 (sb_bl x 4))], A)) rfl ?_
      refine wp_ifT rfl rfl (by rw [(sb_fp_N (sb_bl_len x 4) (sb_all_in hall)).1]; exact i32_neg1 (sb_fp_N (sb_bl_len x 4) (sb_all_in hall)).2) ?_
      refine wp_st 1 (f' := (37, [some (.ref (45)), some (.int (w)), some (.int (x)), some (.int (sb_pn w)), some (.int (sb_fp 0 (sb_bl x 4)))], [.ref (45)], A)) rfl ?_
      refine wp_gf rfl rfl h.oc rfl rfl ?_
      refine wp_st 5 (f' := (46, [some (.ref (45)), some (.int (w)), some (.int (x)), some (.int (sb_pn w)), some (.int (sb_fp 0 (sb_bl x 4)))], [.int (Int32.ofNat 0), .long ((sb_fp 0 (sb_bl x 4)).toInt64), .int (Int32.ofNat 1), .int (sb_pn w), .ref (48)], A)) rfl ?_
      rcases vl_plx xs (sb_pn w) nv 0 with hpl | ⟨i, hi1, hi2, hpl⟩
      · skip
        have hdx : cl_dx xs nv (sb_pn w) = none := cl_dx_n hpl
        by_cases h6 : nv < 6
        · skip
          have hput : cl_put xs nv (sb_pn w, true, (sb_fp 0 (sb_bl x 4)).toInt64, 0) = some (xs.set nv (sb_pn w, true, (sb_fp 0 (sb_bl x 4)).toInt64, 0), nv + 1) := by simp only [cl_put, hdx, h6, ↓reduceIte]
          obtain ⟨A1, g1, v1, f1⟩ := vl_put2 (d := d - 1) (nm := sb_pn w) (b := true) (c := (sb_fp 0 (sb_bl x 4)).toInt64) (s := 0) (by omega) (by omega) hpl h.2.2.1
          have h1 := h.vals v1 f1
          refine wp_cv (A' := A1) (v := some (.int (Int32.ofNat 1))) rfl rfl rfl rfl rfl (show _ = some (2, [.ref 49, .int (Int32.ofNat nv)]) from h.2.2.1.1) (by omega) (g1) rfl ?_
          show am_wp d 90 (49, [some (.ref (45)), some (.int (w)), some (.int (x)), some (.int (sb_pn w)), some (.int (sb_fp 0 (sb_bl x 4)))], [.int (Int32.ofNat 1)], A1) _
          refine wp_izT rfl rfl (show (Int32.ofNat 1) ≠ (Int32.ofNat 0) from by decide) ?_
          refine wp_rt rfl rfl rfl ?_
          rw [if_neg (fun e => e.elim hpn (fun e2 => by rw [hall] at e2; cases e2)), hput]
          exact ⟨rfl, h1, (cl_F.fr f1 (by omega) (by omega))⟩
        · skip
          have hput : cl_put xs nv (sb_pn w, true, (sb_fp 0 (sb_bl x 4)).toInt64, 0) = none := by simp only [cl_put, hdx, h6, ↓reduceIte]
          refine wp_cv (A' := A) (v := some (.int (Int32.ofNat 0))) rfl rfl rfl rfl rfl (show _ = some (2, [.ref 49, .int (Int32.ofNat nv)]) from h.2.2.1.1) (by omega) (vl_putf (nm := sb_pn w) (b := true) (c := (sb_fp 0 (sb_bl x 4)).toInt64) (s := 0) (by omega) (by omega) hpl h.2.2.1) rfl ?_
          show am_wp d 90 (49, [some (.ref (45)), some (.int (w)), some (.int (x)), some (.int (sb_pn w)), some (.int (sb_fp 0 (sb_bl x 4)))], [.int (Int32.ofNat 0)], A) _
          refine wp_izF rfl rfl (show ¬ ((Int32.ofNat 0) ≠ (Int32.ofNat 0)) from by decide) ?_
          refine wp_thr (q := 1) (by have := h.len; omega) (by omega) rfl rfl (by omega) rfl rfl rfl rfl rfl rfl (by omega) (by decide) (fun a j vs B e1 e2 e3 e4 => ex_1 (by omega) e1 e2 e3 e4) rfl rfl ?_
          rw [if_neg (fun e => e.elim hpn (fun e2 => by rw [hall] at e2; cases e2)), hput]
          exact ⟨A.length, rfl, (show am_knd (ex_hp A 201) A.length = 211 by unfold am_knd ex_hp; rw [sb_app_last]), h.app, ((cl_F.refl A).trans (cl_F.app (by decide))).wide (by omega)⟩
      · skip
        have hdx : cl_dx xs nv (sb_pn w) = some i := cl_dx_s (by omega) hpl
        have hput : cl_put xs nv (sb_pn w, true, (sb_fp 0 (sb_bl x 4)).toInt64, 0) = some (xs.set i (sb_pn w, true, (sb_fp 0 (sb_bl x 4)).toInt64, 0), nv) := by simp only [cl_put, hdx]
        obtain ⟨A1, g1, v1, f1⟩ := vl_put1 (d := d - 1) (nm := sb_pn w) (b := true) (c := (sb_fp 0 (sb_bl x 4)).toInt64) (s := 0) (by omega) (by omega) hpl h.2.2.1
        have h1 := h.vals v1 f1
        refine wp_cv (A' := A1) (v := some (.int (Int32.ofNat 1))) rfl rfl rfl rfl rfl (show _ = some (2, [.ref 49, .int (Int32.ofNat nv)]) from h.2.2.1.1) (by omega) (g1) rfl ?_
        show am_wp d 90 (49, [some (.ref (45)), some (.int (w)), some (.int (x)), some (.int (sb_pn w)), some (.int (sb_fp 0 (sb_bl x 4)))], [.int (Int32.ofNat 1)], A1) _
        refine wp_izT rfl rfl (show (Int32.ofNat 1) ≠ (Int32.ofNat 0) from by decide) ?_
        refine wp_rt rfl rfl rfl ?_
        rw [if_neg (fun e => e.elim hpn (fun e2 => by rw [hall] at e2; cases e2)), hput]
        exact ⟨rfl, h1, (cl_F.fr f1 (by omega) (by omega))⟩
    · skip
      have hal2 : sb_all 32 126 (sb_bl x 4) = false := by simpa using hall
      refine wp_cs (n := 0) (A' := A) (v := some (.int ((-1)))) rfl rfl rfl (by omega) (by have e := pb_go (d := d - 1) (lo := 32) (hi := 126) (w := x) (A := A) (by omega) (by omega); rw [hal2] at e; exact e) rfl ?_
      show am_wp d 90 (13, [some (.ref (45)), some (.int (w)), some (.int (x)), some (.int (sb_pn w)), none], [.int ((-1))], A) _
      refine wp_st 3 (f' := (17, [some (.ref (45)), some (.int (w)), some (.int (x)), some (.int (sb_pn w)), some (.int ((-1)))], [.int ((-1)), .int (sb_pn w)], A)) rfl ?_
      refine wp_ifF rfl rfl (hpn) ?_
      refine wp_st 2 (f' := (23, [some (.ref (45)), some (.int (w)), some (.int (x)), some (.int (sb_pn w)), some (.int ((-1)))], [.int ((-1)), .int ((-1))], A)) rfl ?_
      refine wp_ifF rfl rfl (fun q => q rfl) ?_
      refine wp_thr (q := 0) (by have := h.len; omega) (by omega) rfl rfl (by omega) rfl rfl rfl rfl rfl rfl (by omega) (by decide) (fun a j vs B e1 e2 e3 e4 => ex_0 (by omega) e1 e2 e3 e4) rfl rfl ?_
      rw [if_pos (Or.inr hal2)]
      exact ⟨A.length, rfl, (show am_knd (ex_hp A 200) A.length = 210 by unfold am_knd ex_hp; rw [sb_app_last]), h.app, ((cl_F.refl A).trans (cl_F.app (by decide))).wide (by omega)⟩
theorem cl_J.G0 {A : am_H} {m0 m1 m2 s0 s1 s2 u0 u1 n a nv : Nat} {f ff : Int32} {cs rs : List Nat} {xs : List sb_vt} {M0 M1 M2 : mg} {z0 z1 z2 : Bool} {S0 S1 S2 : rg} {w0 w1 : List Nat}  (h : cl_J A m0 m1 m2 s0 s1 s2 u0 u1 f cs n a ff rs xs nv M0 M1 M2 z0 z1 z2 S0 S1 S2 w0 w1) : sb_G A s0 S0 := h.2.2.2.2.2.2.2.2.1
theorem cl_J.G1 {A : am_H} {m0 m1 m2 s0 s1 s2 u0 u1 n a nv : Nat} {f ff : Int32} {cs rs : List Nat} {xs : List sb_vt} {M0 M1 M2 : mg} {z0 z1 z2 : Bool} {S0 S1 S2 : rg} {w0 w1 : List Nat}  (h : cl_J A m0 m1 m2 s0 s1 s2 u0 u1 f cs n a ff rs xs nv M0 M1 M2 z0 z1 z2 S0 S1 S2 w0 w1) : sb_G A s1 S1 := h.2.2.2.2.2.2.2.2.2.1
theorem sb_isn_k {y : Int64} {c : Int32} (h : sb_isn y c = true) : ∃ (z : Int) (k : Nat), y = Int64.ofInt z ∧ c = Int32.ofNat k ∧ k ≤ 6 ∧ z.natAbs ≤ 1000000000000000 := by
  unfold sb_isn at h
  split at h
  · cases h
  split at h
  · cases h
  split at h
  · cases h
  split at h
  · cases h
  next h1 h2 h3 h4 =>
  rw [Int32.lt_iff_toInt_lt] at h1 h2
  rw [Int64.lt_iff_toInt_lt] at h3 h4
  have e1 : (0 : Int32).toInt = 0 := by decide
  have e2 : (6 : Int32).toInt = 6 := by decide
  have e3 : (-1000000000000000 : Int64).toInt = -1000000000000000 := by decide
  have e4 : (1000000000000000 : Int64).toInt = 1000000000000000 := by decide
  rw [e1] at h1
  rw [e2] at h2
  rw [e3] at h3
  rw [e4] at h4
  refine ⟨y.toInt, c.toInt.toNat, (Int64.ofInt_toInt y).symm, ?_, by omega, by omega⟩
  apply Int32.toInt_inj.mp
  rw [Int32.toInt_ofNat_of_lt (by omega)]
  omega
theorem cm_cat {d m0 m1 m2 s0 s1 s2 u0 u1 n a nv : Nat} {f ff : Int32} {cs rs : List Nat} {xs : List sb_vt} {M0 M1 M2 : mg} {z0 z1 z2 : Bool} {S0 S1 S2 : rg} {w0 w1 : List Nat} {A : am_H} {o : Bool} {y : Int64} {c : Int32} (hd : 10 ≤ d) (hw0 : rg_wf S0) (hw1 : rg_wf S1) (h : cl_J A m0 m1 m2 s0 s1 s2 u0 u1 f cs n a ff rs xs nv M0 M1 M2 z0 z1 z2 S0 S1 S2 w0 w1) : am_wp d 92 (0, am_ent 92 [.ref 45, .int (sb_i o), .long y, .int c], [], A) (fun q => if sb_isn y c = true then (∃ (z : Int) (k : Nat), y = Int64.ofInt z ∧ c = Int32.ofNat k ∧ k ≤ 6 ∧ z.natAbs ≤ 1000000000000000 ∧ q.1 = .inl (some (.int (Int32.ofNat (ct_cat (if o = true then S1 else S0) z.natAbs k 5 0)))) ∧ cl_J q.2 m0 m1 m2 s0 s1 s2 u0 u1 f cs n a ff rs xs nv M0 M1 M2 z0 z1 z2 S0 S1 S2 w0 w1 ∧ cl_F A q.2 0) else (∃ e, q.1 = .inr e ∧ am_knd q.2 e = 210 ∧ cl_J q.2 m0 m1 m2 s0 s1 s2 u0 u1 f cs n a ff rs xs nv M0 M1 M2 z0 z1 z2 S0 S1 S2 w0 w1 ∧ cl_F A q.2 1)) := by
  refine wp_st 2 (f' := (3, [some (.ref (45)), some (.int (sb_i o)), some (.long (y)), none, some (.int (c))], [.int (c), .long (y)], A)) rfl ?_
  refine wp_cs (n := 0) (A' := A) (v := some (.int (sb_i (sb_isn y c)))) rfl rfl rfl (by omega) (cm_isn) rfl ?_
  show am_wp d 92 (6, [some (.ref (45)), some (.int (sb_i o)), some (.long (y)), none, some (.int (c))], [.int (sb_i (sb_isn y c))], A) _
  by_cases b1 : (sb_isn y c) = true
  · skip
    refine wp_izT rfl rfl (show sb_i (sb_isn y c) ≠ 0 from by rw [b1]; decide) ?_
    refine wp_st 1 (f' := (20, [some (.ref (45)), some (.int (sb_i o)), some (.long (y)), none, some (.int (c))], [.ref (45)], A)) rfl ?_
    refine wp_gf rfl rfl h.oc rfl rfl ?_
    refine wp_st 1 (f' := (24, [some (.ref (45)), some (.int (sb_i o)), some (.long (y)), none, some (.int (c))], [.int (sb_i o), .ref (75)], A)) rfl ?_
    by_cases b2 : o = true
    · skip
      refine wp_izF rfl rfl (show ¬ (sb_i o = 0) from by rw [b2]; decide) ?_
      refine wp_st 2 (f' := (32, [some (.ref (45)), some (.int (sb_i o)), some (.long (y)), none, some (.int (c))], [.int (Int32.ofNat 1), .ref (75)], A)) rfl ?_
      refine wp_al rfl (Or.inr (Or.inr (Or.inr (Or.inr ⟨rfl, rfl⟩)))) rfl h.2.2.2.2.1 (by omega) rfl rfl ?_
      refine wp_st 2 (f' := (36, [some (.ref (45)), some (.int (sb_i o)), some (.long (y)), none, some (.int (c))], [.int (c), .long (y), .ref (s1)], A)) rfl ?_
      obtain ⟨am9, un9, hP9⟩ := h.2.2.2.2.2.2.2.2.2.2.2.2.1
      obtain ⟨z9, k9, rfl, rfl, hk9, hz9⟩ := sb_isn_k b1
      obtain ⟨A1, g1, a1, a2, a3⟩ := gn_catz (d := d - 1) (z := z9) (k := k9) (by omega) hk9 (by omega) hw1 h.K.ten hP9 h.G1
      obtain ⟨fi9, en9, op9, mo9, ng9, og9, fr9, re9, lo9, hi9, gq, -⟩ := h.G1
      have h1 := h.rule1 a1 a2 a3
      have hcP := h.P
      unfold cl_P at hcP
      refine wp_cv (A' := A1) (v := some (.int (Int32.ofNat (ct_cat S1 z9.natAbs k9 5 0)))) rfl rfl rfl rfl rfl gq.1 (by omega) (g1) rfl ?_
      show am_wp d 92 (39, [some (.ref (45)), some (.int (sb_i o)), some (.long (Int64.ofInt z9)), none, some (.int (Int32.ofNat k9))], [.int (Int32.ofNat (ct_cat S1 z9.natAbs k9 5 0))], A1) _
      refine wp_rt rfl rfl rfl ?_
      rw [if_pos b1]
      exact ⟨z9, k9, rfl, rfl, hk9, hz9, by rw [if_pos b2], h1, (cl_F.fr a3 (by omega) (by omega))⟩
    · skip
      have b2f : o = false := by simpa using b2
      refine wp_izT rfl rfl (show sb_i o = 0 from by rw [b2f]; decide) ?_
      refine wp_st 1 (f' := (32, [some (.ref (45)), some (.int (sb_i o)), some (.long (y)), none, some (.int (c))], [.int (Int32.ofNat 0), .ref (75)], A)) rfl ?_
      refine wp_al rfl (Or.inr (Or.inr (Or.inr (Or.inr ⟨rfl, rfl⟩)))) rfl h.2.2.2.2.1 (by omega) rfl rfl ?_
      refine wp_st 2 (f' := (36, [some (.ref (45)), some (.int (sb_i o)), some (.long (y)), none, some (.int (c))], [.int (c), .long (y), .ref (s0)], A)) rfl ?_
      obtain ⟨am9, un9, hP9⟩ := h.2.2.2.2.2.2.2.2.2.2.2.1
      obtain ⟨z9, k9, rfl, rfl, hk9, hz9⟩ := sb_isn_k b1
      obtain ⟨A1, g1, a1, a2, a3⟩ := gn_catz (d := d - 1) (z := z9) (k := k9) (by omega) hk9 (by omega) hw0 h.K.ten hP9 h.G0
      obtain ⟨fi9, en9, op9, mo9, ng9, og9, fr9, re9, lo9, hi9, gq, -⟩ := h.G0
      have h1 := h.rule0 a1 a2 a3
      have hcP := h.P
      unfold cl_P at hcP
      refine wp_cv (A' := A1) (v := some (.int (Int32.ofNat (ct_cat S0 z9.natAbs k9 5 0)))) rfl rfl rfl rfl rfl gq.1 (by omega) (g1) rfl ?_
      show am_wp d 92 (39, [some (.ref (45)), some (.int (sb_i o)), some (.long (Int64.ofInt z9)), none, some (.int (Int32.ofNat k9))], [.int (Int32.ofNat (ct_cat S0 z9.natAbs k9 5 0))], A1) _
      refine wp_rt rfl rfl rfl ?_
      rw [if_pos b1]
      exact ⟨z9, k9, rfl, rfl, hk9, hz9, by rw [if_neg b2], h1, (cl_F.fr a3 (by omega) (by omega))⟩
  · skip
    have b1f : (sb_isn y c) = false := by simpa using b1
    refine wp_izF rfl rfl (show ¬ (sb_i (sb_isn y c) ≠ 0) from by rw [b1f]; decide) ?_
    refine wp_thr (q := 0) (by have := h.len; omega) (by omega) rfl rfl (by omega) rfl rfl rfl rfl rfl rfl (by omega) (by decide) (fun a j vs B e1 e2 e3 e4 => ex_0 (by omega) e1 e2 e3 e4) rfl rfl ?_
    rw [if_neg b1]
    exact ⟨A.length, rfl, (show am_knd (ex_hp A 200) A.length = 210 by unfold am_knd ex_hp; rw [sb_app_last]), h.app, ((cl_F.refl A).trans (cl_F.app (by decide))).wide (by omega)⟩
