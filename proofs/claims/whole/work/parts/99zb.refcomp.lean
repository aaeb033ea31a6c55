/-! The reference: compile. -/
theorem rc_comp {d b n p g t : Nat} {w : Int32} {r : Int64} {cs : List Nat} {dbl : Bool} {s : rf_S} {A : am_H} {M : mg} (hd : 11 ≤ d) (ht : t ≤ 1) (hx : rf_tx s cs n) (hc128 : ∀ j, cs.getD j 0 < 128) (h : rf A b (rf_c s p w r g)) : am_wp d 121 (0, am_ent 121 [.ref b, .int (Int32.ofNat t), .int (sb_i dbl)], [], A) (rc_V A b s t (rd_msg cs n dbl 3 true false 0 (mg_clr M))) := by
  have hn1 := hx.2.2.1
  refine wp_st 2 (f' := (2, [some (.ref (b)), some (.int (Int32.ofNat t)), some (.int (sb_i dbl))], [.int (Int32.ofNat 0), .ref (b)], A)) rfl ?_
  refine rw_pf (v := .int (Int32.ofNat 0)) h rfl rfl rfl rfl rfl rfl (fun A1 h2 f3 => ?_)
  have f4 := (sb_fr.refl A b (b + 38)).trans f3
  rw [rf_c_u (by decide)] at h2
  refine wp_st 2 (f' := (7, [some (.ref (b)), some (.int (Int32.ofNat t)), some (.int (sb_i dbl))], [.int ((-1)), .ref (b)], A1)) rfl ?_
  refine rw_pf (v := .int ((-1))) h2 rfl rfl rfl rfl rfl rfl (fun A5 h6 f7 => ?_)
  have f8 := f4.trans f7
  rw [rf_c_u (by decide)] at h6
  refine wp_st 1 (f' := (11, [some (.ref (b)), some (.int (Int32.ofNat t)), some (.int (sb_i dbl))], [.int (Int32.ofNat t)], A5)) rfl ?_
  refine wp_izF rfl rfl (fun q => absurd ((i32_lt (a := t) (b := 0) (by omega) (by omega)).mp q) (by omega)) ?_
  refine wp_st 2 (f' := (16, [some (.ref (b)), some (.int (Int32.ofNat t)), some (.int (sb_i dbl))], [.int (Int32.ofNat 1), .int (Int32.ofNat t)], A5)) rfl ?_
  refine wp_ifT rfl rfl ((i32_le (a := t) (b := 1) (by omega) (by omega)).mpr (by omega)) ?_
  refine wp_st 2 (f' := (27, [some (.ref (b)), some (.int (Int32.ofNat t)), some (.int (sb_i dbl))], [.int (sb_i dbl), .ref (b)], A5)) rfl ?_
  refine rw_pf (v := .int (sb_i dbl)) h6 rfl rfl rfl rfl (sb_fitz _) rfl (fun A9 h10 f11 => ?_)
  have f12 := f8.trans f11
  rw [rf_c_u (by decide)] at h10
  refine wp_st 1 (f' := (31, [some (.ref (b)), some (.int (Int32.ofNat t)), some (.int (sb_i dbl))], [.ref (b)], A9)) rfl ?_
  have hs9 : ∀ j i, j ≠ 0 → j ≠ 1 → j ≠ 27 → (rf_u (rf_u (rf_u s 0 0 (.int (Int32.ofNat 0))) 1 0 (.int ((-1)))) 27 0 (.int (sb_i dbl))) j i = s j i := fun j i q0 q1 q2 => by rw [rf_u_ne (Or.inl (by omega)), rf_u_ne (Or.inl (by omega)), rf_u_ne (Or.inl (by omega))]
  obtain ⟨⟨o9, Xa9⟩, g9, q9⟩ := mm_read (d := d - 1) (M := M) (dbl := dbl) (by omega) (rm_X.tx2 hs9 hx) rfl hc128 h10
  rcases hrl : rd_msg cs n dbl 3 true false 0 (mg_clr M) with e9 | ⟨a9, M9⟩
  · skip
    rw [hrl] at q9
    obtain ⟨q0, t9, p9, r9, g0, q1, q2, q3, q4⟩ := q9
    dsimp only at q0
    subst q0
    have hF9 := f12.trans q4
    refine wp_cv (A' := Xa9) (v := none) rfl rfl rfl rfl rfl (show _ from h10.1) (by omega) (g9) rfl ?_
    show am_wp d 121 (34, [some (.ref (b)), some (.int (Int32.ofNat t)), some (.int (sb_i dbl))], [], Xa9) _
    refine wp_st 2 (f' := (36, [some (.ref (b)), some (.int (Int32.ofNat t)), some (.int (sb_i dbl))], [.ref (b), .ref (b)], Xa9)) rfl ?_
    refine rw_gf (v := .int (Int32.ofNat e9)) q1 rfl rfl rfl rfl (rfl) rfl ?_
    refine rw_pf (v := .int (Int32.ofNat e9)) q1 rfl rfl rfl rfl rfl rfl (fun A13 h14 f15 => ?_)
    have f16 := hF9.trans f15
    rw [rf_c_u (by decide)] at h14
    refine wp_st 1 (f' := (43, [some (.ref (b)), some (.int (Int32.ofNat t)), some (.int (sb_i dbl))], [.ref (b)], A13)) rfl ?_
    refine rw_gf (v := .int (Int32.ofNat e9)) h14 rfl rfl rfl rfl (rfl) rfl ?_
    refine wp_izF rfl rfl (show ¬ ((Int32.ofNat e9) < Int32.ofNat 0) from Int32.ofNat_not_neg (by omega)) ?_
    refine wp_st 2 (f' := (51, [some (.ref (b)), some (.int (Int32.ofNat t)), some (.int (sb_i dbl))], [.int (Int32.ofNat 1), .ref (b)], A13)) rfl ?_
    refine rw_pf (v := .int (Int32.ofNat 1)) h14 rfl rfl rfl rfl rfl rfl (fun A17 h18 f19 => ?_)
    have f20 := f16.trans f19
    rw [rf_c_u (by decide)] at h18
    refine wp_rt rfl rfl rfl ?_
    exact rc_V_er h18 q3 hs9 f20
  · skip
    rw [hrl] at q9
    obtain ⟨q0, t9, p9, r9, g0, q1, q2, h19, h20, h21, q3, q4⟩ := q9
    dsimp only at q0 q2 h19 h20 h21
    subst q0
    have hF9 := f12.trans q4
    refine wp_cv (A' := Xa9) (v := none) rfl rfl rfl rfl rfl (show _ from h10.1) (by omega) (g9) rfl ?_
    show am_wp d 121 (34, [some (.ref (b)), some (.int (Int32.ofNat t)), some (.int (sb_i dbl))], [], Xa9) _
    refine wp_st 2 (f' := (36, [some (.ref (b)), some (.int (Int32.ofNat t)), some (.int (sb_i dbl))], [.ref (b), .ref (b)], Xa9)) rfl ?_
    refine rw_gf (v := .int ((-1))) q1 rfl rfl rfl rfl (rfl) rfl ?_
    refine rw_pf (v := .int ((-1))) q1 rfl rfl rfl rfl rfl rfl (fun A21 h22 f23 => ?_)
    have f24 := hF9.trans f23
    rw [rf_c_u (by decide)] at h22
    refine wp_st 1 (f' := (43, [some (.ref (b)), some (.int (Int32.ofNat t)), some (.int (sb_i dbl))], [.ref (b)], A21)) rfl ?_
    refine rw_gf (v := .int ((-1))) h22 rfl rfl rfl rfl (rfl) rfl ?_
    refine wp_izT rfl rfl (show (-1 : Int32) < (Int32.ofNat 0) from by decide) ?_
    refine wp_st 2 (f' := (57, [some (.ref (b)), some (.int (Int32.ofNat t)), some (.int (sb_i dbl))], [.int (Int32.ofNat t), .ref (b)], A21)) rfl ?_
    obtain ⟨A25, g26, h27, f28⟩ := (show rf_go _ _ _ _ _ _ (rf_c (rm_kept (rf_u t9 1 0 (.int ((-1)))) M9 t) p9 (-1) r9 g0) from rq_keept (d := d - 1) (M := M9) (by omega) ht q2.at1 (by rw [rf_u_ne (Or.inl (by omega))]; exact h19) (by rw [rf_u_ne (Or.inl (by omega))]; exact h20) (by rw [rf_u_ne (Or.inl (by omega))]; exact h21) h22)
    have f29 := f24.trans f28
    refine wp_cv (A' := A25) (v := none) rfl rfl rfl rfl rfl (show _ from h22.1) (by omega) (g26) rfl ?_
    show am_wp d 121 (60, [some (.ref (b)), some (.int (Int32.ofNat t)), some (.int (sb_i dbl))], [], A25) _
    refine wp_rt rfl rfl rfl ?_
    exact rc_V_ok ht h27 rfl q2 q3 hs9 f29
theorem rc_neg {d b : Nat} {x : Int32} {dbl : Bool} {s : rf_S} {A : am_H} (hx : x < Int32.ofNat 0) (h : rf A b s) : rf_go d 121 [.ref b, .int x, .int (sb_i dbl)] A b none (rf_u (rf_u (rf_u s 0 0 (.int (Int32.ofNat 0))) 1 0 (.int (-1))) 0 0 (.int (Int32.ofNat 1))) := by
  refine rf_of ?_
  refine wp_st 2 (f' := (2, [some (.ref (b)), some (.int (x)), some (.int (sb_i dbl))], [.int (Int32.ofNat 0), .ref (b)], A)) rfl ?_
  refine rw_pf (v := .int (Int32.ofNat 0)) h rfl rfl rfl rfl rfl rfl (fun A1 h2 f3 => ?_)
  have f4 := (sb_fr.refl A b (b + 38)).trans f3
  refine wp_st 2 (f' := (7, [some (.ref (b)), some (.int (x)), some (.int (sb_i dbl))], [.int ((-1)), .ref (b)], A1)) rfl ?_
  refine rw_pf (v := .int ((-1))) h2 rfl rfl rfl rfl rfl rfl (fun A5 h6 f7 => ?_)
  have f8 := f4.trans f7
  refine wp_st 1 (f' := (11, [some (.ref (b)), some (.int (x)), some (.int (sb_i dbl))], [.int (x)], A5)) rfl ?_
  refine wp_izT rfl rfl (hx) ?_
  refine wp_st 2 (f' := (21, [some (.ref (b)), some (.int (x)), some (.int (sb_i dbl))], [.int (Int32.ofNat 1), .ref (b)], A5)) rfl ?_
  refine rw_pf (v := .int (Int32.ofNat 1)) h6 rfl rfl rfl rfl rfl rfl (fun A9 h10 f11 => ?_)
  have f12 := f8.trans f11
  refine wp_rt rfl rfl rfl ?_
  exact ⟨rfl, h10, f12⟩
theorem rc_big {d b : Nat} {x : Int32} {dbl : Bool} {s : rf_S} {A : am_H} (hx : ¬ x < Int32.ofNat 0) (hx2 : ¬ x ≤ Int32.ofNat 1) (h : rf A b s) : rf_go d 121 [.ref b, .int x, .int (sb_i dbl)] A b none (rf_u (rf_u (rf_u s 0 0 (.int (Int32.ofNat 0))) 1 0 (.int (-1))) 0 0 (.int (Int32.ofNat 1))) := by
  refine rf_of ?_
  refine wp_st 2 (f' := (2, [some (.ref (b)), some (.int (x)), some (.int (sb_i dbl))], [.int (Int32.ofNat 0), .ref (b)], A)) rfl ?_
  refine rw_pf (v := .int (Int32.ofNat 0)) h rfl rfl rfl rfl rfl rfl (fun A1 h2 f3 => ?_)
  have f4 := (sb_fr.refl A b (b + 38)).trans f3
  refine wp_st 2 (f' := (7, [some (.ref (b)), some (.int (x)), some (.int (sb_i dbl))], [.int ((-1)), .ref (b)], A1)) rfl ?_
  refine rw_pf (v := .int ((-1))) h2 rfl rfl rfl rfl rfl rfl (fun A5 h6 f7 => ?_)
  have f8 := f4.trans f7
  refine wp_st 1 (f' := (11, [some (.ref (b)), some (.int (x)), some (.int (sb_i dbl))], [.int (x)], A5)) rfl ?_
  refine wp_izF rfl rfl (hx) ?_
  refine wp_st 2 (f' := (16, [some (.ref (b)), some (.int (x)), some (.int (sb_i dbl))], [.int (Int32.ofNat 1), .int (x)], A5)) rfl ?_
  refine wp_ifF rfl rfl (hx2) ?_
  refine wp_st 2 (f' := (21, [some (.ref (b)), some (.int (x)), some (.int (sb_i dbl))], [.int (Int32.ofNat 1), .ref (b)], A5)) rfl ?_
  refine rw_pf (v := .int (Int32.ofNat 1)) h6 rfl rfl rfl rfl rfl rfl (fun A9 h10 f11 => ?_)
  have f12 := f8.trans f11
  refine wp_rt rfl rfl rfl ?_
  exact ⟨rfl, h10, f12⟩
