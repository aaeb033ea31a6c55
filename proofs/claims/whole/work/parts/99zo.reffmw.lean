/-! The reference: writePart, and the pieces of format. -/
theorem fp_a {d b x : Nat} {s : rf_S} {A : am_H} {y : Nat} {Q R : am_O × am_H → Prop} (hd : 1 ≤ d) (hx9 : x < 384) (h6 : s 6 x = .int (Int32.ofNat 2)) (h7 : s 7 x = .int (Int32.ofNat y)) (h : rf A b s) (hs : am_wp (d - 1) 169 (0, am_ent 169 [.ref b, .int (Int32.ofNat y)], [], A) R) (kk : ∀ q, R q → q.1 = .inl none ∧ Q (.inl none, q.2)) : am_wp d 168 (0, am_ent 168 [.ref b, .int (Int32.ofNat x)], [], A) Q := by
  refine wp_st 1 (f' := (1, [some (.ref (b)), some (.int (Int32.ofNat x))], [.ref (b)], A)) rfl ?_
  refine rw_gr h rfl rfl rfl rfl rfl rfl ?_
  refine wp_st 1 (f' := (5, [some (.ref (b)), some (.int (Int32.ofNat x))], [.int (Int32.ofNat x), .ref (b + 4)], A)) rfl ?_
  refine rw_al (j := 6) (n := x) (v := .int (Int32.ofNat 2)) h rfl rfl rfl (Or.inl ⟨rfl, rfl⟩) rfl (show _ < 384 from by omega) (h6) rfl ?_
  refine wp_st 1 (f' := (7, [some (.ref (b)), some (.int (Int32.ofNat x))], [.int (Int32.ofNat 2), .int (Int32.ofNat 2)], A)) rfl ?_
  refine wp_ifF rfl rfl (show ¬ ((Int32.ofNat 2) ≠ (Int32.ofNat 2)) from by decide) ?_
  refine wp_st 2 (f' := (12, [some (.ref (b)), some (.int (Int32.ofNat x))], [.ref (b), .ref (b)], A)) rfl ?_
  refine rw_gr h rfl rfl rfl rfl rfl rfl ?_
  refine wp_st 1 (f' := (16, [some (.ref (b)), some (.int (Int32.ofNat x))], [.int (Int32.ofNat x), .ref (b + 5), .ref (b)], A)) rfl ?_
  refine rw_al (j := 7) (n := x) (v := .int (Int32.ofNat y)) h rfl rfl rfl (Or.inl ⟨rfl, rfl⟩) rfl (show _ < 384 from by omega) (h7) rfl ?_
  obtain ⟨⟨o9, Xa9⟩, g9, q9⟩ := hs
  obtain ⟨k1, k2⟩ := kk _ q9
  dsimp only at k1 k2
  subst k1
  refine wp_cv (A' := Xa9) (v := none) rfl rfl rfl rfl rfl (show _ from h.1) (by omega) (g9) rfl ?_
  show am_wp d 168 (20, [some (.ref (b)), some (.int (Int32.ofNat x))], [], Xa9) _
  refine wp_st 1 (f' := (69, [some (.ref (b)), some (.int (Int32.ofNat x))], [], Xa9)) rfl ?_
  refine wp_rt rfl rfl rfl ?_
  exact k2
theorem fp_1 {d b x : Nat} {s : rf_S} {A : am_H} {X : Option (List Nat)} {k0 L : Nat} {z : Int} (hd : 2 ≤ d) (hx9 : x < 384) (hL : L < 4) (hk0 : k0 ≤ 6) (hz : z.natAbs < 10 ^ 18) (h6 : s 6 x = .int (Int32.ofNat 1)) (h22 : s 22 0 = .int (Int32.ofNat L)) (h52 : s 52 L = .long (Int64.ofInt z)) (h53 : s 53 L = .int (Int32.ofNat k0)) (hx : rf_wx s X) (h : rf A b s) : rf_wg d 168 [.ref b, .int (Int32.ofNat x)] A b s X (wr_dg z k0 true) := by
  refine wp_goW ?_
  refine wp_st 1 (f' := (1, [some (.ref (b)), some (.int (Int32.ofNat x))], [.ref (b)], A)) rfl ?_
  refine rw_gr h rfl rfl rfl rfl rfl rfl ?_
  refine wp_st 1 (f' := (5, [some (.ref (b)), some (.int (Int32.ofNat x))], [.int (Int32.ofNat x), .ref (b + 4)], A)) rfl ?_
  refine rw_al (j := 6) (n := x) (v := .int (Int32.ofNat 1)) h rfl rfl rfl (Or.inl ⟨rfl, rfl⟩) rfl (show _ < 384 from by omega) (h6) rfl ?_
  refine wp_st 1 (f' := (7, [some (.ref (b)), some (.int (Int32.ofNat x))], [.int (Int32.ofNat 2), .int (Int32.ofNat 1)], A)) rfl ?_
  refine wp_ifT rfl rfl (show (Int32.ofNat 1) ≠ (Int32.ofNat 2) from by decide) ?_
  refine wp_st 1 (f' := (24, [some (.ref (b)), some (.int (Int32.ofNat x))], [.ref (b)], A)) rfl ?_
  refine rw_gr h rfl rfl rfl rfl rfl rfl ?_
  refine wp_st 1 (f' := (28, [some (.ref (b)), some (.int (Int32.ofNat x))], [.int (Int32.ofNat x), .ref (b + 4)], A)) rfl ?_
  refine rw_al (j := 6) (n := x) (v := .int (Int32.ofNat 1)) h rfl rfl rfl (Or.inl ⟨rfl, rfl⟩) rfl (show _ < 384 from by omega) (h6) rfl ?_
  refine wp_st 1 (f' := (30, [some (.ref (b)), some (.int (Int32.ofNat x))], [.int (Int32.ofNat 1), .int (Int32.ofNat 1)], A)) rfl ?_
  refine wp_ifF rfl rfl (show ¬ ((Int32.ofNat 1) ≠ (Int32.ofNat 1)) from by decide) ?_
  refine wp_st 2 (f' := (35, [some (.ref (b)), some (.int (Int32.ofNat x))], [.ref (b), .ref (b)], A)) rfl ?_
  refine rw_gr h rfl rfl rfl rfl rfl rfl ?_
  refine wp_st 1 (f' := (39, [some (.ref (b)), some (.int (Int32.ofNat x))], [.ref (b), .ref (b + 36), .ref (b)], A)) rfl ?_
  refine rw_gf (v := .int (Int32.ofNat L)) h rfl rfl rfl rfl (h22) rfl ?_
  refine rw_al (j := 52) (n := L) (v := .long (Int64.ofInt z)) h rfl rfl rfl (Or.inr (Or.inl ⟨rfl, rfl⟩)) rfl (show _ < 4 from by omega) (h52) rfl ?_
  refine wp_st 1 (f' := (44, [some (.ref (b)), some (.int (Int32.ofNat x))], [.ref (b), .long (Int64.ofInt z), .ref (b)], A)) rfl ?_
  refine rw_gr h rfl rfl rfl rfl rfl rfl ?_
  refine wp_st 1 (f' := (48, [some (.ref (b)), some (.int (Int32.ofNat x))], [.ref (b), .ref (b + 37), .long (Int64.ofInt z), .ref (b)], A)) rfl ?_
  refine rw_gf (v := .int (Int32.ofNat L)) h rfl rfl rfl rfl (h22) rfl ?_
  refine rw_al (j := 53) (n := L) (v := .int (Int32.ofNat k0)) h rfl rfl rfl (Or.inl ⟨rfl, rfl⟩) rfl (show _ < 4 from by omega) (h53) rfl ?_
  refine wp_st 1 (f' := (53, [some (.ref (b)), some (.int (Int32.ofNat x))], [.int (Int32.ofNat 1), .int (Int32.ofNat k0), .long (Int64.ofInt z), .ref (b)], A)) rfl ?_
  obtain ⟨A1, t2, g3, h4, x5, k6, f7⟩ := (show rf_wg (d - 1) 177 [.ref b, .long (Int64.ofInt z), .int (Int32.ofNat k0), .int (Int32.ofNat 1)] A b s X (wr_dg z k0 true) from rw_numz (g := true) (by omega) (by omega) (by omega) hx h)
  have f8 := (sb_fr.refl A b (b + 38)).trans f7
  have k9 := (rf_wk.refl s).trans k6
  refine wp_cv (A' := A1) (v := none) rfl rfl rfl rfl rfl (show _ from h.1) (by omega) (g3) rfl ?_
  show am_wp d 168 (56, [some (.ref (b)), some (.int (Int32.ofNat x))], [], A1) _
  refine wp_st 1 (f' := (69, [some (.ref (b)), some (.int (Int32.ofNat x))], [], A1)) rfl ?_
  refine wp_rt rfl rfl rfl ?_
  exact ⟨rfl, _, h4, x5, k9, f8⟩
theorem fp_0 {d b x : Nat} {s : rf_S} {A : am_H} {X : Option (List Nat)} {c : Nat} (hd : 2 ≤ d) (hx9 : x < 384) (h6 : s 6 x = .int (Int32.ofNat 0)) (h7 : s 7 x = .int (Int32.ofNat c)) (hx : rf_wx s X) (h : rf A b s) : rf_wg d 168 [.ref b, .int (Int32.ofNat x)] A b s X [c] := by
  refine wp_goW ?_
  refine wp_st 1 (f' := (1, [some (.ref (b)), some (.int (Int32.ofNat x))], [.ref (b)], A)) rfl ?_
  refine rw_gr h rfl rfl rfl rfl rfl rfl ?_
  refine wp_st 1 (f' := (5, [some (.ref (b)), some (.int (Int32.ofNat x))], [.int (Int32.ofNat x), .ref (b + 4)], A)) rfl ?_
  refine rw_al (j := 6) (n := x) (v := .int (Int32.ofNat 0)) h rfl rfl rfl (Or.inl ⟨rfl, rfl⟩) rfl (show _ < 384 from by omega) (h6) rfl ?_
  refine wp_st 1 (f' := (7, [some (.ref (b)), some (.int (Int32.ofNat x))], [.int (Int32.ofNat 2), .int (Int32.ofNat 0)], A)) rfl ?_
  refine wp_ifT rfl rfl (show (Int32.ofNat 0) ≠ (Int32.ofNat 2) from by decide) ?_
  refine wp_st 1 (f' := (24, [some (.ref (b)), some (.int (Int32.ofNat x))], [.ref (b)], A)) rfl ?_
  refine rw_gr h rfl rfl rfl rfl rfl rfl ?_
  refine wp_st 1 (f' := (28, [some (.ref (b)), some (.int (Int32.ofNat x))], [.int (Int32.ofNat x), .ref (b + 4)], A)) rfl ?_
  refine rw_al (j := 6) (n := x) (v := .int (Int32.ofNat 0)) h rfl rfl rfl (Or.inl ⟨rfl, rfl⟩) rfl (show _ < 384 from by omega) (h6) rfl ?_
  refine wp_st 1 (f' := (30, [some (.ref (b)), some (.int (Int32.ofNat x))], [.int (Int32.ofNat 1), .int (Int32.ofNat 0)], A)) rfl ?_
  refine wp_ifT rfl rfl (show (Int32.ofNat 0) ≠ (Int32.ofNat 1) from by decide) ?_
  refine wp_st 2 (f' := (61, [some (.ref (b)), some (.int (Int32.ofNat x))], [.ref (b), .ref (b)], A)) rfl ?_
  refine rw_gr h rfl rfl rfl rfl rfl rfl ?_
  refine wp_st 1 (f' := (65, [some (.ref (b)), some (.int (Int32.ofNat x))], [.int (Int32.ofNat x), .ref (b + 5), .ref (b)], A)) rfl ?_
  refine rw_al (j := 7) (n := x) (v := .int (Int32.ofNat c)) h rfl rfl rfl (Or.inl ⟨rfl, rfl⟩) rfl (show _ < 384 from by omega) (h7) rfl ?_
  obtain ⟨A1, t2, g3, h4, x5, k6, f7⟩ := rw_put (d := d - 1) (c := c) hx h
  have f8 := (sb_fr.refl A b (b + 38)).trans f7
  have k9 := (rf_wk.refl s).trans k6
  refine wp_cv (A' := A1) (v := none) rfl rfl rfl rfl rfl (show _ from h.1) (by omega) (g3) rfl ?_
  show am_wp d 168 (69, [some (.ref (b)), some (.int (Int32.ofNat x))], [], A1) _
  refine wp_rt rfl rfl rfl ?_
  exact ⟨rfl, _, h4, x5, k9, f8⟩
theorem fl_pop {d b t mk : Nat} {len : Bool} {o3 : Int32} {v5 : Option Value} {s : rf_S} {A : am_H} {Q : am_O × am_H → Prop} {L : Nat} (hL : L < 3) (h0 : s 0 0 = .int (Int32.ofNat 0)) (h22 : s 22 0 = .int (Int32.ofNat (L + 1))) (h51 : s 51 (L + 1) = .int (-1)) (h : rf A b s) (kk : ∀ B, rf B b (rf_u s 22 0 (.int (Int32.ofNat L))) → sb_fr A B b (b + 38) → am_wp d 167 (63, [some (.ref b), some (.int (Int32.ofNat t)), some (.int (sb_i len)), some (.int o3), some (.int (Int32.ofNat mk)), some (.int (-1))], [], B) Q) : am_wp d 167 (63, [some (.ref b), some (.int (Int32.ofNat t)), some (.int (sb_i len)), some (.int o3), some (.int (Int32.ofNat mk)), v5], [], A) Q := by
  refine wp_st 1 (f' := (64, [some (.ref (b)), some (.int (Int32.ofNat t)), some (.int (sb_i len)), some (.int (o3)), some (.int (Int32.ofNat mk)), v5], [.ref (b)], A)) rfl ?_
  refine rw_gf (v := .int (Int32.ofNat (L + 1))) h rfl rfl rfl rfl (h22) rfl ?_
  refine wp_izF rfl rfl (fun q => absurd ((i32_lt (a := L + 1) (b := 0) (by omega) (by omega)).mp q) (by omega)) ?_
  refine wp_st 1 (f' := (71, [some (.ref (b)), some (.int (Int32.ofNat t)), some (.int (sb_i len)), some (.int (o3)), some (.int (Int32.ofNat mk)), v5], [.ref (b)], A)) rfl ?_
  refine rw_gf (v := .int (Int32.ofNat 0)) h rfl rfl rfl rfl (h0) rfl ?_
  refine wp_izF rfl rfl (show ¬ ((Int32.ofNat 0) ≠ (Int32.ofNat 0)) from by decide) ?_
  refine wp_st 1 (f' := (78, [some (.ref (b)), some (.int (Int32.ofNat t)), some (.int (sb_i len)), some (.int (o3)), some (.int (Int32.ofNat mk)), v5], [.ref (b)], A)) rfl ?_
  refine rw_gr h rfl rfl rfl rfl rfl rfl ?_
  refine wp_st 1 (f' := (82, [some (.ref (b)), some (.int (Int32.ofNat t)), some (.int (sb_i len)), some (.int (o3)), some (.int (Int32.ofNat mk)), v5], [.ref (b), .ref (b + 35)], A)) rfl ?_
  refine rw_gf (v := .int (Int32.ofNat (L + 1))) h rfl rfl rfl rfl (h22) rfl ?_
  refine rw_al (j := 51) (n := L + 1) (v := .int ((-1))) h rfl rfl rfl (Or.inl ⟨rfl, rfl⟩) rfl (show _ < 4 from by omega) (h51) rfl ?_
  refine wp_st 2 (f' := (90, [some (.ref (b)), some (.int (Int32.ofNat t)), some (.int (sb_i len)), some (.int (o3)), some (.int (Int32.ofNat mk)), some (.int ((-1)))], [.int ((-1))], A)) rfl ?_
  refine wp_izF rfl rfl (show ¬ ((Int32.ofNat 0) ≤ (-1 : Int32)) from by decide) ?_
  refine wp_st 2 (f' := (95, [some (.ref (b)), some (.int (Int32.ofNat t)), some (.int (sb_i len)), some (.int (o3)), some (.int (Int32.ofNat mk)), some (.int ((-1)))], [.ref (b), .ref (b)], A)) rfl ?_
  refine rw_gf (v := .int (Int32.ofNat (L + 1))) h rfl rfl rfl rfl (h22) rfl ?_
  refine wp_st 2 (f' := (100, [some (.ref (b)), some (.int (Int32.ofNat t)), some (.int (sb_i len)), some (.int (o3)), some (.int (Int32.ofNat mk)), some (.int ((-1)))], [.int ((Int32.ofNat (L + 1)) - (Int32.ofNat 1)), .ref (b)], A)) rfl ?_
  rw [i32_sub (a := L + 1) (b := 1) (by omega)]
  refine rw_pf (v := .int (Int32.ofNat ((L + 1) - 1))) h rfl rfl rfl rfl rfl rfl (fun A1 h2 f3 => ?_)
  have f4 := (sb_fr.refl A b (b + 38)).trans f3
  refine wp_gt rfl (show am_tgt 103 (92) = 195 by decide +kernel) ?_
  refine wp_gt rfl (show am_tgt 195 (-132) = 63 by decide +kernel) ?_
  exact kk _ h2 f4
theorem fl_prL {d b t mk : Nat} {len : Bool} {o3 : Int32} {v5 : Option Value} {s : rf_S} {A : am_H} {Q : am_O × am_H → Prop} {y : Nat} {nx : Int32} (hd : 1 ≤ d) (hy : y < 384) {L : Nat} (hL : L < 4) (hL0 : 0 < L) (h0 : s 0 0 = .int (Int32.ofNat 0)) (h22 : s 22 0 = .int (Int32.ofNat L)) (h51 : s 51 L = .int (Int32.ofNat y)) (h8 : s 8 y = .int nx) (h : rf A b s) (kk : ∀ B, rf B b (rf_u s 51 L (.int nx)) → sb_fr A B b (b + 38) → ∃ q, am_ev (d - 1) 168 (0, am_ent 168 [.ref b, .int (Int32.ofNat y)], [], B) q ∧ q.1 = .inl none ∧ am_wp d 167 (144, [some (.ref b), some (.int (Int32.ofNat t)), some (.int (sb_i len)), some (.int o3), some (.int (Int32.ofNat mk)), some (.int (Int32.ofNat y))], [], q.2) Q) : am_wp d 167 (63, [some (.ref b), some (.int (Int32.ofNat t)), some (.int (sb_i len)), some (.int o3), some (.int (Int32.ofNat mk)), v5], [], A) Q := by
  refine wp_st 1 (f' := (64, [some (.ref (b)), some (.int (Int32.ofNat t)), some (.int (sb_i len)), some (.int (o3)), some (.int (Int32.ofNat mk)), v5], [.ref (b)], A)) rfl ?_
  refine rw_gf (v := .int (Int32.ofNat L)) h rfl rfl rfl rfl (h22) rfl ?_
  refine wp_izF rfl rfl (fun q => absurd ((i32_lt (a := L) (b := 0) (by omega) (by omega)).mp q) (by omega)) ?_
  refine wp_st 1 (f' := (71, [some (.ref (b)), some (.int (Int32.ofNat t)), some (.int (sb_i len)), some (.int (o3)), some (.int (Int32.ofNat mk)), v5], [.ref (b)], A)) rfl ?_
  refine rw_gf (v := .int (Int32.ofNat 0)) h rfl rfl rfl rfl (h0) rfl ?_
  refine wp_izF rfl rfl (show ¬ ((Int32.ofNat 0) ≠ (Int32.ofNat 0)) from by decide) ?_
  refine wp_st 1 (f' := (78, [some (.ref (b)), some (.int (Int32.ofNat t)), some (.int (sb_i len)), some (.int (o3)), some (.int (Int32.ofNat mk)), v5], [.ref (b)], A)) rfl ?_
  refine rw_gr h rfl rfl rfl rfl rfl rfl ?_
  refine wp_st 1 (f' := (82, [some (.ref (b)), some (.int (Int32.ofNat t)), some (.int (sb_i len)), some (.int (o3)), some (.int (Int32.ofNat mk)), v5], [.ref (b), .ref (b + 35)], A)) rfl ?_
  refine rw_gf (v := .int (Int32.ofNat L)) h rfl rfl rfl rfl (h22) rfl ?_
  refine rw_al (j := 51) (n := L) (v := .int (Int32.ofNat y)) h rfl rfl rfl (Or.inl ⟨rfl, rfl⟩) rfl (show _ < 4 from by omega) (h51) rfl ?_
  refine wp_st 2 (f' := (90, [some (.ref (b)), some (.int (Int32.ofNat t)), some (.int (sb_i len)), some (.int (o3)), some (.int (Int32.ofNat mk)), some (.int (Int32.ofNat y))], [.int (Int32.ofNat y)], A)) rfl ?_
  refine wp_izT rfl rfl (Int32.not_lt.mp (Int32.ofNat_not_neg (by omega))) ?_
  refine wp_st 1 (f' := (107, [some (.ref (b)), some (.int (Int32.ofNat t)), some (.int (sb_i len)), some (.int (o3)), some (.int (Int32.ofNat mk)), some (.int (Int32.ofNat y))], [.ref (b)], A)) rfl ?_
  refine rw_gf (v := .int (Int32.ofNat L)) h rfl rfl rfl rfl (h22) rfl ?_
  refine wp_izT rfl rfl (fun q => absurd ((i32_eq (a := L) (b := 0) (by omega) (by omega)).mp q) (by omega)) ?_
  refine wp_st 1 (f' := (123, [some (.ref (b)), some (.int (Int32.ofNat t)), some (.int (sb_i len)), some (.int (o3)), some (.int (Int32.ofNat mk)), some (.int (Int32.ofNat y))], [.ref (b)], A)) rfl ?_
  refine rw_gr h rfl rfl rfl rfl rfl rfl ?_
  refine wp_st 1 (f' := (127, [some (.ref (b)), some (.int (Int32.ofNat t)), some (.int (sb_i len)), some (.int (o3)), some (.int (Int32.ofNat mk)), some (.int (Int32.ofNat y))], [.ref (b), .ref (b + 35)], A)) rfl ?_
  refine rw_gf (v := .int (Int32.ofNat L)) h rfl rfl rfl rfl (h22) rfl ?_
  refine wp_st 1 (f' := (131, [some (.ref (b)), some (.int (Int32.ofNat t)), some (.int (sb_i len)), some (.int (o3)), some (.int (Int32.ofNat mk)), some (.int (Int32.ofNat y))], [.ref (b), .int (Int32.ofNat L), .ref (b + 35)], A)) rfl ?_
  refine rw_gr h rfl rfl rfl rfl rfl rfl ?_
  refine wp_st 1 (f' := (136, [some (.ref (b)), some (.int (Int32.ofNat t)), some (.int (sb_i len)), some (.int (o3)), some (.int (Int32.ofNat mk)), some (.int (Int32.ofNat y))], [.int (Int32.ofNat y), .ref (b + 6), .int (Int32.ofNat L), .ref (b + 35)], A)) rfl ?_
  refine rw_al (j := 8) (n := y) (v := .int (nx)) h rfl rfl rfl (Or.inl ⟨rfl, rfl⟩) rfl (show _ < 384 from by omega) (h8) rfl ?_
  refine rw_as (j := 51) (n := L) (v := .int (nx)) h rfl rfl rfl (Or.inl ⟨rfl, rfl, rfl⟩) (show _ < 4 from by omega) rfl rfl (fun A1 h2 f3 => ?_)
  have f4 := (sb_fr.refl A b (b + 38)).trans f3
  refine wp_st 2 (f' := (141, [some (.ref (b)), some (.int (Int32.ofNat t)), some (.int (sb_i len)), some (.int (o3)), some (.int (Int32.ofNat mk)), some (.int (Int32.ofNat y))], [.int (Int32.ofNat y), .ref (b)], A1)) rfl ?_
  obtain ⟨⟨o9, Xa9⟩, g9, k1, k2⟩ := kk _ h2 f4
  dsimp only at k1 k2
  subst k1
  refine wp_cv (A' := Xa9) (v := none) rfl rfl rfl rfl rfl (show _ from h2.1) (by omega) (g9) rfl ?_
  show am_wp d 167 (144, [some (.ref (b)), some (.int (Int32.ofNat t)), some (.int (sb_i len)), some (.int (o3)), some (.int (Int32.ofNat mk)), some (.int (Int32.ofNat y))], [], Xa9) _
  exact k2
theorem fl_pr0 {d b t mk : Nat} {len : Bool} {o3 : Int32} {v5 : Option Value} {s : rf_S} {A : am_H} {Q : am_O × am_H → Prop} {y : Nat} {nx : Int32} (hd : 1 ≤ d) (hy : y < 384) {wl : Nat} (hwl : wl ≤ 160) (h48 : s 48 0 = .int (Int32.ofNat wl)) (h0 : s 0 0 = .int (Int32.ofNat 0)) (h22 : s 22 0 = .int (Int32.ofNat 0)) (h51 : s 51 0 = .int (Int32.ofNat y)) (h8 : s 8 y = .int nx) (h : rf A b s) (kk : ∀ B, rf B b (rf_u s 51 0 (.int nx)) → sb_fr A B b (b + 38) → ∃ q, am_ev (d - 1) 168 (0, am_ent 168 [.ref b, .int (Int32.ofNat y)], [], B) q ∧ q.1 = .inl none ∧ am_wp d 167 (144, [some (.ref b), some (.int (Int32.ofNat t)), some (.int (sb_i len)), some (.int (Int32.ofNat y)), some (.int (Int32.ofNat wl)), some (.int (Int32.ofNat y))], [], q.2) Q) : am_wp d 167 (63, [some (.ref b), some (.int (Int32.ofNat t)), some (.int (sb_i len)), some (.int o3), some (.int (Int32.ofNat mk)), v5], [], A) Q := by
  refine wp_st 1 (f' := (64, [some (.ref (b)), some (.int (Int32.ofNat t)), some (.int (sb_i len)), some (.int (o3)), some (.int (Int32.ofNat mk)), v5], [.ref (b)], A)) rfl ?_
  refine rw_gf (v := .int (Int32.ofNat 0)) h rfl rfl rfl rfl (h22) rfl ?_
  refine wp_izF rfl rfl (show ¬ ((Int32.ofNat 0) < (Int32.ofNat 0)) from by decide) ?_
  refine wp_st 1 (f' := (71, [some (.ref (b)), some (.int (Int32.ofNat t)), some (.int (sb_i len)), some (.int (o3)), some (.int (Int32.ofNat mk)), v5], [.ref (b)], A)) rfl ?_
  refine rw_gf (v := .int (Int32.ofNat 0)) h rfl rfl rfl rfl (h0) rfl ?_
  refine wp_izF rfl rfl (show ¬ ((Int32.ofNat 0) ≠ (Int32.ofNat 0)) from by decide) ?_
  refine wp_st 1 (f' := (78, [some (.ref (b)), some (.int (Int32.ofNat t)), some (.int (sb_i len)), some (.int (o3)), some (.int (Int32.ofNat mk)), v5], [.ref (b)], A)) rfl ?_
  refine rw_gr h rfl rfl rfl rfl rfl rfl ?_
  refine wp_st 1 (f' := (82, [some (.ref (b)), some (.int (Int32.ofNat t)), some (.int (sb_i len)), some (.int (o3)), some (.int (Int32.ofNat mk)), v5], [.ref (b), .ref (b + 35)], A)) rfl ?_
  refine rw_gf (v := .int (Int32.ofNat 0)) h rfl rfl rfl rfl (h22) rfl ?_
  refine rw_al (j := 51) (n := 0) (v := .int (Int32.ofNat y)) h rfl rfl rfl (Or.inl ⟨rfl, rfl⟩) rfl (show _ < 4 from by omega) (h51) rfl ?_
  refine wp_st 2 (f' := (90, [some (.ref (b)), some (.int (Int32.ofNat t)), some (.int (sb_i len)), some (.int (o3)), some (.int (Int32.ofNat mk)), some (.int (Int32.ofNat y))], [.int (Int32.ofNat y)], A)) rfl ?_
  refine wp_izT rfl rfl (Int32.not_lt.mp (Int32.ofNat_not_neg (by omega))) ?_
  refine wp_st 1 (f' := (107, [some (.ref (b)), some (.int (Int32.ofNat t)), some (.int (sb_i len)), some (.int (o3)), some (.int (Int32.ofNat mk)), some (.int (Int32.ofNat y))], [.ref (b)], A)) rfl ?_
  refine rw_gf (v := .int (Int32.ofNat 0)) h rfl rfl rfl rfl (h22) rfl ?_
  refine wp_izF rfl rfl (show ¬ ((Int32.ofNat 0) ≠ (Int32.ofNat 0)) from by decide) ?_
  refine wp_st 3 (f' := (117, [some (.ref (b)), some (.int (Int32.ofNat t)), some (.int (sb_i len)), some (.int (Int32.ofNat y)), some (.int (Int32.ofNat mk)), some (.int (Int32.ofNat y))], [.ref (b)], A)) rfl ?_
  refine rw_gf (v := .int (Int32.ofNat wl)) h rfl rfl rfl rfl (h48) rfl ?_
  refine wp_st 2 (f' := (123, [some (.ref (b)), some (.int (Int32.ofNat t)), some (.int (sb_i len)), some (.int (Int32.ofNat y)), some (.int (Int32.ofNat wl)), some (.int (Int32.ofNat y))], [.ref (b)], A)) rfl ?_
  refine rw_gr h rfl rfl rfl rfl rfl rfl ?_
  refine wp_st 1 (f' := (127, [some (.ref (b)), some (.int (Int32.ofNat t)), some (.int (sb_i len)), some (.int (Int32.ofNat y)), some (.int (Int32.ofNat wl)), some (.int (Int32.ofNat y))], [.ref (b), .ref (b + 35)], A)) rfl ?_
  refine rw_gf (v := .int (Int32.ofNat 0)) h rfl rfl rfl rfl (h22) rfl ?_
  refine wp_st 1 (f' := (131, [some (.ref (b)), some (.int (Int32.ofNat t)), some (.int (sb_i len)), some (.int (Int32.ofNat y)), some (.int (Int32.ofNat wl)), some (.int (Int32.ofNat y))], [.ref (b), .int (Int32.ofNat 0), .ref (b + 35)], A)) rfl ?_
  refine rw_gr h rfl rfl rfl rfl rfl rfl ?_
  refine wp_st 1 (f' := (136, [some (.ref (b)), some (.int (Int32.ofNat t)), some (.int (sb_i len)), some (.int (Int32.ofNat y)), some (.int (Int32.ofNat wl)), some (.int (Int32.ofNat y))], [.int (Int32.ofNat y), .ref (b + 6), .int (Int32.ofNat 0), .ref (b + 35)], A)) rfl ?_
  refine rw_al (j := 8) (n := y) (v := .int (nx)) h rfl rfl rfl (Or.inl ⟨rfl, rfl⟩) rfl (show _ < 384 from by omega) (h8) rfl ?_
  refine rw_as (j := 51) (n := 0) (v := .int (nx)) h rfl rfl rfl (Or.inl ⟨rfl, rfl, rfl⟩) (show _ < 4 from by omega) rfl rfl (fun A1 h2 f3 => ?_)
  have f4 := (sb_fr.refl A b (b + 38)).trans f3
  refine wp_st 2 (f' := (141, [some (.ref (b)), some (.int (Int32.ofNat t)), some (.int (sb_i len)), some (.int (Int32.ofNat y)), some (.int (Int32.ofNat wl)), some (.int (Int32.ofNat y))], [.int (Int32.ofNat y), .ref (b)], A1)) rfl ?_
  obtain ⟨⟨o9, Xa9⟩, g9, k1, k2⟩ := kk _ h2 f4
  dsimp only at k1 k2
  subst k1
  refine wp_cv (A' := Xa9) (v := none) rfl rfl rfl rfl rfl (show _ from h2.1) (by omega) (g9) rfl ?_
  show am_wp d 167 (144, [some (.ref (b)), some (.int (Int32.ofNat t)), some (.int (sb_i len)), some (.int (Int32.ofNat y)), some (.int (Int32.ofNat wl)), some (.int (Int32.ofNat y))], [], Xa9) _
  exact k2
theorem fl_ok {d b t mk : Nat} {len : Bool} {o3 : Int32} {v5 : Option Value} {s : rf_S} {A : am_H} {Q : am_O × am_H → Prop} (h0 : s 0 0 = .int (Int32.ofNat 0)) (h : rf A b s) (kk : am_wp d 167 (63, [some (.ref b), some (.int (Int32.ofNat t)), some (.int (sb_i len)), some (.int o3), some (.int (Int32.ofNat mk)), v5], [], A) Q) : am_wp d 167 (144, [some (.ref b), some (.int (Int32.ofNat t)), some (.int (sb_i len)), some (.int o3), some (.int (Int32.ofNat mk)), v5], [], A) Q := by
  refine wp_st 1 (f' := (145, [some (.ref (b)), some (.int (Int32.ofNat t)), some (.int (sb_i len)), some (.int (o3)), some (.int (Int32.ofNat mk)), v5], [.int (sb_i len)], A)) rfl ?_
  by_cases b1 : len = true
  · skip
    refine wp_izF rfl rfl (show ¬ (sb_i len = 0) from by rw [b1]; decide) ?_
    refine wp_st 1 (f' := (149, [some (.ref (b)), some (.int (Int32.ofNat t)), some (.int (sb_i len)), some (.int (o3)), some (.int (Int32.ofNat mk)), v5], [.ref (b)], A)) rfl ?_
    refine rw_gf (v := .int (Int32.ofNat 0)) h rfl rfl rfl rfl (h0) rfl ?_
    refine wp_st 1 (f' := (153, [some (.ref (b)), some (.int (Int32.ofNat t)), some (.int (sb_i len)), some (.int (o3)), some (.int (Int32.ofNat mk)), v5], [.int (Int32.ofNat 2), .int (Int32.ofNat 0)], A)) rfl ?_
    refine wp_ifF rfl rfl (show ¬ ((Int32.ofNat 0) = (Int32.ofNat 2)) from by decide) ?_
    refine wp_st 1 (f' := (157, [some (.ref (b)), some (.int (Int32.ofNat t)), some (.int (sb_i len)), some (.int (o3)), some (.int (Int32.ofNat mk)), v5], [.ref (b)], A)) rfl ?_
    refine rw_gf (v := .int (Int32.ofNat 0)) h rfl rfl rfl rfl (h0) rfl ?_
    refine wp_st 1 (f' := (161, [some (.ref (b)), some (.int (Int32.ofNat t)), some (.int (sb_i len)), some (.int (o3)), some (.int (Int32.ofNat mk)), v5], [.int (Int32.ofNat 3), .int (Int32.ofNat 0)], A)) rfl ?_
    refine wp_ifT rfl rfl (show (Int32.ofNat 0) ≠ (Int32.ofNat 3) from by decide) ?_
    refine wp_gt rfl (show am_tgt 195 (-132) = 63 by decide +kernel) ?_
    exact kk
  · skip
    have b1f : len = false := by simpa using b1
    refine wp_izT rfl rfl (show sb_i len = 0 from by rw [b1f]; decide) ?_
    refine wp_gt rfl (show am_tgt 195 (-132) = 63 by decide +kernel) ?_
    exact kk
theorem fl_er2 {d b t mk : Nat} {len : Bool} {o3 : Int32} {v5 : Option Value} {s : rf_S} {A : am_H} {Q : am_O × am_H → Prop} {L : Nat} (hL : L < 4) (hlen : len = false) (h0 : s 0 0 = .int (Int32.ofNat 2)) (h22 : s 22 0 = .int (Int32.ofNat L)) (h : rf A b s) (kk : Q (.inl (some (.int (Int32.ofNat 0))), A)) : am_wp d 167 (144, [some (.ref b), some (.int (Int32.ofNat t)), some (.int (sb_i len)), some (.int o3), some (.int (Int32.ofNat mk)), v5], [], A) Q := by
  refine wp_st 1 (f' := (145, [some (.ref (b)), some (.int (Int32.ofNat t)), some (.int (sb_i len)), some (.int (o3)), some (.int (Int32.ofNat mk)), v5], [.int (sb_i len)], A)) rfl ?_
  refine wp_izT rfl rfl (by rw [hlen]; rfl) ?_
  refine wp_gt rfl (show am_tgt 195 (-132) = 63 by decide +kernel) ?_
  refine wp_st 1 (f' := (64, [some (.ref (b)), some (.int (Int32.ofNat t)), some (.int (sb_i len)), some (.int (o3)), some (.int (Int32.ofNat mk)), v5], [.ref (b)], A)) rfl ?_
  refine rw_gf (v := .int (Int32.ofNat L)) h rfl rfl rfl rfl (h22) rfl ?_
  refine wp_izF rfl rfl (fun q => absurd ((i32_lt (a := L) (b := 0) (by omega) (by omega)).mp q) (by omega)) ?_
  refine wp_st 1 (f' := (71, [some (.ref (b)), some (.int (Int32.ofNat t)), some (.int (sb_i len)), some (.int (o3)), some (.int (Int32.ofNat mk)), v5], [.ref (b)], A)) rfl ?_
  refine rw_gf (v := .int (Int32.ofNat 2)) h rfl rfl rfl rfl (h0) rfl ?_
  refine wp_izT rfl (show am_tgt 74 (124) = 198 by decide +kernel) (show (Int32.ofNat 2) ≠ (Int32.ofNat 0) from by decide) ?_
  refine wp_st 1 (f' := (199, [some (.ref (b)), some (.int (Int32.ofNat t)), some (.int (sb_i len)), some (.int (o3)), some (.int (Int32.ofNat mk)), v5], [.ref (b)], A)) rfl ?_
  refine rw_gf (v := .int (Int32.ofNat 2)) h rfl rfl rfl rfl (h0) rfl ?_
  refine wp_izF rfl rfl (show ¬ ((Int32.ofNat 2) ≤ (Int32.ofNat 0)) from by decide) ?_
  refine wp_st 1 (f' := (206, [some (.ref (b)), some (.int (Int32.ofNat t)), some (.int (sb_i len)), some (.int (o3)), some (.int (Int32.ofNat mk)), v5], [.int (Int32.ofNat 0)], A)) rfl ?_
  refine wp_rt rfl rfl rfl ?_
  exact kk
theorem fl_er3 {d b t mk : Nat} {len : Bool} {o3 : Int32} {v5 : Option Value} {s : rf_S} {A : am_H} {Q : am_O × am_H → Prop} {L : Nat} (hL : L < 4) (hlen : len = false) (h0 : s 0 0 = .int (Int32.ofNat 3)) (h22 : s 22 0 = .int (Int32.ofNat L)) (h : rf A b s) (kk : Q (.inl (some (.int (Int32.ofNat 0))), A)) : am_wp d 167 (144, [some (.ref b), some (.int (Int32.ofNat t)), some (.int (sb_i len)), some (.int o3), some (.int (Int32.ofNat mk)), v5], [], A) Q := by
  refine wp_st 1 (f' := (145, [some (.ref (b)), some (.int (Int32.ofNat t)), some (.int (sb_i len)), some (.int (o3)), some (.int (Int32.ofNat mk)), v5], [.int (sb_i len)], A)) rfl ?_
  refine wp_izT rfl rfl (by rw [hlen]; rfl) ?_
  refine wp_gt rfl (show am_tgt 195 (-132) = 63 by decide +kernel) ?_
  refine wp_st 1 (f' := (64, [some (.ref (b)), some (.int (Int32.ofNat t)), some (.int (sb_i len)), some (.int (o3)), some (.int (Int32.ofNat mk)), v5], [.ref (b)], A)) rfl ?_
  refine rw_gf (v := .int (Int32.ofNat L)) h rfl rfl rfl rfl (h22) rfl ?_
  refine wp_izF rfl rfl (fun q => absurd ((i32_lt (a := L) (b := 0) (by omega) (by omega)).mp q) (by omega)) ?_
  refine wp_st 1 (f' := (71, [some (.ref (b)), some (.int (Int32.ofNat t)), some (.int (sb_i len)), some (.int (o3)), some (.int (Int32.ofNat mk)), v5], [.ref (b)], A)) rfl ?_
  refine rw_gf (v := .int (Int32.ofNat 3)) h rfl rfl rfl rfl (h0) rfl ?_
  refine wp_izT rfl (show am_tgt 74 (124) = 198 by decide +kernel) (show (Int32.ofNat 3) ≠ (Int32.ofNat 0) from by decide) ?_
  refine wp_st 1 (f' := (199, [some (.ref (b)), some (.int (Int32.ofNat t)), some (.int (sb_i len)), some (.int (o3)), some (.int (Int32.ofNat mk)), v5], [.ref (b)], A)) rfl ?_
  refine rw_gf (v := .int (Int32.ofNat 3)) h rfl rfl rfl rfl (h0) rfl ?_
  refine wp_izF rfl rfl (show ¬ ((Int32.ofNat 3) ≤ (Int32.ofNat 0)) from by decide) ?_
  refine wp_st 1 (f' := (206, [some (.ref (b)), some (.int (Int32.ofNat t)), some (.int (sb_i len)), some (.int (o3)), some (.int (Int32.ofNat mk)), v5], [.int (Int32.ofNat 0)], A)) rfl ?_
  refine wp_rt rfl rfl rfl ?_
  exact kk
theorem fl_er4 {d b t mk : Nat} {len : Bool} {o3 : Int32} {v5 : Option Value} {s : rf_S} {A : am_H} {Q : am_O × am_H → Prop} {L : Nat} (hL : L < 4) (h0 : s 0 0 = .int (Int32.ofNat 4)) (h22 : s 22 0 = .int (Int32.ofNat L)) (h : rf A b s) (kk : Q (.inl (some (.int (Int32.ofNat 0))), A)) : am_wp d 167 (144, [some (.ref b), some (.int (Int32.ofNat t)), some (.int (sb_i len)), some (.int o3), some (.int (Int32.ofNat mk)), v5], [], A) Q := by
  refine wp_st 1 (f' := (145, [some (.ref (b)), some (.int (Int32.ofNat t)), some (.int (sb_i len)), some (.int (o3)), some (.int (Int32.ofNat mk)), v5], [.int (sb_i len)], A)) rfl ?_
  by_cases b1 : len = true
  · skip
    refine wp_izF rfl rfl (show ¬ (sb_i len = 0) from by rw [b1]; decide) ?_
    refine wp_st 1 (f' := (149, [some (.ref (b)), some (.int (Int32.ofNat t)), some (.int (sb_i len)), some (.int (o3)), some (.int (Int32.ofNat mk)), v5], [.ref (b)], A)) rfl ?_
    refine rw_gf (v := .int (Int32.ofNat 4)) h rfl rfl rfl rfl (h0) rfl ?_
    refine wp_st 1 (f' := (153, [some (.ref (b)), some (.int (Int32.ofNat t)), some (.int (sb_i len)), some (.int (o3)), some (.int (Int32.ofNat mk)), v5], [.int (Int32.ofNat 2), .int (Int32.ofNat 4)], A)) rfl ?_
    refine wp_ifF rfl rfl (show ¬ ((Int32.ofNat 4) = (Int32.ofNat 2)) from by decide) ?_
    refine wp_st 1 (f' := (157, [some (.ref (b)), some (.int (Int32.ofNat t)), some (.int (sb_i len)), some (.int (o3)), some (.int (Int32.ofNat mk)), v5], [.ref (b)], A)) rfl ?_
    refine rw_gf (v := .int (Int32.ofNat 4)) h rfl rfl rfl rfl (h0) rfl ?_
    refine wp_st 1 (f' := (161, [some (.ref (b)), some (.int (Int32.ofNat t)), some (.int (sb_i len)), some (.int (o3)), some (.int (Int32.ofNat mk)), v5], [.int (Int32.ofNat 3), .int (Int32.ofNat 4)], A)) rfl ?_
    refine wp_ifT rfl rfl (show (Int32.ofNat 4) ≠ (Int32.ofNat 3) from by decide) ?_
    refine wp_gt rfl (show am_tgt 195 (-132) = 63 by decide +kernel) ?_
    refine wp_st 1 (f' := (64, [some (.ref (b)), some (.int (Int32.ofNat t)), some (.int (sb_i len)), some (.int (o3)), some (.int (Int32.ofNat mk)), v5], [.ref (b)], A)) rfl ?_
    refine rw_gf (v := .int (Int32.ofNat L)) h rfl rfl rfl rfl (h22) rfl ?_
    refine wp_izF rfl rfl (fun q => absurd ((i32_lt (a := L) (b := 0) (by omega) (by omega)).mp q) (by omega)) ?_
    refine wp_st 1 (f' := (71, [some (.ref (b)), some (.int (Int32.ofNat t)), some (.int (sb_i len)), some (.int (o3)), some (.int (Int32.ofNat mk)), v5], [.ref (b)], A)) rfl ?_
    refine rw_gf (v := .int (Int32.ofNat 4)) h rfl rfl rfl rfl (h0) rfl ?_
    refine wp_izT rfl (show am_tgt 74 (124) = 198 by decide +kernel) (show (Int32.ofNat 4) ≠ (Int32.ofNat 0) from by decide) ?_
    refine wp_st 1 (f' := (199, [some (.ref (b)), some (.int (Int32.ofNat t)), some (.int (sb_i len)), some (.int (o3)), some (.int (Int32.ofNat mk)), v5], [.ref (b)], A)) rfl ?_
    refine rw_gf (v := .int (Int32.ofNat 4)) h rfl rfl rfl rfl (h0) rfl ?_
    refine wp_izF rfl rfl (show ¬ ((Int32.ofNat 4) ≤ (Int32.ofNat 0)) from by decide) ?_
    refine wp_st 1 (f' := (206, [some (.ref (b)), some (.int (Int32.ofNat t)), some (.int (sb_i len)), some (.int (o3)), some (.int (Int32.ofNat mk)), v5], [.int (Int32.ofNat 0)], A)) rfl ?_
    refine wp_rt rfl rfl rfl ?_
    exact kk
  · skip
    have b1f : len = false := by simpa using b1
    refine wp_izT rfl rfl (show sb_i len = 0 from by rw [b1f]; decide) ?_
    refine wp_gt rfl (show am_tgt 195 (-132) = 63 by decide +kernel) ?_
    refine wp_st 1 (f' := (64, [some (.ref (b)), some (.int (Int32.ofNat t)), some (.int (sb_i len)), some (.int (o3)), some (.int (Int32.ofNat mk)), v5], [.ref (b)], A)) rfl ?_
    refine rw_gf (v := .int (Int32.ofNat L)) h rfl rfl rfl rfl (h22) rfl ?_
    refine wp_izF rfl rfl (fun q => absurd ((i32_lt (a := L) (b := 0) (by omega) (by omega)).mp q) (by omega)) ?_
    refine wp_st 1 (f' := (71, [some (.ref (b)), some (.int (Int32.ofNat t)), some (.int (sb_i len)), some (.int (o3)), some (.int (Int32.ofNat mk)), v5], [.ref (b)], A)) rfl ?_
    refine rw_gf (v := .int (Int32.ofNat 4)) h rfl rfl rfl rfl (h0) rfl ?_
    refine wp_izT rfl (show am_tgt 74 (124) = 198 by decide +kernel) (show (Int32.ofNat 4) ≠ (Int32.ofNat 0) from by decide) ?_
    refine wp_st 1 (f' := (199, [some (.ref (b)), some (.int (Int32.ofNat t)), some (.int (sb_i len)), some (.int (o3)), some (.int (Int32.ofNat mk)), v5], [.ref (b)], A)) rfl ?_
    refine rw_gf (v := .int (Int32.ofNat 4)) h rfl rfl rfl rfl (h0) rfl ?_
    refine wp_izF rfl rfl (show ¬ ((Int32.ofNat 4) ≤ (Int32.ofNat 0)) from by decide) ?_
    refine wp_st 1 (f' := (206, [some (.ref (b)), some (.int (Int32.ofNat t)), some (.int (sb_i len)), some (.int (o3)), some (.int (Int32.ofNat mk)), v5], [.int (Int32.ofNat 0)], A)) rfl ?_
    refine wp_rt rfl rfl rfl ?_
    exact kk
theorem fl_ln2 {d b t y x N : Nat} {v5 : Option Value} {w0 : List Nat} {s : rf_S} {A : am_H} {Q : am_O × am_H → Prop} (hd : 2 ≤ d) (hy : y < 384) (hx9 : x < 192) (hN : N < 2147483648) (h0 : s 0 0 = .int (Int32.ofNat 2)) (h7 : s 7 y = .int (Int32.ofNat x)) (h9 : s 9 x = .int (Int32.ofNat N)) (hpl : w0.length ≤ 160) (hpr : ∀ i, i < w0.length → s 47 i = .int (Int32.ofNat (w0.getD i 0))) (h : rf A b s) (kk : ∀ B u, rf B b u → rf_wx u (wx_app (some w0) ([123] ++ (rf_ln N 4 ++ [125]))) → rf_wk (rf_u (rf_u (rf_u s 0 0 (.int (Int32.ofNat 0))) 48 0 (.int (Int32.ofNat w0.length))) 22 0 (.int (Int32.ofNat 0))) u → sb_fr A B b (b + 38) → am_wp d 167 (63, [some (.ref b), some (.int (Int32.ofNat t)), some (.int (Int32.ofNat 1)), some (.int (Int32.ofNat y)), some (.int (Int32.ofNat w0.length)), v5], [], B) Q) : am_wp d 167 (144, [some (.ref b), some (.int (Int32.ofNat t)), some (.int (Int32.ofNat 1)), some (.int (Int32.ofNat y)), some (.int (Int32.ofNat w0.length)), v5], [], A) Q := by
  refine wp_st 1 (f' := (145, [some (.ref (b)), some (.int (Int32.ofNat t)), some (.int (Int32.ofNat 1)), some (.int (Int32.ofNat y)), some (.int (Int32.ofNat (w0.length))), v5], [.int (Int32.ofNat 1)], A)) rfl ?_
  refine wp_izF rfl rfl (show ¬ ((Int32.ofNat 1) = (Int32.ofNat 0)) from by decide) ?_
  refine wp_st 1 (f' := (149, [some (.ref (b)), some (.int (Int32.ofNat t)), some (.int (Int32.ofNat 1)), some (.int (Int32.ofNat y)), some (.int (Int32.ofNat (w0.length))), v5], [.ref (b)], A)) rfl ?_
  refine rw_gf (v := .int (Int32.ofNat 2)) h rfl rfl rfl rfl (h0) rfl ?_
  refine wp_st 1 (f' := (153, [some (.ref (b)), some (.int (Int32.ofNat t)), some (.int (Int32.ofNat 1)), some (.int (Int32.ofNat y)), some (.int (Int32.ofNat (w0.length))), v5], [.int (Int32.ofNat 2), .int (Int32.ofNat 2)], A)) rfl ?_
  refine wp_ifT rfl rfl (show (Int32.ofNat 2) = (Int32.ofNat 2) from by decide) ?_
  refine wp_st 2 (f' := (166, [some (.ref (b)), some (.int (Int32.ofNat t)), some (.int (Int32.ofNat 1)), some (.int (Int32.ofNat y)), some (.int (Int32.ofNat (w0.length))), v5], [.int (Int32.ofNat 0), .ref (b)], A)) rfl ?_
  refine rw_pf (v := .int (Int32.ofNat 0)) h rfl rfl rfl rfl rfl rfl (fun A1 h2 f3 => ?_)
  have f4 := (sb_fr.refl A b (b + 38)).trans f3
  refine wp_st 2 (f' := (172, [some (.ref (b)), some (.int (Int32.ofNat t)), some (.int (Int32.ofNat 1)), some (.int (Int32.ofNat y)), some (.int (Int32.ofNat (w0.length))), v5], [.int (Int32.ofNat (w0.length)), .ref (b)], A1)) rfl ?_
  refine rw_pf (v := .int (Int32.ofNat (w0.length))) h2 rfl rfl rfl rfl rfl rfl (fun A5 h6 f7 => ?_)
  have f8 := f4.trans f7
  refine wp_st 2 (f' := (177, [some (.ref (b)), some (.int (Int32.ofNat t)), some (.int (Int32.ofNat 1)), some (.int (Int32.ofNat y)), some (.int (Int32.ofNat (w0.length))), v5], [.int (Int32.ofNat 0), .ref (b)], A5)) rfl ?_
  refine rw_pf (v := .int (Int32.ofNat 0)) h6 rfl rfl rfl rfl rfl rfl (fun A9 h10 f11 => ?_)
  have f12 := f8.trans f11
  refine wp_st 2 (f' := (182, [some (.ref (b)), some (.int (Int32.ofNat t)), some (.int (Int32.ofNat 1)), some (.int (Int32.ofNat y)), some (.int (Int32.ofNat (w0.length))), v5], [.ref (b), .ref (b)], A9)) rfl ?_
  refine rw_gr h10 rfl rfl rfl rfl rfl rfl ?_
  refine wp_st 1 (f' := (186, [some (.ref (b)), some (.int (Int32.ofNat t)), some (.int (Int32.ofNat 1)), some (.int (Int32.ofNat y)), some (.int (Int32.ofNat (w0.length))), v5], [.ref (b), .ref (b + 7), .ref (b)], A9)) rfl ?_
  refine rw_gr h10 rfl rfl rfl rfl rfl rfl ?_
  refine wp_st 1 (f' := (190, [some (.ref (b)), some (.int (Int32.ofNat t)), some (.int (Int32.ofNat 1)), some (.int (Int32.ofNat y)), some (.int (Int32.ofNat (w0.length))), v5], [.int (Int32.ofNat y), .ref (b + 5), .ref (b + 7), .ref (b)], A9)) rfl ?_
  refine rw_al (j := 7) (n := y) (v := .int (Int32.ofNat x)) h10 rfl rfl rfl (Or.inl ⟨rfl, rfl⟩) rfl (show _ < 384 from by omega) (by rw [rf_u_ne (Or.inl (by decide)), rf_u_ne (Or.inl (by decide)), rf_u_ne (Or.inl (by decide))]; exact h7) rfl ?_
  refine rw_al (j := 9) (n := x) (v := .int (Int32.ofNat N)) h10 rfl rfl rfl (Or.inl ⟨rfl, rfl⟩) rfl (show _ < 192 from by omega) (by rw [rf_u_ne (Or.inl (by decide)), rf_u_ne (Or.inl (by decide)), rf_u_ne (Or.inl (by decide))]; exact h9) rfl ?_
  have hdw : rf_wx (rf_u (rf_u (rf_u s 0 0 (.int (Int32.ofNat 0))) 48 0 (.int (Int32.ofNat w0.length))) 22 0 (.int (Int32.ofNat 0))) (some w0) := ⟨rfl, hpl, fun i hi => by rw [rf_u_ne (Or.inl (by decide)), rf_u_ne (Or.inl (by decide)), rf_u_ne (Or.inl (by decide))]; exact hpr i hi, rfl⟩
  obtain ⟨A13, t14, g15, h16, x17, k18, f19⟩ := rw_name (d := d - 1) (N := N) (by omega) (by omega) hdw h10
  have f20 := f12.trans f19
  refine wp_cv (A' := A13) (v := none) rfl rfl rfl rfl rfl (show _ from h10.1) (by omega) (g15) rfl ?_
  show am_wp d 167 (195, [some (.ref (b)), some (.int (Int32.ofNat t)), some (.int (Int32.ofNat 1)), some (.int (Int32.ofNat y)), some (.int (Int32.ofNat (w0.length))), v5], [], A13) _
  refine wp_gt rfl (show am_tgt 195 (-132) = 63 by decide +kernel) ?_
  exact kk _ _ h16 x17 k18 f20
theorem fl_ln3 {d b t y x N : Nat} {v5 : Option Value} {w0 : List Nat} {s : rf_S} {A : am_H} {Q : am_O × am_H → Prop} (hd : 2 ≤ d) (hy : y < 384) (hx9 : x < 192) (hN : N < 2147483648) (h0 : s 0 0 = .int (Int32.ofNat 3)) (h7 : s 7 y = .int (Int32.ofNat x)) (h9 : s 9 x = .int (Int32.ofNat N)) (hpl : w0.length ≤ 160) (hpr : ∀ i, i < w0.length → s 47 i = .int (Int32.ofNat (w0.getD i 0))) (h : rf A b s) (kk : ∀ B u, rf B b u → rf_wx u (wx_app (some w0) ([123] ++ (rf_ln N 4 ++ [125]))) → rf_wk (rf_u (rf_u (rf_u s 0 0 (.int (Int32.ofNat 0))) 48 0 (.int (Int32.ofNat w0.length))) 22 0 (.int (Int32.ofNat 0))) u → sb_fr A B b (b + 38) → am_wp d 167 (63, [some (.ref b), some (.int (Int32.ofNat t)), some (.int (Int32.ofNat 1)), some (.int (Int32.ofNat y)), some (.int (Int32.ofNat w0.length)), v5], [], B) Q) : am_wp d 167 (144, [some (.ref b), some (.int (Int32.ofNat t)), some (.int (Int32.ofNat 1)), some (.int (Int32.ofNat y)), some (.int (Int32.ofNat w0.length)), v5], [], A) Q := by
  refine wp_st 1 (f' := (145, [some (.ref (b)), some (.int (Int32.ofNat t)), some (.int (Int32.ofNat 1)), some (.int (Int32.ofNat y)), some (.int (Int32.ofNat (w0.length))), v5], [.int (Int32.ofNat 1)], A)) rfl ?_
  refine wp_izF rfl rfl (show ¬ ((Int32.ofNat 1) = (Int32.ofNat 0)) from by decide) ?_
  refine wp_st 1 (f' := (149, [some (.ref (b)), some (.int (Int32.ofNat t)), some (.int (Int32.ofNat 1)), some (.int (Int32.ofNat y)), some (.int (Int32.ofNat (w0.length))), v5], [.ref (b)], A)) rfl ?_
  refine rw_gf (v := .int (Int32.ofNat 3)) h rfl rfl rfl rfl (h0) rfl ?_
  refine wp_st 1 (f' := (153, [some (.ref (b)), some (.int (Int32.ofNat t)), some (.int (Int32.ofNat 1)), some (.int (Int32.ofNat y)), some (.int (Int32.ofNat (w0.length))), v5], [.int (Int32.ofNat 2), .int (Int32.ofNat 3)], A)) rfl ?_
  refine wp_ifF rfl rfl (show ¬ ((Int32.ofNat 3) = (Int32.ofNat 2)) from by decide) ?_
  refine wp_st 1 (f' := (157, [some (.ref (b)), some (.int (Int32.ofNat t)), some (.int (Int32.ofNat 1)), some (.int (Int32.ofNat y)), some (.int (Int32.ofNat (w0.length))), v5], [.ref (b)], A)) rfl ?_
  refine rw_gf (v := .int (Int32.ofNat 3)) h rfl rfl rfl rfl (h0) rfl ?_
  refine wp_st 1 (f' := (161, [some (.ref (b)), some (.int (Int32.ofNat t)), some (.int (Int32.ofNat 1)), some (.int (Int32.ofNat y)), some (.int (Int32.ofNat (w0.length))), v5], [.int (Int32.ofNat 3), .int (Int32.ofNat 3)], A)) rfl ?_
  refine wp_ifF rfl rfl (show ¬ ((Int32.ofNat 3) ≠ (Int32.ofNat 3)) from by decide) ?_
  refine wp_st 2 (f' := (166, [some (.ref (b)), some (.int (Int32.ofNat t)), some (.int (Int32.ofNat 1)), some (.int (Int32.ofNat y)), some (.int (Int32.ofNat (w0.length))), v5], [.int (Int32.ofNat 0), .ref (b)], A)) rfl ?_
  refine rw_pf (v := .int (Int32.ofNat 0)) h rfl rfl rfl rfl rfl rfl (fun A1 h2 f3 => ?_)
  have f4 := (sb_fr.refl A b (b + 38)).trans f3
  refine wp_st 2 (f' := (172, [some (.ref (b)), some (.int (Int32.ofNat t)), some (.int (Int32.ofNat 1)), some (.int (Int32.ofNat y)), some (.int (Int32.ofNat (w0.length))), v5], [.int (Int32.ofNat (w0.length)), .ref (b)], A1)) rfl ?_
  refine rw_pf (v := .int (Int32.ofNat (w0.length))) h2 rfl rfl rfl rfl rfl rfl (fun A5 h6 f7 => ?_)
  have f8 := f4.trans f7
  refine wp_st 2 (f' := (177, [some (.ref (b)), some (.int (Int32.ofNat t)), some (.int (Int32.ofNat 1)), some (.int (Int32.ofNat y)), some (.int (Int32.ofNat (w0.length))), v5], [.int (Int32.ofNat 0), .ref (b)], A5)) rfl ?_
  refine rw_pf (v := .int (Int32.ofNat 0)) h6 rfl rfl rfl rfl rfl rfl (fun A9 h10 f11 => ?_)
  have f12 := f8.trans f11
  refine wp_st 2 (f' := (182, [some (.ref (b)), some (.int (Int32.ofNat t)), some (.int (Int32.ofNat 1)), some (.int (Int32.ofNat y)), some (.int (Int32.ofNat (w0.length))), v5], [.ref (b), .ref (b)], A9)) rfl ?_
  refine rw_gr h10 rfl rfl rfl rfl rfl rfl ?_
  refine wp_st 1 (f' := (186, [some (.ref (b)), some (.int (Int32.ofNat t)), some (.int (Int32.ofNat 1)), some (.int (Int32.ofNat y)), some (.int (Int32.ofNat (w0.length))), v5], [.ref (b), .ref (b + 7), .ref (b)], A9)) rfl ?_
  refine rw_gr h10 rfl rfl rfl rfl rfl rfl ?_
  refine wp_st 1 (f' := (190, [some (.ref (b)), some (.int (Int32.ofNat t)), some (.int (Int32.ofNat 1)), some (.int (Int32.ofNat y)), some (.int (Int32.ofNat (w0.length))), v5], [.int (Int32.ofNat y), .ref (b + 5), .ref (b + 7), .ref (b)], A9)) rfl ?_
  refine rw_al (j := 7) (n := y) (v := .int (Int32.ofNat x)) h10 rfl rfl rfl (Or.inl ⟨rfl, rfl⟩) rfl (show _ < 384 from by omega) (by rw [rf_u_ne (Or.inl (by decide)), rf_u_ne (Or.inl (by decide)), rf_u_ne (Or.inl (by decide))]; exact h7) rfl ?_
  refine rw_al (j := 9) (n := x) (v := .int (Int32.ofNat N)) h10 rfl rfl rfl (Or.inl ⟨rfl, rfl⟩) rfl (show _ < 192 from by omega) (by rw [rf_u_ne (Or.inl (by decide)), rf_u_ne (Or.inl (by decide)), rf_u_ne (Or.inl (by decide))]; exact h9) rfl ?_
  have hdw : rf_wx (rf_u (rf_u (rf_u s 0 0 (.int (Int32.ofNat 0))) 48 0 (.int (Int32.ofNat w0.length))) 22 0 (.int (Int32.ofNat 0))) (some w0) := ⟨rfl, hpl, fun i hi => by rw [rf_u_ne (Or.inl (by decide)), rf_u_ne (Or.inl (by decide)), rf_u_ne (Or.inl (by decide))]; exact hpr i hi, rfl⟩
  obtain ⟨A13, t14, g15, h16, x17, k18, f19⟩ := rw_name (d := d - 1) (N := N) (by omega) (by omega) hdw h10
  have f20 := f12.trans f19
  refine wp_cv (A' := A13) (v := none) rfl rfl rfl rfl rfl (show _ from h10.1) (by omega) (g15) rfl ?_
  show am_wp d 167 (195, [some (.ref (b)), some (.int (Int32.ofNat t)), some (.int (Int32.ofNat 1)), some (.int (Int32.ofNat y)), some (.int (Int32.ofNat (w0.length))), v5], [], A13) _
  refine wp_gt rfl (show am_tgt 195 (-132) = 63 by decide +kernel) ?_
  exact kk _ _ h16 x17 k18 f20
