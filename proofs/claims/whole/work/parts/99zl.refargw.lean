/-! The reference: argument. -/
theorem ra_none {d b x nv jv N : Nat} {nf cf : Nat → Int32} {bf : Nat → Bool} {lf : Nat → Int64} {s : rf_S} {A : am_H} (hd : 3 ≤ d) (hx9 : x < 192) (h9 : s 9 x = .int (Int32.ofNat N)) (hv : rf_vs s nv nf bf lf cf) (h : rf A b s) (hfd : rf_fd nf (Int32.ofNat N) nv 0 = none) : rf_go d 169 [.ref b, .int (Int32.ofNat x)] A b none (rf_u s 0 0 (.int (Int32.ofNat 2))) := by
  refine rf_of ?_
  refine wp_st 2 (f' := (2, [some (.ref (b)), some (.int (Int32.ofNat x)), none, none, none], [.ref (b), .ref (b)], A)) rfl ?_
  refine rw_gr h rfl rfl rfl rfl rfl rfl ?_
  refine wp_st 1 (f' := (6, [some (.ref (b)), some (.int (Int32.ofNat x)), none, none, none], [.int (Int32.ofNat x), .ref (b + 7), .ref (b)], A)) rfl ?_
  refine rw_al (j := 9) (n := x) (v := .int (Int32.ofNat N)) h rfl rfl rfl (Or.inl ⟨rfl, rfl⟩) rfl (show _ < 192 from by omega) (h9) rfl ?_
  refine wp_cv (A' := A) (v := some (.int ((-1)))) rfl rfl rfl rfl rfl (show _ from h.1) (by omega) (by have e := rn_fd (d := d - 1) (x := Int32.ofNat N) hv h; rw [hfd] at e; exact e) rfl ?_
  show am_wp d 169 (10, [some (.ref (b)), some (.int (Int32.ofNat x)), none, none, none], [.int ((-1))], A) _
  refine wp_st 2 (f' := (12, [some (.ref (b)), some (.int (Int32.ofNat x)), some (.int ((-1))), none, none], [.int ((-1))], A)) rfl ?_
  refine wp_izF rfl rfl (show ¬ ((Int32.ofNat 0) ≤ (-1 : Int32)) from by decide) ?_
  refine wp_st 2 (f' := (17, [some (.ref (b)), some (.int (Int32.ofNat x)), some (.int ((-1))), none, none], [.int (Int32.ofNat 2), .ref (b)], A)) rfl ?_
  refine rw_pf (v := .int (Int32.ofNat 2)) h rfl rfl rfl rfl rfl rfl (fun A1 h2 f3 => ?_)
  have f4 := (sb_fr.refl A b (b + 38)).trans f3
  refine wp_rt rfl rfl rfl ?_
  exact ⟨rfl, h2, f4⟩
theorem ra_rw1 {d b x nv jv N : Nat} {nf cf : Nat → Int32} {bf : Nat → Bool} {lf : Nat → Int64} {s : rf_S} {A : am_H} (hd : 3 ≤ d) (hx9 : x < 192) (h9 : s 9 x = .int (Int32.ofNat N)) (hv : rf_vs s nv nf bf lf cf) (h : rf A b s) (hfd : rf_fd nf (Int32.ofNat N) nv 0 = some jv) (hjv : jv < 6) (h10 : s 10 x = .int (Int32.ofNat 1)) (h44 : s 44 jv = .int (Int32.ofNat 1)) : rf_go d 169 [.ref b, .int (Int32.ofNat x)] A b none (rf_u s 0 0 (.int (Int32.ofNat 3))) := by
  refine rf_of ?_
  refine wp_st 2 (f' := (2, [some (.ref (b)), some (.int (Int32.ofNat x)), none, none, none], [.ref (b), .ref (b)], A)) rfl ?_
  refine rw_gr h rfl rfl rfl rfl rfl rfl ?_
  refine wp_st 1 (f' := (6, [some (.ref (b)), some (.int (Int32.ofNat x)), none, none, none], [.int (Int32.ofNat x), .ref (b + 7), .ref (b)], A)) rfl ?_
  refine rw_al (j := 9) (n := x) (v := .int (Int32.ofNat N)) h rfl rfl rfl (Or.inl ⟨rfl, rfl⟩) rfl (show _ < 192 from by omega) (h9) rfl ?_
  refine wp_cv (A' := A) (v := some (.int (Int32.ofNat jv))) rfl rfl rfl rfl rfl (show _ from h.1) (by omega) (by have e := rn_fd (d := d - 1) (x := Int32.ofNat N) hv h; rw [hfd] at e; exact e) rfl ?_
  show am_wp d 169 (10, [some (.ref (b)), some (.int (Int32.ofNat x)), none, none, none], [.int (Int32.ofNat jv)], A) _
  refine wp_st 2 (f' := (12, [some (.ref (b)), some (.int (Int32.ofNat x)), some (.int (Int32.ofNat jv)), none, none], [.int (Int32.ofNat jv)], A)) rfl ?_
  refine wp_izT rfl rfl (Int32.not_lt.mp (Int32.ofNat_not_neg (by omega))) ?_
  refine wp_st 1 (f' := (22, [some (.ref (b)), some (.int (Int32.ofNat x)), some (.int (Int32.ofNat jv)), none, none], [.ref (b)], A)) rfl ?_
  refine rw_gr h rfl rfl rfl rfl rfl rfl ?_
  refine wp_st 1 (f' := (26, [some (.ref (b)), some (.int (Int32.ofNat x)), some (.int (Int32.ofNat jv)), none, none], [.int (Int32.ofNat x), .ref (b + 8)], A)) rfl ?_
  refine rw_al (j := 10) (n := x) (v := .int (Int32.ofNat 1)) h rfl rfl rfl (Or.inl ⟨rfl, rfl⟩) rfl (show _ < 192 from by omega) (h10) rfl ?_
  refine wp_st 2 (f' := (29, [some (.ref (b)), some (.int (Int32.ofNat x)), some (.int (Int32.ofNat jv)), some (.int (Int32.ofNat 1)), none], [.ref (b)], A)) rfl ?_
  refine rw_gr h rfl rfl rfl rfl rfl rfl ?_
  refine wp_st 1 (f' := (33, [some (.ref (b)), some (.int (Int32.ofNat x)), some (.int (Int32.ofNat jv)), some (.int (Int32.ofNat 1)), none], [.int (Int32.ofNat jv), .ref (b + 30)], A)) rfl ?_
  refine rw_al (j := 44) (n := jv) (v := .int (Int32.ofNat 1)) h rfl rfl rfl (Or.inr (Or.inr (Or.inr (Or.inl ⟨rfl, rfl⟩)))) rfl (show _ < 6 from by omega) (h44) rfl ?_
  refine wp_izF rfl rfl (show ¬ ((Int32.ofNat 1) = (Int32.ofNat 0)) from by decide) ?_
  refine wp_st 2 (f' := (39, [some (.ref (b)), some (.int (Int32.ofNat x)), some (.int (Int32.ofNat jv)), some (.int (Int32.ofNat 1)), none], [.int (Int32.ofNat 1), .int (Int32.ofNat 1)], A)) rfl ?_
  refine wp_ifT rfl rfl (show (Int32.ofNat 1) = (Int32.ofNat 1) from by decide) ?_
  refine wp_st 2 (f' := (73, [some (.ref (b)), some (.int (Int32.ofNat x)), some (.int (Int32.ofNat jv)), some (.int (Int32.ofNat 1)), none], [.int (Int32.ofNat 3), .ref (b)], A)) rfl ?_
  refine rw_pf (v := .int (Int32.ofNat 3)) h rfl rfl rfl rfl rfl rfl (fun A1 h2 f3 => ?_)
  have f4 := (sb_fr.refl A b (b + 38)).trans f3
  refine wp_rt rfl rfl rfl ?_
  exact ⟨rfl, h2, f4⟩
theorem ra_rw2 {d b x nv jv N : Nat} {nf cf : Nat → Int32} {bf : Nat → Bool} {lf : Nat → Int64} {s : rf_S} {A : am_H} (hd : 3 ≤ d) (hx9 : x < 192) (h9 : s 9 x = .int (Int32.ofNat N)) (hv : rf_vs s nv nf bf lf cf) (h : rf A b s) (hfd : rf_fd nf (Int32.ofNat N) nv 0 = some jv) (hjv : jv < 6) (h10 : s 10 x = .int (Int32.ofNat 2)) (h44 : s 44 jv = .int (Int32.ofNat 1)) : rf_go d 169 [.ref b, .int (Int32.ofNat x)] A b none (rf_u s 0 0 (.int (Int32.ofNat 3))) := by
  refine rf_of ?_
  refine wp_st 2 (f' := (2, [some (.ref (b)), some (.int (Int32.ofNat x)), none, none, none], [.ref (b), .ref (b)], A)) rfl ?_
  refine rw_gr h rfl rfl rfl rfl rfl rfl ?_
  refine wp_st 1 (f' := (6, [some (.ref (b)), some (.int (Int32.ofNat x)), none, none, none], [.int (Int32.ofNat x), .ref (b + 7), .ref (b)], A)) rfl ?_
  refine rw_al (j := 9) (n := x) (v := .int (Int32.ofNat N)) h rfl rfl rfl (Or.inl ⟨rfl, rfl⟩) rfl (show _ < 192 from by omega) (h9) rfl ?_
  refine wp_cv (A' := A) (v := some (.int (Int32.ofNat jv))) rfl rfl rfl rfl rfl (show _ from h.1) (by omega) (by have e := rn_fd (d := d - 1) (x := Int32.ofNat N) hv h; rw [hfd] at e; exact e) rfl ?_
  show am_wp d 169 (10, [some (.ref (b)), some (.int (Int32.ofNat x)), none, none, none], [.int (Int32.ofNat jv)], A) _
  refine wp_st 2 (f' := (12, [some (.ref (b)), some (.int (Int32.ofNat x)), some (.int (Int32.ofNat jv)), none, none], [.int (Int32.ofNat jv)], A)) rfl ?_
  refine wp_izT rfl rfl (Int32.not_lt.mp (Int32.ofNat_not_neg (by omega))) ?_
  refine wp_st 1 (f' := (22, [some (.ref (b)), some (.int (Int32.ofNat x)), some (.int (Int32.ofNat jv)), none, none], [.ref (b)], A)) rfl ?_
  refine rw_gr h rfl rfl rfl rfl rfl rfl ?_
  refine wp_st 1 (f' := (26, [some (.ref (b)), some (.int (Int32.ofNat x)), some (.int (Int32.ofNat jv)), none, none], [.int (Int32.ofNat x), .ref (b + 8)], A)) rfl ?_
  refine rw_al (j := 10) (n := x) (v := .int (Int32.ofNat 2)) h rfl rfl rfl (Or.inl ⟨rfl, rfl⟩) rfl (show _ < 192 from by omega) (h10) rfl ?_
  refine wp_st 2 (f' := (29, [some (.ref (b)), some (.int (Int32.ofNat x)), some (.int (Int32.ofNat jv)), some (.int (Int32.ofNat 2)), none], [.ref (b)], A)) rfl ?_
  refine rw_gr h rfl rfl rfl rfl rfl rfl ?_
  refine wp_st 1 (f' := (33, [some (.ref (b)), some (.int (Int32.ofNat x)), some (.int (Int32.ofNat jv)), some (.int (Int32.ofNat 2)), none], [.int (Int32.ofNat jv), .ref (b + 30)], A)) rfl ?_
  refine rw_al (j := 44) (n := jv) (v := .int (Int32.ofNat 1)) h rfl rfl rfl (Or.inr (Or.inr (Or.inr (Or.inl ⟨rfl, rfl⟩)))) rfl (show _ < 6 from by omega) (h44) rfl ?_
  refine wp_izF rfl rfl (show ¬ ((Int32.ofNat 1) = (Int32.ofNat 0)) from by decide) ?_
  refine wp_st 2 (f' := (39, [some (.ref (b)), some (.int (Int32.ofNat x)), some (.int (Int32.ofNat jv)), some (.int (Int32.ofNat 2)), none], [.int (Int32.ofNat 1), .int (Int32.ofNat 2)], A)) rfl ?_
  refine wp_ifF rfl rfl (show ¬ ((Int32.ofNat 2) = (Int32.ofNat 1)) from by decide) ?_
  refine wp_st 2 (f' := (44, [some (.ref (b)), some (.int (Int32.ofNat x)), some (.int (Int32.ofNat jv)), some (.int (Int32.ofNat 2)), none], [.int (Int32.ofNat 2), .int (Int32.ofNat 2)], A)) rfl ?_
  refine wp_ifT rfl rfl (show (Int32.ofNat 2) = (Int32.ofNat 2) from by decide) ?_
  refine wp_st 2 (f' := (73, [some (.ref (b)), some (.int (Int32.ofNat x)), some (.int (Int32.ofNat jv)), some (.int (Int32.ofNat 2)), none], [.int (Int32.ofNat 3), .ref (b)], A)) rfl ?_
  refine rw_pf (v := .int (Int32.ofNat 3)) h rfl rfl rfl rfl rfl rfl (fun A1 h2 f3 => ?_)
  have f4 := (sb_fr.refl A b (b + 38)).trans f3
  refine wp_rt rfl rfl rfl ?_
  exact ⟨rfl, h2, f4⟩
theorem ra_rw4 {d b x nv jv N : Nat} {nf cf : Nat → Int32} {bf : Nat → Bool} {lf : Nat → Int64} {s : rf_S} {A : am_H} (hd : 3 ≤ d) (hx9 : x < 192) (h9 : s 9 x = .int (Int32.ofNat N)) (hv : rf_vs s nv nf bf lf cf) (h : rf A b s) (hfd : rf_fd nf (Int32.ofNat N) nv 0 = some jv) (hjv : jv < 6) (h10 : s 10 x = .int (Int32.ofNat 4)) (h44 : s 44 jv = .int (Int32.ofNat 1)) : rf_go d 169 [.ref b, .int (Int32.ofNat x)] A b none (rf_u s 0 0 (.int (Int32.ofNat 3))) := by
  refine rf_of ?_
  refine wp_st 2 (f' := (2, [some (.ref (b)), some (.int (Int32.ofNat x)), none, none, none], [.ref (b), .ref (b)], A)) rfl ?_
  refine rw_gr h rfl rfl rfl rfl rfl rfl ?_
  refine wp_st 1 (f' := (6, [some (.ref (b)), some (.int (Int32.ofNat x)), none, none, none], [.int (Int32.ofNat x), .ref (b + 7), .ref (b)], A)) rfl ?_
  refine rw_al (j := 9) (n := x) (v := .int (Int32.ofNat N)) h rfl rfl rfl (Or.inl ⟨rfl, rfl⟩) rfl (show _ < 192 from by omega) (h9) rfl ?_
  refine wp_cv (A' := A) (v := some (.int (Int32.ofNat jv))) rfl rfl rfl rfl rfl (show _ from h.1) (by omega) (by have e := rn_fd (d := d - 1) (x := Int32.ofNat N) hv h; rw [hfd] at e; exact e) rfl ?_
  show am_wp d 169 (10, [some (.ref (b)), some (.int (Int32.ofNat x)), none, none, none], [.int (Int32.ofNat jv)], A) _
  refine wp_st 2 (f' := (12, [some (.ref (b)), some (.int (Int32.ofNat x)), some (.int (Int32.ofNat jv)), none, none], [.int (Int32.ofNat jv)], A)) rfl ?_
  refine wp_izT rfl rfl (Int32.not_lt.mp (Int32.ofNat_not_neg (by omega))) ?_
  refine wp_st 1 (f' := (22, [some (.ref (b)), some (.int (Int32.ofNat x)), some (.int (Int32.ofNat jv)), none, none], [.ref (b)], A)) rfl ?_
  refine rw_gr h rfl rfl rfl rfl rfl rfl ?_
  refine wp_st 1 (f' := (26, [some (.ref (b)), some (.int (Int32.ofNat x)), some (.int (Int32.ofNat jv)), none, none], [.int (Int32.ofNat x), .ref (b + 8)], A)) rfl ?_
  refine rw_al (j := 10) (n := x) (v := .int (Int32.ofNat 4)) h rfl rfl rfl (Or.inl ⟨rfl, rfl⟩) rfl (show _ < 192 from by omega) (h10) rfl ?_
  refine wp_st 2 (f' := (29, [some (.ref (b)), some (.int (Int32.ofNat x)), some (.int (Int32.ofNat jv)), some (.int (Int32.ofNat 4)), none], [.ref (b)], A)) rfl ?_
  refine rw_gr h rfl rfl rfl rfl rfl rfl ?_
  refine wp_st 1 (f' := (33, [some (.ref (b)), some (.int (Int32.ofNat x)), some (.int (Int32.ofNat jv)), some (.int (Int32.ofNat 4)), none], [.int (Int32.ofNat jv), .ref (b + 30)], A)) rfl ?_
  refine rw_al (j := 44) (n := jv) (v := .int (Int32.ofNat 1)) h rfl rfl rfl (Or.inr (Or.inr (Or.inr (Or.inl ⟨rfl, rfl⟩)))) rfl (show _ < 6 from by omega) (h44) rfl ?_
  refine wp_izF rfl rfl (show ¬ ((Int32.ofNat 1) = (Int32.ofNat 0)) from by decide) ?_
  refine wp_st 2 (f' := (39, [some (.ref (b)), some (.int (Int32.ofNat x)), some (.int (Int32.ofNat jv)), some (.int (Int32.ofNat 4)), none], [.int (Int32.ofNat 1), .int (Int32.ofNat 4)], A)) rfl ?_
  refine wp_ifF rfl rfl (show ¬ ((Int32.ofNat 4) = (Int32.ofNat 1)) from by decide) ?_
  refine wp_st 2 (f' := (44, [some (.ref (b)), some (.int (Int32.ofNat x)), some (.int (Int32.ofNat jv)), some (.int (Int32.ofNat 4)), none], [.int (Int32.ofNat 2), .int (Int32.ofNat 4)], A)) rfl ?_
  refine wp_ifF rfl rfl (show ¬ ((Int32.ofNat 4) = (Int32.ofNat 2)) from by decide) ?_
  refine wp_st 2 (f' := (49, [some (.ref (b)), some (.int (Int32.ofNat x)), some (.int (Int32.ofNat jv)), some (.int (Int32.ofNat 4)), none], [.int (Int32.ofNat 4), .int (Int32.ofNat 4)], A)) rfl ?_
  refine wp_ifT rfl rfl (show (Int32.ofNat 4) = (Int32.ofNat 4) from by decide) ?_
  refine wp_st 2 (f' := (73, [some (.ref (b)), some (.int (Int32.ofNat x)), some (.int (Int32.ofNat jv)), some (.int (Int32.ofNat 4)), none], [.int (Int32.ofNat 3), .ref (b)], A)) rfl ?_
  refine rw_pf (v := .int (Int32.ofNat 3)) h rfl rfl rfl rfl rfl rfl (fun A1 h2 f3 => ?_)
  have f4 := (sb_fr.refl A b (b + 38)).trans f3
  refine wp_rt rfl rfl rfl ?_
  exact ⟨rfl, h2, f4⟩
theorem ra_rw5 {d b x nv jv N : Nat} {nf cf : Nat → Int32} {bf : Nat → Bool} {lf : Nat → Int64} {s : rf_S} {A : am_H} (hd : 3 ≤ d) (hx9 : x < 192) (h9 : s 9 x = .int (Int32.ofNat N)) (hv : rf_vs s nv nf bf lf cf) (h : rf A b s) (hfd : rf_fd nf (Int32.ofNat N) nv 0 = some jv) (hjv : jv < 6) (h10 : s 10 x = .int (Int32.ofNat 5)) (h44 : s 44 jv = .int (Int32.ofNat 1)) : rf_go d 169 [.ref b, .int (Int32.ofNat x)] A b none (rf_u s 0 0 (.int (Int32.ofNat 3))) := by
  refine rf_of ?_
  refine wp_st 2 (f' := (2, [some (.ref (b)), some (.int (Int32.ofNat x)), none, none, none], [.ref (b), .ref (b)], A)) rfl ?_
  refine rw_gr h rfl rfl rfl rfl rfl rfl ?_
  refine wp_st 1 (f' := (6, [some (.ref (b)), some (.int (Int32.ofNat x)), none, none, none], [.int (Int32.ofNat x), .ref (b + 7), .ref (b)], A)) rfl ?_
  refine rw_al (j := 9) (n := x) (v := .int (Int32.ofNat N)) h rfl rfl rfl (Or.inl ⟨rfl, rfl⟩) rfl (show _ < 192 from by omega) (h9) rfl ?_
  refine wp_cv (A' := A) (v := some (.int (Int32.ofNat jv))) rfl rfl rfl rfl rfl (show _ from h.1) (by omega) (by have e := rn_fd (d := d - 1) (x := Int32.ofNat N) hv h; rw [hfd] at e; exact e) rfl ?_
  show am_wp d 169 (10, [some (.ref (b)), some (.int (Int32.ofNat x)), none, none, none], [.int (Int32.ofNat jv)], A) _
  refine wp_st 2 (f' := (12, [some (.ref (b)), some (.int (Int32.ofNat x)), some (.int (Int32.ofNat jv)), none, none], [.int (Int32.ofNat jv)], A)) rfl ?_
  refine wp_izT rfl rfl (Int32.not_lt.mp (Int32.ofNat_not_neg (by omega))) ?_
  refine wp_st 1 (f' := (22, [some (.ref (b)), some (.int (Int32.ofNat x)), some (.int (Int32.ofNat jv)), none, none], [.ref (b)], A)) rfl ?_
  refine rw_gr h rfl rfl rfl rfl rfl rfl ?_
  refine wp_st 1 (f' := (26, [some (.ref (b)), some (.int (Int32.ofNat x)), some (.int (Int32.ofNat jv)), none, none], [.int (Int32.ofNat x), .ref (b + 8)], A)) rfl ?_
  refine rw_al (j := 10) (n := x) (v := .int (Int32.ofNat 5)) h rfl rfl rfl (Or.inl ⟨rfl, rfl⟩) rfl (show _ < 192 from by omega) (h10) rfl ?_
  refine wp_st 2 (f' := (29, [some (.ref (b)), some (.int (Int32.ofNat x)), some (.int (Int32.ofNat jv)), some (.int (Int32.ofNat 5)), none], [.ref (b)], A)) rfl ?_
  refine rw_gr h rfl rfl rfl rfl rfl rfl ?_
  refine wp_st 1 (f' := (33, [some (.ref (b)), some (.int (Int32.ofNat x)), some (.int (Int32.ofNat jv)), some (.int (Int32.ofNat 5)), none], [.int (Int32.ofNat jv), .ref (b + 30)], A)) rfl ?_
  refine rw_al (j := 44) (n := jv) (v := .int (Int32.ofNat 1)) h rfl rfl rfl (Or.inr (Or.inr (Or.inr (Or.inl ⟨rfl, rfl⟩)))) rfl (show _ < 6 from by omega) (h44) rfl ?_
  refine wp_izF rfl rfl (show ¬ ((Int32.ofNat 1) = (Int32.ofNat 0)) from by decide) ?_
  refine wp_st 2 (f' := (39, [some (.ref (b)), some (.int (Int32.ofNat x)), some (.int (Int32.ofNat jv)), some (.int (Int32.ofNat 5)), none], [.int (Int32.ofNat 1), .int (Int32.ofNat 5)], A)) rfl ?_
  refine wp_ifF rfl rfl (show ¬ ((Int32.ofNat 5) = (Int32.ofNat 1)) from by decide) ?_
  refine wp_st 2 (f' := (44, [some (.ref (b)), some (.int (Int32.ofNat x)), some (.int (Int32.ofNat jv)), some (.int (Int32.ofNat 5)), none], [.int (Int32.ofNat 2), .int (Int32.ofNat 5)], A)) rfl ?_
  refine wp_ifF rfl rfl (show ¬ ((Int32.ofNat 5) = (Int32.ofNat 2)) from by decide) ?_
  refine wp_st 2 (f' := (49, [some (.ref (b)), some (.int (Int32.ofNat x)), some (.int (Int32.ofNat jv)), some (.int (Int32.ofNat 5)), none], [.int (Int32.ofNat 4), .int (Int32.ofNat 5)], A)) rfl ?_
  refine wp_ifF rfl rfl (show ¬ ((Int32.ofNat 5) = (Int32.ofNat 4)) from by decide) ?_
  refine wp_st 2 (f' := (54, [some (.ref (b)), some (.int (Int32.ofNat x)), some (.int (Int32.ofNat jv)), some (.int (Int32.ofNat 5)), none], [.int (Int32.ofNat 5), .int (Int32.ofNat 5)], A)) rfl ?_
  refine wp_ifT rfl rfl (show (Int32.ofNat 5) = (Int32.ofNat 5) from by decide) ?_
  refine wp_st 2 (f' := (73, [some (.ref (b)), some (.int (Int32.ofNat x)), some (.int (Int32.ofNat jv)), some (.int (Int32.ofNat 5)), none], [.int (Int32.ofNat 3), .ref (b)], A)) rfl ?_
  refine rw_pf (v := .int (Int32.ofNat 3)) h rfl rfl rfl rfl rfl rfl (fun A1 h2 f3 => ?_)
  have f4 := (sb_fr.refl A b (b + 38)).trans f3
  refine wp_rt rfl rfl rfl ?_
  exact ⟨rfl, h2, f4⟩
theorem ra_rh {d b x nv jv N : Nat} {nf cf : Nat → Int32} {bf : Nat → Bool} {lf : Nat → Int64} {s : rf_S} {A : am_H} {k0 : Nat} (hd : 3 ≤ d) (hx9 : x < 192) (h9 : s 9 x = .int (Int32.ofNat N)) (hv : rf_vs s nv nf bf lf cf) (h : rf A b s) (hfd : rf_fd nf (Int32.ofNat N) nv 0 = some jv) (hjv : jv < 6) (h10 : s 10 x = .int (Int32.ofNat 2)) (h44 : s 44 jv = .int (Int32.ofNat 0)) (h46 : s 46 jv = .int (Int32.ofNat k0)) (hk0 : k0 ≤ 6) (hk1 : 0 < k0) : rf_go d 169 [.ref b, .int (Int32.ofNat x)] A b none (rf_u s 0 0 (.int (Int32.ofNat 3))) := by
  refine rf_of ?_
  refine wp_st 2 (f' := (2, [some (.ref (b)), some (.int (Int32.ofNat x)), none, none, none], [.ref (b), .ref (b)], A)) rfl ?_
  refine rw_gr h rfl rfl rfl rfl rfl rfl ?_
  refine wp_st 1 (f' := (6, [some (.ref (b)), some (.int (Int32.ofNat x)), none, none, none], [.int (Int32.ofNat x), .ref (b + 7), .ref (b)], A)) rfl ?_
  refine rw_al (j := 9) (n := x) (v := .int (Int32.ofNat N)) h rfl rfl rfl (Or.inl ⟨rfl, rfl⟩) rfl (show _ < 192 from by omega) (h9) rfl ?_
  refine wp_cv (A' := A) (v := some (.int (Int32.ofNat jv))) rfl rfl rfl rfl rfl (show _ from h.1) (by omega) (by have e := rn_fd (d := d - 1) (x := Int32.ofNat N) hv h; rw [hfd] at e; exact e) rfl ?_
  show am_wp d 169 (10, [some (.ref (b)), some (.int (Int32.ofNat x)), none, none, none], [.int (Int32.ofNat jv)], A) _
  refine wp_st 2 (f' := (12, [some (.ref (b)), some (.int (Int32.ofNat x)), some (.int (Int32.ofNat jv)), none, none], [.int (Int32.ofNat jv)], A)) rfl ?_
  refine wp_izT rfl rfl (Int32.not_lt.mp (Int32.ofNat_not_neg (by omega))) ?_
  refine wp_st 1 (f' := (22, [some (.ref (b)), some (.int (Int32.ofNat x)), some (.int (Int32.ofNat jv)), none, none], [.ref (b)], A)) rfl ?_
  refine rw_gr h rfl rfl rfl rfl rfl rfl ?_
  refine wp_st 1 (f' := (26, [some (.ref (b)), some (.int (Int32.ofNat x)), some (.int (Int32.ofNat jv)), none, none], [.int (Int32.ofNat x), .ref (b + 8)], A)) rfl ?_
  refine rw_al (j := 10) (n := x) (v := .int (Int32.ofNat 2)) h rfl rfl rfl (Or.inl ⟨rfl, rfl⟩) rfl (show _ < 192 from by omega) (h10) rfl ?_
  refine wp_st 2 (f' := (29, [some (.ref (b)), some (.int (Int32.ofNat x)), some (.int (Int32.ofNat jv)), some (.int (Int32.ofNat 2)), none], [.ref (b)], A)) rfl ?_
  refine rw_gr h rfl rfl rfl rfl rfl rfl ?_
  refine wp_st 1 (f' := (33, [some (.ref (b)), some (.int (Int32.ofNat x)), some (.int (Int32.ofNat jv)), some (.int (Int32.ofNat 2)), none], [.int (Int32.ofNat jv), .ref (b + 30)], A)) rfl ?_
  refine rw_al (j := 44) (n := jv) (v := .int (Int32.ofNat 0)) h rfl rfl rfl (Or.inr (Or.inr (Or.inr (Or.inl ⟨rfl, rfl⟩)))) rfl (show _ < 6 from by omega) (h44) rfl ?_
  refine wp_izT rfl rfl (show (Int32.ofNat 0) = (Int32.ofNat 0) from by decide) ?_
  refine wp_st 2 (f' := (59, [some (.ref (b)), some (.int (Int32.ofNat x)), some (.int (Int32.ofNat jv)), some (.int (Int32.ofNat 2)), none], [.int (Int32.ofNat 2), .int (Int32.ofNat 2)], A)) rfl ?_
  refine wp_ifF rfl rfl (show ¬ ((Int32.ofNat 2) ≠ (Int32.ofNat 2)) from by decide) ?_
  refine wp_st 1 (f' := (63, [some (.ref (b)), some (.int (Int32.ofNat x)), some (.int (Int32.ofNat jv)), some (.int (Int32.ofNat 2)), none], [.ref (b)], A)) rfl ?_
  refine rw_gr h rfl rfl rfl rfl rfl rfl ?_
  refine wp_st 1 (f' := (67, [some (.ref (b)), some (.int (Int32.ofNat x)), some (.int (Int32.ofNat jv)), some (.int (Int32.ofNat 2)), none], [.int (Int32.ofNat jv), .ref (b + 32)], A)) rfl ?_
  refine rw_al (j := 46) (n := jv) (v := .int (Int32.ofNat k0)) h rfl rfl rfl (Or.inl ⟨rfl, rfl⟩) rfl (show _ < 6 from by omega) (h46) rfl ?_
  refine wp_izF rfl rfl (fun q => absurd ((i32_le (a := k0) (b := 0) (by omega) (by omega)).mp q) (by omega)) ?_
  refine wp_st 2 (f' := (73, [some (.ref (b)), some (.int (Int32.ofNat x)), some (.int (Int32.ofNat jv)), some (.int (Int32.ofNat 2)), none], [.int (Int32.ofNat 3), .ref (b)], A)) rfl ?_
  refine rw_pf (v := .int (Int32.ofNat 3)) h rfl rfl rfl rfl rfl rfl (fun A1 h2 f3 => ?_)
  have f4 := (sb_fr.refl A b (b + 38)).trans f3
  refine wp_rt rfl rfl rfl ?_
  exact ⟨rfl, h2, f4⟩
theorem ra_w0 {d b x nv jv N : Nat} {nf cf : Nat → Int32} {bf : Nat → Bool} {lf : Nat → Int64} {s : rf_S} {A : am_H} {NN : Nat} {X : Option (List Nat)} (hd : 3 ≤ d) (hx9 : x < 192) (h9 : s 9 x = .int (Int32.ofNat N)) (hv : rf_vs s nv nf bf lf cf) (h : rf A b s) (hfd : rf_fd nf (Int32.ofNat N) nv 0 = some jv) (hjv : jv < 6) (h10 : s 10 x = .int (Int32.ofNat 0)) (h44 : s 44 jv = .int (Int32.ofNat 1)) (hNN : NN < 2147483648) (h45 : s 45 jv = .long (Int64.ofNat NN)) (hx : rf_wx s X) : rf_wg d 169 [.ref b, .int (Int32.ofNat x)] A b s X (rf_wd NN false 4) := by
  refine wp_goW ?_
  refine wp_st 2 (f' := (2, [some (.ref (b)), some (.int (Int32.ofNat x)), none, none, none], [.ref (b), .ref (b)], A)) rfl ?_
  refine rw_gr h rfl rfl rfl rfl rfl rfl ?_
  refine wp_st 1 (f' := (6, [some (.ref (b)), some (.int (Int32.ofNat x)), none, none, none], [.int (Int32.ofNat x), .ref (b + 7), .ref (b)], A)) rfl ?_
  refine rw_al (j := 9) (n := x) (v := .int (Int32.ofNat N)) h rfl rfl rfl (Or.inl ⟨rfl, rfl⟩) rfl (show _ < 192 from by omega) (h9) rfl ?_
  refine wp_cv (A' := A) (v := some (.int (Int32.ofNat jv))) rfl rfl rfl rfl rfl (show _ from h.1) (by omega) (by have e := rn_fd (d := d - 1) (x := Int32.ofNat N) hv h; rw [hfd] at e; exact e) rfl ?_
  show am_wp d 169 (10, [some (.ref (b)), some (.int (Int32.ofNat x)), none, none, none], [.int (Int32.ofNat jv)], A) _
  refine wp_st 2 (f' := (12, [some (.ref (b)), some (.int (Int32.ofNat x)), some (.int (Int32.ofNat jv)), none, none], [.int (Int32.ofNat jv)], A)) rfl ?_
  refine wp_izT rfl rfl (Int32.not_lt.mp (Int32.ofNat_not_neg (by omega))) ?_
  refine wp_st 1 (f' := (22, [some (.ref (b)), some (.int (Int32.ofNat x)), some (.int (Int32.ofNat jv)), none, none], [.ref (b)], A)) rfl ?_
  refine rw_gr h rfl rfl rfl rfl rfl rfl ?_
  refine wp_st 1 (f' := (26, [some (.ref (b)), some (.int (Int32.ofNat x)), some (.int (Int32.ofNat jv)), none, none], [.int (Int32.ofNat x), .ref (b + 8)], A)) rfl ?_
  refine rw_al (j := 10) (n := x) (v := .int (Int32.ofNat 0)) h rfl rfl rfl (Or.inl ⟨rfl, rfl⟩) rfl (show _ < 192 from by omega) (h10) rfl ?_
  refine wp_st 2 (f' := (29, [some (.ref (b)), some (.int (Int32.ofNat x)), some (.int (Int32.ofNat jv)), some (.int (Int32.ofNat 0)), none], [.ref (b)], A)) rfl ?_
  refine rw_gr h rfl rfl rfl rfl rfl rfl ?_
  refine wp_st 1 (f' := (33, [some (.ref (b)), some (.int (Int32.ofNat x)), some (.int (Int32.ofNat jv)), some (.int (Int32.ofNat 0)), none], [.int (Int32.ofNat jv), .ref (b + 30)], A)) rfl ?_
  refine rw_al (j := 44) (n := jv) (v := .int (Int32.ofNat 1)) h rfl rfl rfl (Or.inr (Or.inr (Or.inr (Or.inl ⟨rfl, rfl⟩)))) rfl (show _ < 6 from by omega) (h44) rfl ?_
  refine wp_izF rfl rfl (show ¬ ((Int32.ofNat 1) = (Int32.ofNat 0)) from by decide) ?_
  refine wp_st 2 (f' := (39, [some (.ref (b)), some (.int (Int32.ofNat x)), some (.int (Int32.ofNat jv)), some (.int (Int32.ofNat 0)), none], [.int (Int32.ofNat 1), .int (Int32.ofNat 0)], A)) rfl ?_
  refine wp_ifF rfl rfl (show ¬ ((Int32.ofNat 0) = (Int32.ofNat 1)) from by decide) ?_
  refine wp_st 2 (f' := (44, [some (.ref (b)), some (.int (Int32.ofNat x)), some (.int (Int32.ofNat jv)), some (.int (Int32.ofNat 0)), none], [.int (Int32.ofNat 2), .int (Int32.ofNat 0)], A)) rfl ?_
  refine wp_ifF rfl rfl (show ¬ ((Int32.ofNat 0) = (Int32.ofNat 2)) from by decide) ?_
  refine wp_st 2 (f' := (49, [some (.ref (b)), some (.int (Int32.ofNat x)), some (.int (Int32.ofNat jv)), some (.int (Int32.ofNat 0)), none], [.int (Int32.ofNat 4), .int (Int32.ofNat 0)], A)) rfl ?_
  refine wp_ifF rfl rfl (show ¬ ((Int32.ofNat 0) = (Int32.ofNat 4)) from by decide) ?_
  refine wp_st 2 (f' := (54, [some (.ref (b)), some (.int (Int32.ofNat x)), some (.int (Int32.ofNat jv)), some (.int (Int32.ofNat 0)), none], [.int (Int32.ofNat 5), .int (Int32.ofNat 0)], A)) rfl ?_
  refine wp_ifF rfl rfl (show ¬ ((Int32.ofNat 0) = (Int32.ofNat 5)) from by decide) ?_
  refine wp_st 2 (f' := (59, [some (.ref (b)), some (.int (Int32.ofNat x)), some (.int (Int32.ofNat jv)), some (.int (Int32.ofNat 0)), none], [.int (Int32.ofNat 2), .int (Int32.ofNat 0)], A)) rfl ?_
  refine wp_ifT rfl rfl (show (Int32.ofNat 0) ≠ (Int32.ofNat 2) from by decide) ?_
  refine wp_st 2 (f' := (79, [some (.ref (b)), some (.int (Int32.ofNat x)), some (.int (Int32.ofNat jv)), some (.int (Int32.ofNat 0)), none], [.int (Int32.ofNat 4), .int (Int32.ofNat 0)], A)) rfl ?_
  refine wp_ifT rfl (show am_tgt 79 (88) = 167 by decide +kernel) (show (Int32.ofNat 0) < (Int32.ofNat 4) from by decide) ?_
  refine wp_st 1 (f' := (168, [some (.ref (b)), some (.int (Int32.ofNat x)), some (.int (Int32.ofNat jv)), some (.int (Int32.ofNat 0)), none], [.ref (b)], A)) rfl ?_
  refine rw_gr h rfl rfl rfl rfl rfl rfl ?_
  refine wp_st 1 (f' := (172, [some (.ref (b)), some (.int (Int32.ofNat x)), some (.int (Int32.ofNat jv)), some (.int (Int32.ofNat 0)), none], [.int (Int32.ofNat jv), .ref (b + 30)], A)) rfl ?_
  refine rw_al (j := 44) (n := jv) (v := .int (Int32.ofNat 1)) h rfl rfl rfl (Or.inr (Or.inr (Or.inr (Or.inl ⟨rfl, rfl⟩)))) rfl (show _ < 6 from by omega) (h44) rfl ?_
  refine wp_izF rfl rfl (show ¬ ((Int32.ofNat 1) = (Int32.ofNat 0)) from by decide) ?_
  refine wp_st 2 (f' := (178, [some (.ref (b)), some (.int (Int32.ofNat x)), some (.int (Int32.ofNat jv)), some (.int (Int32.ofNat 0)), none], [.ref (b), .ref (b)], A)) rfl ?_
  refine rw_gr h rfl rfl rfl rfl rfl rfl ?_
  refine wp_st 1 (f' := (182, [some (.ref (b)), some (.int (Int32.ofNat x)), some (.int (Int32.ofNat jv)), some (.int (Int32.ofNat 0)), none], [.int (Int32.ofNat jv), .ref (b + 31), .ref (b)], A)) rfl ?_
  refine rw_al (j := 45) (n := jv) (v := .long (Int64.ofNat NN)) h rfl rfl rfl (Or.inr (Or.inl ⟨rfl, rfl⟩)) rfl (show _ < 6 from by omega) (h45) rfl ?_
  refine wp_st 2 (f' := (185, [some (.ref (b)), some (.int (Int32.ofNat x)), some (.int (Int32.ofNat jv)), some (.int (Int32.ofNat 0)), none], [.int (Int32.ofNat 3), .int (Int32.ofNat 0), .long (Int64.ofNat NN), .ref (b)], A)) rfl ?_
  refine wp_ifT rfl rfl (show (Int32.ofNat 0) ≠ (Int32.ofNat 3) from by decide) ?_
  refine wp_st 1 (f' := (193, [some (.ref (b)), some (.int (Int32.ofNat x)), some (.int (Int32.ofNat jv)), some (.int (Int32.ofNat 0)), none], [.int (Int32.ofNat 0), .long (Int64.ofNat NN), .ref (b)], A)) rfl ?_
  obtain ⟨A1, t2, g3, h4, x5, k6, f7⟩ := (show rf_wg (d - 1) 174 [.ref b, .long (Int64.ofNat NN), .int (Int32.ofNat 0)] A b s X (rf_wd NN false 4) from rw_word (up := false) (by omega) (by omega) hx h)
  have f8 := (sb_fr.refl A b (b + 38)).trans f7
  have k9 := (rf_wk.refl s).trans k6
  refine wp_cv (A' := A1) (v := none) rfl rfl rfl rfl rfl (show _ from h.1) (by omega) (g3) rfl ?_
  show am_wp d 169 (196, [some (.ref (b)), some (.int (Int32.ofNat x)), some (.int (Int32.ofNat jv)), some (.int (Int32.ofNat 0)), none], [], A1) _
  refine wp_st 1 (f' := (243, [some (.ref (b)), some (.int (Int32.ofNat x)), some (.int (Int32.ofNat jv)), some (.int (Int32.ofNat 0)), none], [], A1)) rfl ?_
  refine wp_rt rfl rfl rfl ?_
  exact ⟨rfl, _, h4, x5, k9, f8⟩
theorem ra_w3 {d b x nv jv N : Nat} {nf cf : Nat → Int32} {bf : Nat → Bool} {lf : Nat → Int64} {s : rf_S} {A : am_H} {NN : Nat} {X : Option (List Nat)} (hd : 3 ≤ d) (hx9 : x < 192) (h9 : s 9 x = .int (Int32.ofNat N)) (hv : rf_vs s nv nf bf lf cf) (h : rf A b s) (hfd : rf_fd nf (Int32.ofNat N) nv 0 = some jv) (hjv : jv < 6) (h10 : s 10 x = .int (Int32.ofNat 3)) (h44 : s 44 jv = .int (Int32.ofNat 1)) (hNN : NN < 2147483648) (h45 : s 45 jv = .long (Int64.ofNat NN)) (hx : rf_wx s X) : rf_wg d 169 [.ref b, .int (Int32.ofNat x)] A b s X (rf_wd NN true 4) := by
  refine wp_goW ?_
  refine wp_st 2 (f' := (2, [some (.ref (b)), some (.int (Int32.ofNat x)), none, none, none], [.ref (b), .ref (b)], A)) rfl ?_
  refine rw_gr h rfl rfl rfl rfl rfl rfl ?_
  refine wp_st 1 (f' := (6, [some (.ref (b)), some (.int (Int32.ofNat x)), none, none, none], [.int (Int32.ofNat x), .ref (b + 7), .ref (b)], A)) rfl ?_
  refine rw_al (j := 9) (n := x) (v := .int (Int32.ofNat N)) h rfl rfl rfl (Or.inl ⟨rfl, rfl⟩) rfl (show _ < 192 from by omega) (h9) rfl ?_
  refine wp_cv (A' := A) (v := some (.int (Int32.ofNat jv))) rfl rfl rfl rfl rfl (show _ from h.1) (by omega) (by have e := rn_fd (d := d - 1) (x := Int32.ofNat N) hv h; rw [hfd] at e; exact e) rfl ?_
  show am_wp d 169 (10, [some (.ref (b)), some (.int (Int32.ofNat x)), none, none, none], [.int (Int32.ofNat jv)], A) _
  refine wp_st 2 (f' := (12, [some (.ref (b)), some (.int (Int32.ofNat x)), some (.int (Int32.ofNat jv)), none, none], [.int (Int32.ofNat jv)], A)) rfl ?_
  refine wp_izT rfl rfl (Int32.not_lt.mp (Int32.ofNat_not_neg (by omega))) ?_
  refine wp_st 1 (f' := (22, [some (.ref (b)), some (.int (Int32.ofNat x)), some (.int (Int32.ofNat jv)), none, none], [.ref (b)], A)) rfl ?_
  refine rw_gr h rfl rfl rfl rfl rfl rfl ?_
  refine wp_st 1 (f' := (26, [some (.ref (b)), some (.int (Int32.ofNat x)), some (.int (Int32.ofNat jv)), none, none], [.int (Int32.ofNat x), .ref (b + 8)], A)) rfl ?_
  refine rw_al (j := 10) (n := x) (v := .int (Int32.ofNat 3)) h rfl rfl rfl (Or.inl ⟨rfl, rfl⟩) rfl (show _ < 192 from by omega) (h10) rfl ?_
  refine wp_st 2 (f' := (29, [some (.ref (b)), some (.int (Int32.ofNat x)), some (.int (Int32.ofNat jv)), some (.int (Int32.ofNat 3)), none], [.ref (b)], A)) rfl ?_
  refine rw_gr h rfl rfl rfl rfl rfl rfl ?_
  refine wp_st 1 (f' := (33, [some (.ref (b)), some (.int (Int32.ofNat x)), some (.int (Int32.ofNat jv)), some (.int (Int32.ofNat 3)), none], [.int (Int32.ofNat jv), .ref (b + 30)], A)) rfl ?_
  refine rw_al (j := 44) (n := jv) (v := .int (Int32.ofNat 1)) h rfl rfl rfl (Or.inr (Or.inr (Or.inr (Or.inl ⟨rfl, rfl⟩)))) rfl (show _ < 6 from by omega) (h44) rfl ?_
  refine wp_izF rfl rfl (show ¬ ((Int32.ofNat 1) = (Int32.ofNat 0)) from by decide) ?_
  refine wp_st 2 (f' := (39, [some (.ref (b)), some (.int (Int32.ofNat x)), some (.int (Int32.ofNat jv)), some (.int (Int32.ofNat 3)), none], [.int (Int32.ofNat 1), .int (Int32.ofNat 3)], A)) rfl ?_
  refine wp_ifF rfl rfl (show ¬ ((Int32.ofNat 3) = (Int32.ofNat 1)) from by decide) ?_
  refine wp_st 2 (f' := (44, [some (.ref (b)), some (.int (Int32.ofNat x)), some (.int (Int32.ofNat jv)), some (.int (Int32.ofNat 3)), none], [.int (Int32.ofNat 2), .int (Int32.ofNat 3)], A)) rfl ?_
  refine wp_ifF rfl rfl (show ¬ ((Int32.ofNat 3) = (Int32.ofNat 2)) from by decide) ?_
  refine wp_st 2 (f' := (49, [some (.ref (b)), some (.int (Int32.ofNat x)), some (.int (Int32.ofNat jv)), some (.int (Int32.ofNat 3)), none], [.int (Int32.ofNat 4), .int (Int32.ofNat 3)], A)) rfl ?_
  refine wp_ifF rfl rfl (show ¬ ((Int32.ofNat 3) = (Int32.ofNat 4)) from by decide) ?_
  refine wp_st 2 (f' := (54, [some (.ref (b)), some (.int (Int32.ofNat x)), some (.int (Int32.ofNat jv)), some (.int (Int32.ofNat 3)), none], [.int (Int32.ofNat 5), .int (Int32.ofNat 3)], A)) rfl ?_
  refine wp_ifF rfl rfl (show ¬ ((Int32.ofNat 3) = (Int32.ofNat 5)) from by decide) ?_
  refine wp_st 2 (f' := (59, [some (.ref (b)), some (.int (Int32.ofNat x)), some (.int (Int32.ofNat jv)), some (.int (Int32.ofNat 3)), none], [.int (Int32.ofNat 2), .int (Int32.ofNat 3)], A)) rfl ?_
  refine wp_ifT rfl rfl (show (Int32.ofNat 3) ≠ (Int32.ofNat 2) from by decide) ?_
  refine wp_st 2 (f' := (79, [some (.ref (b)), some (.int (Int32.ofNat x)), some (.int (Int32.ofNat jv)), some (.int (Int32.ofNat 3)), none], [.int (Int32.ofNat 4), .int (Int32.ofNat 3)], A)) rfl ?_
  refine wp_ifT rfl (show am_tgt 79 (88) = 167 by decide +kernel) (show (Int32.ofNat 3) < (Int32.ofNat 4) from by decide) ?_
  refine wp_st 1 (f' := (168, [some (.ref (b)), some (.int (Int32.ofNat x)), some (.int (Int32.ofNat jv)), some (.int (Int32.ofNat 3)), none], [.ref (b)], A)) rfl ?_
  refine rw_gr h rfl rfl rfl rfl rfl rfl ?_
  refine wp_st 1 (f' := (172, [some (.ref (b)), some (.int (Int32.ofNat x)), some (.int (Int32.ofNat jv)), some (.int (Int32.ofNat 3)), none], [.int (Int32.ofNat jv), .ref (b + 30)], A)) rfl ?_
  refine rw_al (j := 44) (n := jv) (v := .int (Int32.ofNat 1)) h rfl rfl rfl (Or.inr (Or.inr (Or.inr (Or.inl ⟨rfl, rfl⟩)))) rfl (show _ < 6 from by omega) (h44) rfl ?_
  refine wp_izF rfl rfl (show ¬ ((Int32.ofNat 1) = (Int32.ofNat 0)) from by decide) ?_
  refine wp_st 2 (f' := (178, [some (.ref (b)), some (.int (Int32.ofNat x)), some (.int (Int32.ofNat jv)), some (.int (Int32.ofNat 3)), none], [.ref (b), .ref (b)], A)) rfl ?_
  refine rw_gr h rfl rfl rfl rfl rfl rfl ?_
  refine wp_st 1 (f' := (182, [some (.ref (b)), some (.int (Int32.ofNat x)), some (.int (Int32.ofNat jv)), some (.int (Int32.ofNat 3)), none], [.int (Int32.ofNat jv), .ref (b + 31), .ref (b)], A)) rfl ?_
  refine rw_al (j := 45) (n := jv) (v := .long (Int64.ofNat NN)) h rfl rfl rfl (Or.inr (Or.inl ⟨rfl, rfl⟩)) rfl (show _ < 6 from by omega) (h45) rfl ?_
  refine wp_st 2 (f' := (185, [some (.ref (b)), some (.int (Int32.ofNat x)), some (.int (Int32.ofNat jv)), some (.int (Int32.ofNat 3)), none], [.int (Int32.ofNat 3), .int (Int32.ofNat 3), .long (Int64.ofNat NN), .ref (b)], A)) rfl ?_
  refine wp_ifF rfl rfl (show ¬ ((Int32.ofNat 3) ≠ (Int32.ofNat 3)) from by decide) ?_
  refine wp_st 2 (f' := (193, [some (.ref (b)), some (.int (Int32.ofNat x)), some (.int (Int32.ofNat jv)), some (.int (Int32.ofNat 3)), none], [.int (Int32.ofNat 1), .long (Int64.ofNat NN), .ref (b)], A)) rfl ?_
  obtain ⟨A1, t2, g3, h4, x5, k6, f7⟩ := (show rf_wg (d - 1) 174 [.ref b, .long (Int64.ofNat NN), .int (Int32.ofNat 1)] A b s X (rf_wd NN true 4) from rw_word (up := true) (by omega) (by omega) hx h)
  have f8 := (sb_fr.refl A b (b + 38)).trans f7
  have k9 := (rf_wk.refl s).trans k6
  refine wp_cv (A' := A1) (v := none) rfl rfl rfl rfl rfl (show _ from h.1) (by omega) (g3) rfl ?_
  show am_wp d 169 (196, [some (.ref (b)), some (.int (Int32.ofNat x)), some (.int (Int32.ofNat jv)), some (.int (Int32.ofNat 3)), none], [], A1) _
  refine wp_st 1 (f' := (243, [some (.ref (b)), some (.int (Int32.ofNat x)), some (.int (Int32.ofNat jv)), some (.int (Int32.ofNat 3)), none], [], A1)) rfl ?_
  refine wp_rt rfl rfl rfl ?_
  exact ⟨rfl, _, h4, x5, k9, f8⟩
theorem ra_n0 {d b x nv jv N : Nat} {nf cf : Nat → Int32} {bf : Nat → Bool} {lf : Nat → Int64} {s : rf_S} {A : am_H} {k0 : Nat} {z : Int} {X : Option (List Nat)} (hd : 3 ≤ d) (hx9 : x < 192) (h9 : s 9 x = .int (Int32.ofNat N)) (hv : rf_vs s nv nf bf lf cf) (h : rf A b s) (hfd : rf_fd nf (Int32.ofNat N) nv 0 = some jv) (hjv : jv < 6) (h10 : s 10 x = .int (Int32.ofNat 0)) (h44 : s 44 jv = .int (Int32.ofNat 0)) (hk0 : k0 ≤ 6) (hz : z.natAbs < 10 ^ 18) (h45 : s 45 jv = .long (Int64.ofInt z)) (h46 : s 46 jv = .int (Int32.ofNat k0)) (hx : rf_wx s X) : rf_wg d 169 [.ref b, .int (Int32.ofNat x)] A b s X (wr_dg z k0 false) := by
  refine wp_goW ?_
  refine wp_st 2 (f' := (2, [some (.ref (b)), some (.int (Int32.ofNat x)), none, none, none], [.ref (b), .ref (b)], A)) rfl ?_
  refine rw_gr h rfl rfl rfl rfl rfl rfl ?_
  refine wp_st 1 (f' := (6, [some (.ref (b)), some (.int (Int32.ofNat x)), none, none, none], [.int (Int32.ofNat x), .ref (b + 7), .ref (b)], A)) rfl ?_
  refine rw_al (j := 9) (n := x) (v := .int (Int32.ofNat N)) h rfl rfl rfl (Or.inl ⟨rfl, rfl⟩) rfl (show _ < 192 from by omega) (h9) rfl ?_
  refine wp_cv (A' := A) (v := some (.int (Int32.ofNat jv))) rfl rfl rfl rfl rfl (show _ from h.1) (by omega) (by have e := rn_fd (d := d - 1) (x := Int32.ofNat N) hv h; rw [hfd] at e; exact e) rfl ?_
  show am_wp d 169 (10, [some (.ref (b)), some (.int (Int32.ofNat x)), none, none, none], [.int (Int32.ofNat jv)], A) _
  refine wp_st 2 (f' := (12, [some (.ref (b)), some (.int (Int32.ofNat x)), some (.int (Int32.ofNat jv)), none, none], [.int (Int32.ofNat jv)], A)) rfl ?_
  refine wp_izT rfl rfl (Int32.not_lt.mp (Int32.ofNat_not_neg (by omega))) ?_
  refine wp_st 1 (f' := (22, [some (.ref (b)), some (.int (Int32.ofNat x)), some (.int (Int32.ofNat jv)), none, none], [.ref (b)], A)) rfl ?_
  refine rw_gr h rfl rfl rfl rfl rfl rfl ?_
  refine wp_st 1 (f' := (26, [some (.ref (b)), some (.int (Int32.ofNat x)), some (.int (Int32.ofNat jv)), none, none], [.int (Int32.ofNat x), .ref (b + 8)], A)) rfl ?_
  refine rw_al (j := 10) (n := x) (v := .int (Int32.ofNat 0)) h rfl rfl rfl (Or.inl ⟨rfl, rfl⟩) rfl (show _ < 192 from by omega) (h10) rfl ?_
  refine wp_st 2 (f' := (29, [some (.ref (b)), some (.int (Int32.ofNat x)), some (.int (Int32.ofNat jv)), some (.int (Int32.ofNat 0)), none], [.ref (b)], A)) rfl ?_
  refine rw_gr h rfl rfl rfl rfl rfl rfl ?_
  refine wp_st 1 (f' := (33, [some (.ref (b)), some (.int (Int32.ofNat x)), some (.int (Int32.ofNat jv)), some (.int (Int32.ofNat 0)), none], [.int (Int32.ofNat jv), .ref (b + 30)], A)) rfl ?_
  refine rw_al (j := 44) (n := jv) (v := .int (Int32.ofNat 0)) h rfl rfl rfl (Or.inr (Or.inr (Or.inr (Or.inl ⟨rfl, rfl⟩)))) rfl (show _ < 6 from by omega) (h44) rfl ?_
  refine wp_izT rfl rfl (show (Int32.ofNat 0) = (Int32.ofNat 0) from by decide) ?_
  refine wp_st 2 (f' := (59, [some (.ref (b)), some (.int (Int32.ofNat x)), some (.int (Int32.ofNat jv)), some (.int (Int32.ofNat 0)), none], [.int (Int32.ofNat 2), .int (Int32.ofNat 0)], A)) rfl ?_
  refine wp_ifT rfl rfl (show (Int32.ofNat 0) ≠ (Int32.ofNat 2) from by decide) ?_
  refine wp_st 2 (f' := (79, [some (.ref (b)), some (.int (Int32.ofNat x)), some (.int (Int32.ofNat jv)), some (.int (Int32.ofNat 0)), none], [.int (Int32.ofNat 4), .int (Int32.ofNat 0)], A)) rfl ?_
  refine wp_ifT rfl (show am_tgt 79 (88) = 167 by decide +kernel) (show (Int32.ofNat 0) < (Int32.ofNat 4) from by decide) ?_
  refine wp_st 1 (f' := (168, [some (.ref (b)), some (.int (Int32.ofNat x)), some (.int (Int32.ofNat jv)), some (.int (Int32.ofNat 0)), none], [.ref (b)], A)) rfl ?_
  refine rw_gr h rfl rfl rfl rfl rfl rfl ?_
  refine wp_st 1 (f' := (172, [some (.ref (b)), some (.int (Int32.ofNat x)), some (.int (Int32.ofNat jv)), some (.int (Int32.ofNat 0)), none], [.int (Int32.ofNat jv), .ref (b + 30)], A)) rfl ?_
  refine rw_al (j := 44) (n := jv) (v := .int (Int32.ofNat 0)) h rfl rfl rfl (Or.inr (Or.inr (Or.inr (Or.inl ⟨rfl, rfl⟩)))) rfl (show _ < 6 from by omega) (h44) rfl ?_
  refine wp_izT rfl rfl (show (Int32.ofNat 0) = (Int32.ofNat 0) from by decide) ?_
  refine wp_st 2 (f' := (201, [some (.ref (b)), some (.int (Int32.ofNat x)), some (.int (Int32.ofNat jv)), some (.int (Int32.ofNat 0)), none], [.int (Int32.ofNat 2), .int (Int32.ofNat 0)], A)) rfl ?_
  refine wp_ifT rfl rfl (show (Int32.ofNat 0) ≠ (Int32.ofNat 2) from by decide) ?_
  refine wp_st 2 (f' := (219, [some (.ref (b)), some (.int (Int32.ofNat x)), some (.int (Int32.ofNat jv)), some (.int (Int32.ofNat 0)), none], [.ref (b), .ref (b)], A)) rfl ?_
  refine rw_gr h rfl rfl rfl rfl rfl rfl ?_
  refine wp_st 1 (f' := (223, [some (.ref (b)), some (.int (Int32.ofNat x)), some (.int (Int32.ofNat jv)), some (.int (Int32.ofNat 0)), none], [.int (Int32.ofNat jv), .ref (b + 31), .ref (b)], A)) rfl ?_
  refine rw_al (j := 45) (n := jv) (v := .long (Int64.ofInt z)) h rfl rfl rfl (Or.inr (Or.inl ⟨rfl, rfl⟩)) rfl (show _ < 6 from by omega) (h45) rfl ?_
  refine wp_st 1 (f' := (225, [some (.ref (b)), some (.int (Int32.ofNat x)), some (.int (Int32.ofNat jv)), some (.int (Int32.ofNat 0)), none], [.ref (b), .long (Int64.ofInt z), .ref (b)], A)) rfl ?_
  refine rw_gr h rfl rfl rfl rfl rfl rfl ?_
  refine wp_st 1 (f' := (229, [some (.ref (b)), some (.int (Int32.ofNat x)), some (.int (Int32.ofNat jv)), some (.int (Int32.ofNat 0)), none], [.int (Int32.ofNat jv), .ref (b + 32), .long (Int64.ofInt z), .ref (b)], A)) rfl ?_
  refine rw_al (j := 46) (n := jv) (v := .int (Int32.ofNat k0)) h rfl rfl rfl (Or.inl ⟨rfl, rfl⟩) rfl (show _ < 6 from by omega) (h46) rfl ?_
  refine wp_st 2 (f' := (232, [some (.ref (b)), some (.int (Int32.ofNat x)), some (.int (Int32.ofNat jv)), some (.int (Int32.ofNat 0)), none], [.int (Int32.ofNat 1), .int (Int32.ofNat 0), .int (Int32.ofNat k0), .long (Int64.ofInt z), .ref (b)], A)) rfl ?_
  refine wp_ifT rfl rfl (show (Int32.ofNat 0) ≠ (Int32.ofNat 1) from by decide) ?_
  refine wp_st 1 (f' := (240, [some (.ref (b)), some (.int (Int32.ofNat x)), some (.int (Int32.ofNat jv)), some (.int (Int32.ofNat 0)), none], [.int (Int32.ofNat 0), .int (Int32.ofNat k0), .long (Int64.ofInt z), .ref (b)], A)) rfl ?_
  obtain ⟨A1, t2, g3, h4, x5, k6, f7⟩ := (show rf_wg (d - 1) 177 [.ref b, .long (Int64.ofInt z), .int (Int32.ofNat k0), .int (Int32.ofNat 0)] A b s X (wr_dg z k0 false) from rw_numz (g := false) (by omega) (by omega) (by omega) hx h)
  have f8 := (sb_fr.refl A b (b + 38)).trans f7
  have k9 := (rf_wk.refl s).trans k6
  refine wp_cv (A' := A1) (v := none) rfl rfl rfl rfl rfl (show _ from h.1) (by omega) (g3) rfl ?_
  show am_wp d 169 (243, [some (.ref (b)), some (.int (Int32.ofNat x)), some (.int (Int32.ofNat jv)), some (.int (Int32.ofNat 0)), none], [], A1) _
  refine wp_rt rfl rfl rfl ?_
  exact ⟨rfl, _, h4, x5, k9, f8⟩
theorem ra_n1 {d b x nv jv N : Nat} {nf cf : Nat → Int32} {bf : Nat → Bool} {lf : Nat → Int64} {s : rf_S} {A : am_H} {k0 : Nat} {z : Int} {X : Option (List Nat)} (hd : 3 ≤ d) (hx9 : x < 192) (h9 : s 9 x = .int (Int32.ofNat N)) (hv : rf_vs s nv nf bf lf cf) (h : rf A b s) (hfd : rf_fd nf (Int32.ofNat N) nv 0 = some jv) (hjv : jv < 6) (h10 : s 10 x = .int (Int32.ofNat 1)) (h44 : s 44 jv = .int (Int32.ofNat 0)) (hk0 : k0 ≤ 6) (hz : z.natAbs < 10 ^ 18) (h45 : s 45 jv = .long (Int64.ofInt z)) (h46 : s 46 jv = .int (Int32.ofNat k0)) (hx : rf_wx s X) : rf_wg d 169 [.ref b, .int (Int32.ofNat x)] A b s X (wr_dg z k0 true) := by
  refine wp_goW ?_
  refine wp_st 2 (f' := (2, [some (.ref (b)), some (.int (Int32.ofNat x)), none, none, none], [.ref (b), .ref (b)], A)) rfl ?_
  refine rw_gr h rfl rfl rfl rfl rfl rfl ?_
  refine wp_st 1 (f' := (6, [some (.ref (b)), some (.int (Int32.ofNat x)), none, none, none], [.int (Int32.ofNat x), .ref (b + 7), .ref (b)], A)) rfl ?_
  refine rw_al (j := 9) (n := x) (v := .int (Int32.ofNat N)) h rfl rfl rfl (Or.inl ⟨rfl, rfl⟩) rfl (show _ < 192 from by omega) (h9) rfl ?_
  refine wp_cv (A' := A) (v := some (.int (Int32.ofNat jv))) rfl rfl rfl rfl rfl (show _ from h.1) (by omega) (by have e := rn_fd (d := d - 1) (x := Int32.ofNat N) hv h; rw [hfd] at e; exact e) rfl ?_
  show am_wp d 169 (10, [some (.ref (b)), some (.int (Int32.ofNat x)), none, none, none], [.int (Int32.ofNat jv)], A) _
  refine wp_st 2 (f' := (12, [some (.ref (b)), some (.int (Int32.ofNat x)), some (.int (Int32.ofNat jv)), none, none], [.int (Int32.ofNat jv)], A)) rfl ?_
  refine wp_izT rfl rfl (Int32.not_lt.mp (Int32.ofNat_not_neg (by omega))) ?_
  refine wp_st 1 (f' := (22, [some (.ref (b)), some (.int (Int32.ofNat x)), some (.int (Int32.ofNat jv)), none, none], [.ref (b)], A)) rfl ?_
  refine rw_gr h rfl rfl rfl rfl rfl rfl ?_
  refine wp_st 1 (f' := (26, [some (.ref (b)), some (.int (Int32.ofNat x)), some (.int (Int32.ofNat jv)), none, none], [.int (Int32.ofNat x), .ref (b + 8)], A)) rfl ?_
  refine rw_al (j := 10) (n := x) (v := .int (Int32.ofNat 1)) h rfl rfl rfl (Or.inl ⟨rfl, rfl⟩) rfl (show _ < 192 from by omega) (h10) rfl ?_
  refine wp_st 2 (f' := (29, [some (.ref (b)), some (.int (Int32.ofNat x)), some (.int (Int32.ofNat jv)), some (.int (Int32.ofNat 1)), none], [.ref (b)], A)) rfl ?_
  refine rw_gr h rfl rfl rfl rfl rfl rfl ?_
  refine wp_st 1 (f' := (33, [some (.ref (b)), some (.int (Int32.ofNat x)), some (.int (Int32.ofNat jv)), some (.int (Int32.ofNat 1)), none], [.int (Int32.ofNat jv), .ref (b + 30)], A)) rfl ?_
  refine rw_al (j := 44) (n := jv) (v := .int (Int32.ofNat 0)) h rfl rfl rfl (Or.inr (Or.inr (Or.inr (Or.inl ⟨rfl, rfl⟩)))) rfl (show _ < 6 from by omega) (h44) rfl ?_
  refine wp_izT rfl rfl (show (Int32.ofNat 0) = (Int32.ofNat 0) from by decide) ?_
  refine wp_st 2 (f' := (59, [some (.ref (b)), some (.int (Int32.ofNat x)), some (.int (Int32.ofNat jv)), some (.int (Int32.ofNat 1)), none], [.int (Int32.ofNat 2), .int (Int32.ofNat 1)], A)) rfl ?_
  refine wp_ifT rfl rfl (show (Int32.ofNat 1) ≠ (Int32.ofNat 2) from by decide) ?_
  refine wp_st 2 (f' := (79, [some (.ref (b)), some (.int (Int32.ofNat x)), some (.int (Int32.ofNat jv)), some (.int (Int32.ofNat 1)), none], [.int (Int32.ofNat 4), .int (Int32.ofNat 1)], A)) rfl ?_
  refine wp_ifT rfl (show am_tgt 79 (88) = 167 by decide +kernel) (show (Int32.ofNat 1) < (Int32.ofNat 4) from by decide) ?_
  refine wp_st 1 (f' := (168, [some (.ref (b)), some (.int (Int32.ofNat x)), some (.int (Int32.ofNat jv)), some (.int (Int32.ofNat 1)), none], [.ref (b)], A)) rfl ?_
  refine rw_gr h rfl rfl rfl rfl rfl rfl ?_
  refine wp_st 1 (f' := (172, [some (.ref (b)), some (.int (Int32.ofNat x)), some (.int (Int32.ofNat jv)), some (.int (Int32.ofNat 1)), none], [.int (Int32.ofNat jv), .ref (b + 30)], A)) rfl ?_
  refine rw_al (j := 44) (n := jv) (v := .int (Int32.ofNat 0)) h rfl rfl rfl (Or.inr (Or.inr (Or.inr (Or.inl ⟨rfl, rfl⟩)))) rfl (show _ < 6 from by omega) (h44) rfl ?_
  refine wp_izT rfl rfl (show (Int32.ofNat 0) = (Int32.ofNat 0) from by decide) ?_
  refine wp_st 2 (f' := (201, [some (.ref (b)), some (.int (Int32.ofNat x)), some (.int (Int32.ofNat jv)), some (.int (Int32.ofNat 1)), none], [.int (Int32.ofNat 2), .int (Int32.ofNat 1)], A)) rfl ?_
  refine wp_ifT rfl rfl (show (Int32.ofNat 1) ≠ (Int32.ofNat 2) from by decide) ?_
  refine wp_st 2 (f' := (219, [some (.ref (b)), some (.int (Int32.ofNat x)), some (.int (Int32.ofNat jv)), some (.int (Int32.ofNat 1)), none], [.ref (b), .ref (b)], A)) rfl ?_
  refine rw_gr h rfl rfl rfl rfl rfl rfl ?_
  refine wp_st 1 (f' := (223, [some (.ref (b)), some (.int (Int32.ofNat x)), some (.int (Int32.ofNat jv)), some (.int (Int32.ofNat 1)), none], [.int (Int32.ofNat jv), .ref (b + 31), .ref (b)], A)) rfl ?_
  refine rw_al (j := 45) (n := jv) (v := .long (Int64.ofInt z)) h rfl rfl rfl (Or.inr (Or.inl ⟨rfl, rfl⟩)) rfl (show _ < 6 from by omega) (h45) rfl ?_
  refine wp_st 1 (f' := (225, [some (.ref (b)), some (.int (Int32.ofNat x)), some (.int (Int32.ofNat jv)), some (.int (Int32.ofNat 1)), none], [.ref (b), .long (Int64.ofInt z), .ref (b)], A)) rfl ?_
  refine rw_gr h rfl rfl rfl rfl rfl rfl ?_
  refine wp_st 1 (f' := (229, [some (.ref (b)), some (.int (Int32.ofNat x)), some (.int (Int32.ofNat jv)), some (.int (Int32.ofNat 1)), none], [.int (Int32.ofNat jv), .ref (b + 32), .long (Int64.ofInt z), .ref (b)], A)) rfl ?_
  refine rw_al (j := 46) (n := jv) (v := .int (Int32.ofNat k0)) h rfl rfl rfl (Or.inl ⟨rfl, rfl⟩) rfl (show _ < 6 from by omega) (h46) rfl ?_
  refine wp_st 2 (f' := (232, [some (.ref (b)), some (.int (Int32.ofNat x)), some (.int (Int32.ofNat jv)), some (.int (Int32.ofNat 1)), none], [.int (Int32.ofNat 1), .int (Int32.ofNat 1), .int (Int32.ofNat k0), .long (Int64.ofInt z), .ref (b)], A)) rfl ?_
  refine wp_ifF rfl rfl (show ¬ ((Int32.ofNat 1) ≠ (Int32.ofNat 1)) from by decide) ?_
  refine wp_st 2 (f' := (240, [some (.ref (b)), some (.int (Int32.ofNat x)), some (.int (Int32.ofNat jv)), some (.int (Int32.ofNat 1)), none], [.int (Int32.ofNat 1), .int (Int32.ofNat k0), .long (Int64.ofInt z), .ref (b)], A)) rfl ?_
  obtain ⟨A1, t2, g3, h4, x5, k6, f7⟩ := (show rf_wg (d - 1) 177 [.ref b, .long (Int64.ofInt z), .int (Int32.ofNat k0), .int (Int32.ofNat 1)] A b s X (wr_dg z k0 true) from rw_numz (g := true) (by omega) (by omega) (by omega) hx h)
  have f8 := (sb_fr.refl A b (b + 38)).trans f7
  have k9 := (rf_wk.refl s).trans k6
  refine wp_cv (A' := A1) (v := none) rfl rfl rfl rfl rfl (show _ from h.1) (by omega) (g3) rfl ?_
  show am_wp d 169 (243, [some (.ref (b)), some (.int (Int32.ofNat x)), some (.int (Int32.ofNat jv)), some (.int (Int32.ofNat 1)), none], [], A1) _
  refine wp_rt rfl rfl rfl ?_
  exact ⟨rfl, _, h4, x5, k9, f8⟩
theorem ra_n3 {d b x nv jv N : Nat} {nf cf : Nat → Int32} {bf : Nat → Bool} {lf : Nat → Int64} {s : rf_S} {A : am_H} {k0 : Nat} {z : Int} {X : Option (List Nat)} (hd : 3 ≤ d) (hx9 : x < 192) (h9 : s 9 x = .int (Int32.ofNat N)) (hv : rf_vs s nv nf bf lf cf) (h : rf A b s) (hfd : rf_fd nf (Int32.ofNat N) nv 0 = some jv) (hjv : jv < 6) (h10 : s 10 x = .int (Int32.ofNat 3)) (h44 : s 44 jv = .int (Int32.ofNat 0)) (hk0 : k0 ≤ 6) (hz : z.natAbs < 10 ^ 18) (h45 : s 45 jv = .long (Int64.ofInt z)) (h46 : s 46 jv = .int (Int32.ofNat k0)) (hx : rf_wx s X) : rf_wg d 169 [.ref b, .int (Int32.ofNat x)] A b s X (wr_dg z k0 false) := by
  refine wp_goW ?_
  refine wp_st 2 (f' := (2, [some (.ref (b)), some (.int (Int32.ofNat x)), none, none, none], [.ref (b), .ref (b)], A)) rfl ?_
  refine rw_gr h rfl rfl rfl rfl rfl rfl ?_
  refine wp_st 1 (f' := (6, [some (.ref (b)), some (.int (Int32.ofNat x)), none, none, none], [.int (Int32.ofNat x), .ref (b + 7), .ref (b)], A)) rfl ?_
  refine rw_al (j := 9) (n := x) (v := .int (Int32.ofNat N)) h rfl rfl rfl (Or.inl ⟨rfl, rfl⟩) rfl (show _ < 192 from by omega) (h9) rfl ?_
  refine wp_cv (A' := A) (v := some (.int (Int32.ofNat jv))) rfl rfl rfl rfl rfl (show _ from h.1) (by omega) (by have e := rn_fd (d := d - 1) (x := Int32.ofNat N) hv h; rw [hfd] at e; exact e) rfl ?_
  show am_wp d 169 (10, [some (.ref (b)), some (.int (Int32.ofNat x)), none, none, none], [.int (Int32.ofNat jv)], A) _
  refine wp_st 2 (f' := (12, [some (.ref (b)), some (.int (Int32.ofNat x)), some (.int (Int32.ofNat jv)), none, none], [.int (Int32.ofNat jv)], A)) rfl ?_
  refine wp_izT rfl rfl (Int32.not_lt.mp (Int32.ofNat_not_neg (by omega))) ?_
  refine wp_st 1 (f' := (22, [some (.ref (b)), some (.int (Int32.ofNat x)), some (.int (Int32.ofNat jv)), none, none], [.ref (b)], A)) rfl ?_
  refine rw_gr h rfl rfl rfl rfl rfl rfl ?_
  refine wp_st 1 (f' := (26, [some (.ref (b)), some (.int (Int32.ofNat x)), some (.int (Int32.ofNat jv)), none, none], [.int (Int32.ofNat x), .ref (b + 8)], A)) rfl ?_
  refine rw_al (j := 10) (n := x) (v := .int (Int32.ofNat 3)) h rfl rfl rfl (Or.inl ⟨rfl, rfl⟩) rfl (show _ < 192 from by omega) (h10) rfl ?_
  refine wp_st 2 (f' := (29, [some (.ref (b)), some (.int (Int32.ofNat x)), some (.int (Int32.ofNat jv)), some (.int (Int32.ofNat 3)), none], [.ref (b)], A)) rfl ?_
  refine rw_gr h rfl rfl rfl rfl rfl rfl ?_
  refine wp_st 1 (f' := (33, [some (.ref (b)), some (.int (Int32.ofNat x)), some (.int (Int32.ofNat jv)), some (.int (Int32.ofNat 3)), none], [.int (Int32.ofNat jv), .ref (b + 30)], A)) rfl ?_
  refine rw_al (j := 44) (n := jv) (v := .int (Int32.ofNat 0)) h rfl rfl rfl (Or.inr (Or.inr (Or.inr (Or.inl ⟨rfl, rfl⟩)))) rfl (show _ < 6 from by omega) (h44) rfl ?_
  refine wp_izT rfl rfl (show (Int32.ofNat 0) = (Int32.ofNat 0) from by decide) ?_
  refine wp_st 2 (f' := (59, [some (.ref (b)), some (.int (Int32.ofNat x)), some (.int (Int32.ofNat jv)), some (.int (Int32.ofNat 3)), none], [.int (Int32.ofNat 2), .int (Int32.ofNat 3)], A)) rfl ?_
  refine wp_ifT rfl rfl (show (Int32.ofNat 3) ≠ (Int32.ofNat 2) from by decide) ?_
  refine wp_st 2 (f' := (79, [some (.ref (b)), some (.int (Int32.ofNat x)), some (.int (Int32.ofNat jv)), some (.int (Int32.ofNat 3)), none], [.int (Int32.ofNat 4), .int (Int32.ofNat 3)], A)) rfl ?_
  refine wp_ifT rfl (show am_tgt 79 (88) = 167 by decide +kernel) (show (Int32.ofNat 3) < (Int32.ofNat 4) from by decide) ?_
  refine wp_st 1 (f' := (168, [some (.ref (b)), some (.int (Int32.ofNat x)), some (.int (Int32.ofNat jv)), some (.int (Int32.ofNat 3)), none], [.ref (b)], A)) rfl ?_
  refine rw_gr h rfl rfl rfl rfl rfl rfl ?_
  refine wp_st 1 (f' := (172, [some (.ref (b)), some (.int (Int32.ofNat x)), some (.int (Int32.ofNat jv)), some (.int (Int32.ofNat 3)), none], [.int (Int32.ofNat jv), .ref (b + 30)], A)) rfl ?_
  refine rw_al (j := 44) (n := jv) (v := .int (Int32.ofNat 0)) h rfl rfl rfl (Or.inr (Or.inr (Or.inr (Or.inl ⟨rfl, rfl⟩)))) rfl (show _ < 6 from by omega) (h44) rfl ?_
  refine wp_izT rfl rfl (show (Int32.ofNat 0) = (Int32.ofNat 0) from by decide) ?_
  refine wp_st 2 (f' := (201, [some (.ref (b)), some (.int (Int32.ofNat x)), some (.int (Int32.ofNat jv)), some (.int (Int32.ofNat 3)), none], [.int (Int32.ofNat 2), .int (Int32.ofNat 3)], A)) rfl ?_
  refine wp_ifT rfl rfl (show (Int32.ofNat 3) ≠ (Int32.ofNat 2) from by decide) ?_
  refine wp_st 2 (f' := (219, [some (.ref (b)), some (.int (Int32.ofNat x)), some (.int (Int32.ofNat jv)), some (.int (Int32.ofNat 3)), none], [.ref (b), .ref (b)], A)) rfl ?_
  refine rw_gr h rfl rfl rfl rfl rfl rfl ?_
  refine wp_st 1 (f' := (223, [some (.ref (b)), some (.int (Int32.ofNat x)), some (.int (Int32.ofNat jv)), some (.int (Int32.ofNat 3)), none], [.int (Int32.ofNat jv), .ref (b + 31), .ref (b)], A)) rfl ?_
  refine rw_al (j := 45) (n := jv) (v := .long (Int64.ofInt z)) h rfl rfl rfl (Or.inr (Or.inl ⟨rfl, rfl⟩)) rfl (show _ < 6 from by omega) (h45) rfl ?_
  refine wp_st 1 (f' := (225, [some (.ref (b)), some (.int (Int32.ofNat x)), some (.int (Int32.ofNat jv)), some (.int (Int32.ofNat 3)), none], [.ref (b), .long (Int64.ofInt z), .ref (b)], A)) rfl ?_
  refine rw_gr h rfl rfl rfl rfl rfl rfl ?_
  refine wp_st 1 (f' := (229, [some (.ref (b)), some (.int (Int32.ofNat x)), some (.int (Int32.ofNat jv)), some (.int (Int32.ofNat 3)), none], [.int (Int32.ofNat jv), .ref (b + 32), .long (Int64.ofInt z), .ref (b)], A)) rfl ?_
  refine rw_al (j := 46) (n := jv) (v := .int (Int32.ofNat k0)) h rfl rfl rfl (Or.inl ⟨rfl, rfl⟩) rfl (show _ < 6 from by omega) (h46) rfl ?_
  refine wp_st 2 (f' := (232, [some (.ref (b)), some (.int (Int32.ofNat x)), some (.int (Int32.ofNat jv)), some (.int (Int32.ofNat 3)), none], [.int (Int32.ofNat 1), .int (Int32.ofNat 3), .int (Int32.ofNat k0), .long (Int64.ofInt z), .ref (b)], A)) rfl ?_
  refine wp_ifT rfl rfl (show (Int32.ofNat 3) ≠ (Int32.ofNat 1) from by decide) ?_
  refine wp_st 1 (f' := (240, [some (.ref (b)), some (.int (Int32.ofNat x)), some (.int (Int32.ofNat jv)), some (.int (Int32.ofNat 3)), none], [.int (Int32.ofNat 0), .int (Int32.ofNat k0), .long (Int64.ofInt z), .ref (b)], A)) rfl ?_
  obtain ⟨A1, t2, g3, h4, x5, k6, f7⟩ := (show rf_wg (d - 1) 177 [.ref b, .long (Int64.ofInt z), .int (Int32.ofNat k0), .int (Int32.ofNat 0)] A b s X (wr_dg z k0 false) from rw_numz (g := false) (by omega) (by omega) (by omega) hx h)
  have f8 := (sb_fr.refl A b (b + 38)).trans f7
  have k9 := (rf_wk.refl s).trans k6
  refine wp_cv (A' := A1) (v := none) rfl rfl rfl rfl rfl (show _ from h.1) (by omega) (g3) rfl ?_
  show am_wp d 169 (243, [some (.ref (b)), some (.int (Int32.ofNat x)), some (.int (Int32.ofNat jv)), some (.int (Int32.ofNat 3)), none], [], A1) _
  refine wp_rt rfl rfl rfl ?_
  exact ⟨rfl, _, h4, x5, k9, f8⟩
theorem ra_n2 {d b x nv jv N : Nat} {nf cf : Nat → Int32} {bf : Nat → Bool} {lf : Nat → Int64} {s : rf_S} {A : am_H} {z : Int} {X : Option (List Nat)} (hd : 3 ≤ d) (hx9 : x < 192) (h9 : s 9 x = .int (Int32.ofNat N)) (hv : rf_vs s nv nf bf lf cf) (h : rf A b s) (hfd : rf_fd nf (Int32.ofNat N) nv 0 = some jv) (hjv : jv < 6) (h10 : s 10 x = .int (Int32.ofNat 2)) (h44 : s 44 jv = .int (Int32.ofNat 0)) (hz : z.natAbs < 10 ^ 18) (h45 : s 45 jv = .long (Int64.ofInt z)) (h46 : s 46 jv = .int (Int32.ofNat 0)) (hx : rf_wx s X) : rf_wg d 169 [.ref b, .int (Int32.ofNat x)] A b s X (wr_hex z) := by
  refine wp_goW ?_
  refine wp_st 2 (f' := (2, [some (.ref (b)), some (.int (Int32.ofNat x)), none, none, none], [.ref (b), .ref (b)], A)) rfl ?_
  refine rw_gr h rfl rfl rfl rfl rfl rfl ?_
  refine wp_st 1 (f' := (6, [some (.ref (b)), some (.int (Int32.ofNat x)), none, none, none], [.int (Int32.ofNat x), .ref (b + 7), .ref (b)], A)) rfl ?_
  refine rw_al (j := 9) (n := x) (v := .int (Int32.ofNat N)) h rfl rfl rfl (Or.inl ⟨rfl, rfl⟩) rfl (show _ < 192 from by omega) (h9) rfl ?_
  refine wp_cv (A' := A) (v := some (.int (Int32.ofNat jv))) rfl rfl rfl rfl rfl (show _ from h.1) (by omega) (by have e := rn_fd (d := d - 1) (x := Int32.ofNat N) hv h; rw [hfd] at e; exact e) rfl ?_
  show am_wp d 169 (10, [some (.ref (b)), some (.int (Int32.ofNat x)), none, none, none], [.int (Int32.ofNat jv)], A) _
  refine wp_st 2 (f' := (12, [some (.ref (b)), some (.int (Int32.ofNat x)), some (.int (Int32.ofNat jv)), none, none], [.int (Int32.ofNat jv)], A)) rfl ?_
  refine wp_izT rfl rfl (Int32.not_lt.mp (Int32.ofNat_not_neg (by omega))) ?_
  refine wp_st 1 (f' := (22, [some (.ref (b)), some (.int (Int32.ofNat x)), some (.int (Int32.ofNat jv)), none, none], [.ref (b)], A)) rfl ?_
  refine rw_gr h rfl rfl rfl rfl rfl rfl ?_
  refine wp_st 1 (f' := (26, [some (.ref (b)), some (.int (Int32.ofNat x)), some (.int (Int32.ofNat jv)), none, none], [.int (Int32.ofNat x), .ref (b + 8)], A)) rfl ?_
  refine rw_al (j := 10) (n := x) (v := .int (Int32.ofNat 2)) h rfl rfl rfl (Or.inl ⟨rfl, rfl⟩) rfl (show _ < 192 from by omega) (h10) rfl ?_
  refine wp_st 2 (f' := (29, [some (.ref (b)), some (.int (Int32.ofNat x)), some (.int (Int32.ofNat jv)), some (.int (Int32.ofNat 2)), none], [.ref (b)], A)) rfl ?_
  refine rw_gr h rfl rfl rfl rfl rfl rfl ?_
  refine wp_st 1 (f' := (33, [some (.ref (b)), some (.int (Int32.ofNat x)), some (.int (Int32.ofNat jv)), some (.int (Int32.ofNat 2)), none], [.int (Int32.ofNat jv), .ref (b + 30)], A)) rfl ?_
  refine rw_al (j := 44) (n := jv) (v := .int (Int32.ofNat 0)) h rfl rfl rfl (Or.inr (Or.inr (Or.inr (Or.inl ⟨rfl, rfl⟩)))) rfl (show _ < 6 from by omega) (h44) rfl ?_
  refine wp_izT rfl rfl (show (Int32.ofNat 0) = (Int32.ofNat 0) from by decide) ?_
  refine wp_st 2 (f' := (59, [some (.ref (b)), some (.int (Int32.ofNat x)), some (.int (Int32.ofNat jv)), some (.int (Int32.ofNat 2)), none], [.int (Int32.ofNat 2), .int (Int32.ofNat 2)], A)) rfl ?_
  refine wp_ifF rfl rfl (show ¬ ((Int32.ofNat 2) ≠ (Int32.ofNat 2)) from by decide) ?_
  refine wp_st 1 (f' := (63, [some (.ref (b)), some (.int (Int32.ofNat x)), some (.int (Int32.ofNat jv)), some (.int (Int32.ofNat 2)), none], [.ref (b)], A)) rfl ?_
  refine rw_gr h rfl rfl rfl rfl rfl rfl ?_
  refine wp_st 1 (f' := (67, [some (.ref (b)), some (.int (Int32.ofNat x)), some (.int (Int32.ofNat jv)), some (.int (Int32.ofNat 2)), none], [.int (Int32.ofNat jv), .ref (b + 32)], A)) rfl ?_
  refine rw_al (j := 46) (n := jv) (v := .int (Int32.ofNat 0)) h rfl rfl rfl (Or.inl ⟨rfl, rfl⟩) rfl (show _ < 6 from by omega) (h46) rfl ?_
  refine wp_izT rfl rfl (show (Int32.ofNat 0) ≤ (Int32.ofNat 0) from by decide) ?_
  refine wp_st 2 (f' := (79, [some (.ref (b)), some (.int (Int32.ofNat x)), some (.int (Int32.ofNat jv)), some (.int (Int32.ofNat 2)), none], [.int (Int32.ofNat 4), .int (Int32.ofNat 2)], A)) rfl ?_
  refine wp_ifT rfl (show am_tgt 79 (88) = 167 by decide +kernel) (show (Int32.ofNat 2) < (Int32.ofNat 4) from by decide) ?_
  refine wp_st 1 (f' := (168, [some (.ref (b)), some (.int (Int32.ofNat x)), some (.int (Int32.ofNat jv)), some (.int (Int32.ofNat 2)), none], [.ref (b)], A)) rfl ?_
  refine rw_gr h rfl rfl rfl rfl rfl rfl ?_
  refine wp_st 1 (f' := (172, [some (.ref (b)), some (.int (Int32.ofNat x)), some (.int (Int32.ofNat jv)), some (.int (Int32.ofNat 2)), none], [.int (Int32.ofNat jv), .ref (b + 30)], A)) rfl ?_
  refine rw_al (j := 44) (n := jv) (v := .int (Int32.ofNat 0)) h rfl rfl rfl (Or.inr (Or.inr (Or.inr (Or.inl ⟨rfl, rfl⟩)))) rfl (show _ < 6 from by omega) (h44) rfl ?_
  refine wp_izT rfl rfl (show (Int32.ofNat 0) = (Int32.ofNat 0) from by decide) ?_
  refine wp_st 2 (f' := (201, [some (.ref (b)), some (.int (Int32.ofNat x)), some (.int (Int32.ofNat jv)), some (.int (Int32.ofNat 2)), none], [.int (Int32.ofNat 2), .int (Int32.ofNat 2)], A)) rfl ?_
  refine wp_ifF rfl rfl (show ¬ ((Int32.ofNat 2) ≠ (Int32.ofNat 2)) from by decide) ?_
  refine wp_st 2 (f' := (206, [some (.ref (b)), some (.int (Int32.ofNat x)), some (.int (Int32.ofNat jv)), some (.int (Int32.ofNat 2)), none], [.ref (b), .ref (b)], A)) rfl ?_
  refine rw_gr h rfl rfl rfl rfl rfl rfl ?_
  refine wp_st 1 (f' := (210, [some (.ref (b)), some (.int (Int32.ofNat x)), some (.int (Int32.ofNat jv)), some (.int (Int32.ofNat 2)), none], [.int (Int32.ofNat jv), .ref (b + 31), .ref (b)], A)) rfl ?_
  refine rw_al (j := 45) (n := jv) (v := .long (Int64.ofInt z)) h rfl rfl rfl (Or.inr (Or.inl ⟨rfl, rfl⟩)) rfl (show _ < 6 from by omega) (h45) rfl ?_
  obtain ⟨A1, t2, g3, h4, x5, k6, f7⟩ := rw_hexz (d := d - 1) (z := z) (by omega) (by omega) hx h
  have f8 := (sb_fr.refl A b (b + 38)).trans f7
  have k9 := (rf_wk.refl s).trans k6
  refine wp_cv (A' := A1) (v := none) rfl rfl rfl rfl rfl (show _ from h.1) (by omega) (g3) rfl ?_
  show am_wp d 169 (214, [some (.ref (b)), some (.int (Int32.ofNat x)), some (.int (Int32.ofNat jv)), some (.int (Int32.ofNat 2)), none], [], A1) _
  refine wp_st 1 (f' := (243, [some (.ref (b)), some (.int (Int32.ofNat x)), some (.int (Int32.ofNat jv)), some (.int (Int32.ofNat 2)), none], [], A1)) rfl ?_
  refine wp_rt rfl rfl rfl ?_
  exact ⟨rfl, _, h4, x5, k9, f8⟩
theorem ra_b6w {d b x nv jv N : Nat} {nf cf : Nat → Int32} {bf : Nat → Bool} {lf : Nat → Int64} {s : rf_S} {A : am_H} {k0 L a c off : Nat} {y0 : Int64} {v15 : Int32} (hd : 3 ≤ d) (hx9 : x < 192) (h9 : s 9 x = .int (Int32.ofNat N)) (hv : rf_vs s nv nf bf lf cf) (h : rf A b s) (hfd : rf_fd nf (Int32.ofNat N) nv 0 = some jv) (hjv : jv < 6) (h10 : s 10 x = .int (Int32.ofNat 6)) (h44 : s 44 jv = .int (Int32.ofNat 1)) (hk0 : k0 ≤ 6) (hL : L < 3) (hoff : off < 100) (hac : a + c < 192) (h22 : s 22 0 = .int (Int32.ofNat L)) (h45 : s 45 jv = .long y0) (h46 : s 46 jv = .int (Int32.ofNat k0)) (h11 : s 11 x = .int (Int32.ofNat off)) (h15 : s 15 (a + c) = .int v15) (hch : am_go (d - 1) 170 [.ref b, .int (Int32.ofNat x), .int (Int32.ofNat jv)] A (.inl (some (.int (Int32.ofNat (a + c)))), A)) : rf_go d 169 [.ref b, .int (Int32.ofNat x)] A b none (rf_u (rf_u (rf_u (rf_u s 22 0 (.int (Int32.ofNat (L + 1)))) 51 (L + 1) (.int v15)) 52 (L + 1) (.long (y0 - Int64.ofNat (off * 10 ^ k0)))) 53 (L + 1) (.int (Int32.ofNat k0))) := by
  refine rf_of ?_
  refine wp_st 2 (f' := (2, [some (.ref (b)), some (.int (Int32.ofNat x)), none, none, none], [.ref (b), .ref (b)], A)) rfl ?_
  refine rw_gr h rfl rfl rfl rfl rfl rfl ?_
  refine wp_st 1 (f' := (6, [some (.ref (b)), some (.int (Int32.ofNat x)), none, none, none], [.int (Int32.ofNat x), .ref (b + 7), .ref (b)], A)) rfl ?_
  refine rw_al (j := 9) (n := x) (v := .int (Int32.ofNat N)) h rfl rfl rfl (Or.inl ⟨rfl, rfl⟩) rfl (show _ < 192 from by omega) (h9) rfl ?_
  refine wp_cv (A' := A) (v := some (.int (Int32.ofNat jv))) rfl rfl rfl rfl rfl (show _ from h.1) (by omega) (by have e := rn_fd (d := d - 1) (x := Int32.ofNat N) hv h; rw [hfd] at e; exact e) rfl ?_
  show am_wp d 169 (10, [some (.ref (b)), some (.int (Int32.ofNat x)), none, none, none], [.int (Int32.ofNat jv)], A) _
  refine wp_st 2 (f' := (12, [some (.ref (b)), some (.int (Int32.ofNat x)), some (.int (Int32.ofNat jv)), none, none], [.int (Int32.ofNat jv)], A)) rfl ?_
  refine wp_izT rfl rfl (Int32.not_lt.mp (Int32.ofNat_not_neg (by omega))) ?_
  refine wp_st 1 (f' := (22, [some (.ref (b)), some (.int (Int32.ofNat x)), some (.int (Int32.ofNat jv)), none, none], [.ref (b)], A)) rfl ?_
  refine rw_gr h rfl rfl rfl rfl rfl rfl ?_
  refine wp_st 1 (f' := (26, [some (.ref (b)), some (.int (Int32.ofNat x)), some (.int (Int32.ofNat jv)), none, none], [.int (Int32.ofNat x), .ref (b + 8)], A)) rfl ?_
  refine rw_al (j := 10) (n := x) (v := .int (Int32.ofNat 6)) h rfl rfl rfl (Or.inl ⟨rfl, rfl⟩) rfl (show _ < 192 from by omega) (h10) rfl ?_
  refine wp_st 2 (f' := (29, [some (.ref (b)), some (.int (Int32.ofNat x)), some (.int (Int32.ofNat jv)), some (.int (Int32.ofNat 6)), none], [.ref (b)], A)) rfl ?_
  refine rw_gr h rfl rfl rfl rfl rfl rfl ?_
  refine wp_st 1 (f' := (33, [some (.ref (b)), some (.int (Int32.ofNat x)), some (.int (Int32.ofNat jv)), some (.int (Int32.ofNat 6)), none], [.int (Int32.ofNat jv), .ref (b + 30)], A)) rfl ?_
  refine rw_al (j := 44) (n := jv) (v := .int (Int32.ofNat 1)) h rfl rfl rfl (Or.inr (Or.inr (Or.inr (Or.inl ⟨rfl, rfl⟩)))) rfl (show _ < 6 from by omega) (h44) rfl ?_
  refine wp_izF rfl rfl (show ¬ ((Int32.ofNat 1) = (Int32.ofNat 0)) from by decide) ?_
  refine wp_st 2 (f' := (39, [some (.ref (b)), some (.int (Int32.ofNat x)), some (.int (Int32.ofNat jv)), some (.int (Int32.ofNat 6)), none], [.int (Int32.ofNat 1), .int (Int32.ofNat 6)], A)) rfl ?_
  refine wp_ifF rfl rfl (show ¬ ((Int32.ofNat 6) = (Int32.ofNat 1)) from by decide) ?_
  refine wp_st 2 (f' := (44, [some (.ref (b)), some (.int (Int32.ofNat x)), some (.int (Int32.ofNat jv)), some (.int (Int32.ofNat 6)), none], [.int (Int32.ofNat 2), .int (Int32.ofNat 6)], A)) rfl ?_
  refine wp_ifF rfl rfl (show ¬ ((Int32.ofNat 6) = (Int32.ofNat 2)) from by decide) ?_
  refine wp_st 2 (f' := (49, [some (.ref (b)), some (.int (Int32.ofNat x)), some (.int (Int32.ofNat jv)), some (.int (Int32.ofNat 6)), none], [.int (Int32.ofNat 4), .int (Int32.ofNat 6)], A)) rfl ?_
  refine wp_ifF rfl rfl (show ¬ ((Int32.ofNat 6) = (Int32.ofNat 4)) from by decide) ?_
  refine wp_st 2 (f' := (54, [some (.ref (b)), some (.int (Int32.ofNat x)), some (.int (Int32.ofNat jv)), some (.int (Int32.ofNat 6)), none], [.int (Int32.ofNat 5), .int (Int32.ofNat 6)], A)) rfl ?_
  refine wp_ifF rfl rfl (show ¬ ((Int32.ofNat 6) = (Int32.ofNat 5)) from by decide) ?_
  refine wp_st 2 (f' := (59, [some (.ref (b)), some (.int (Int32.ofNat x)), some (.int (Int32.ofNat jv)), some (.int (Int32.ofNat 6)), none], [.int (Int32.ofNat 2), .int (Int32.ofNat 6)], A)) rfl ?_
  refine wp_ifT rfl rfl (show (Int32.ofNat 6) ≠ (Int32.ofNat 2) from by decide) ?_
  refine wp_st 2 (f' := (79, [some (.ref (b)), some (.int (Int32.ofNat x)), some (.int (Int32.ofNat jv)), some (.int (Int32.ofNat 6)), none], [.int (Int32.ofNat 4), .int (Int32.ofNat 6)], A)) rfl ?_
  refine wp_ifF rfl rfl (show ¬ ((Int32.ofNat 6) < (Int32.ofNat 4)) from by decide) ?_
  refine wp_st 3 (f' := (85, [some (.ref (b)), some (.int (Int32.ofNat x)), some (.int (Int32.ofNat jv)), some (.int (Int32.ofNat 6)), none], [.int (Int32.ofNat jv), .int (Int32.ofNat x), .ref (b)], A)) rfl ?_
  refine wp_cv (A' := A) (v := some (.int (Int32.ofNat (a + c)))) rfl rfl rfl rfl rfl (show _ from h.1) (by omega) (hch) rfl ?_
  show am_wp d 169 (88, [some (.ref (b)), some (.int (Int32.ofNat x)), some (.int (Int32.ofNat jv)), some (.int (Int32.ofNat 6)), none], [.int (Int32.ofNat (a + c))], A) _
  refine wp_st 3 (f' := (92, [some (.ref (b)), some (.int (Int32.ofNat x)), some (.int (Int32.ofNat jv)), some (.int (Int32.ofNat 6)), some (.int (Int32.ofNat (a + c)))], [.ref (b), .ref (b)], A)) rfl ?_
  refine rw_gf (v := .int (Int32.ofNat L)) h rfl rfl rfl rfl (h22) rfl ?_
  refine wp_st 2 (f' := (97, [some (.ref (b)), some (.int (Int32.ofNat x)), some (.int (Int32.ofNat jv)), some (.int (Int32.ofNat 6)), some (.int (Int32.ofNat (a + c)))], [.int ((Int32.ofNat L) + (Int32.ofNat 1)), .ref (b)], A)) rfl ?_
  rw [i32_add (L) (1)]
  refine rw_pf (v := .int (Int32.ofNat (L + 1))) h rfl rfl rfl rfl rfl rfl (fun A1 h2 f3 => ?_)
  have f4 := (sb_fr.refl A b (b + 38)).trans f3
  refine wp_st 1 (f' := (101, [some (.ref (b)), some (.int (Int32.ofNat x)), some (.int (Int32.ofNat jv)), some (.int (Int32.ofNat 6)), some (.int (Int32.ofNat (a + c)))], [.ref (b)], A1)) rfl ?_
  refine rw_gr h2 rfl rfl rfl rfl rfl rfl ?_
  refine wp_st 1 (f' := (105, [some (.ref (b)), some (.int (Int32.ofNat x)), some (.int (Int32.ofNat jv)), some (.int (Int32.ofNat 6)), some (.int (Int32.ofNat (a + c)))], [.ref (b), .ref (b + 35)], A1)) rfl ?_
  refine rw_gf (v := .int (Int32.ofNat (L + 1))) h2 rfl rfl rfl rfl (rfl) rfl ?_
  refine wp_st 1 (f' := (109, [some (.ref (b)), some (.int (Int32.ofNat x)), some (.int (Int32.ofNat jv)), some (.int (Int32.ofNat 6)), some (.int (Int32.ofNat (a + c)))], [.ref (b), .int (Int32.ofNat (L + 1)), .ref (b + 35)], A1)) rfl ?_
  refine rw_gr h2 rfl rfl rfl rfl rfl rfl ?_
  refine wp_st 1 (f' := (114, [some (.ref (b)), some (.int (Int32.ofNat x)), some (.int (Int32.ofNat jv)), some (.int (Int32.ofNat 6)), some (.int (Int32.ofNat (a + c)))], [.int (Int32.ofNat (a + c)), .ref (b + 13), .int (Int32.ofNat (L + 1)), .ref (b + 35)], A1)) rfl ?_
  refine rw_al (j := 15) (n := a + c) (v := .int (v15)) h2 rfl rfl rfl (Or.inl ⟨rfl, rfl⟩) rfl (show _ < 192 from by omega) (by rw [rf_u_ne (Or.inl (by decide))]; exact h15) rfl ?_
  refine rw_as (j := 51) (n := L + 1) (v := .int (v15)) h2 rfl rfl rfl (Or.inl ⟨rfl, rfl, rfl⟩) (show _ < 4 from by omega) rfl rfl (fun A5 h6 f7 => ?_)
  have f8 := f4.trans f7
  refine wp_st 1 (f' := (117, [some (.ref (b)), some (.int (Int32.ofNat x)), some (.int (Int32.ofNat jv)), some (.int (Int32.ofNat 6)), some (.int (Int32.ofNat (a + c)))], [.ref (b)], A5)) rfl ?_
  refine rw_gr h6 rfl rfl rfl rfl rfl rfl ?_
  refine wp_st 1 (f' := (121, [some (.ref (b)), some (.int (Int32.ofNat x)), some (.int (Int32.ofNat jv)), some (.int (Int32.ofNat 6)), some (.int (Int32.ofNat (a + c)))], [.ref (b), .ref (b + 36)], A5)) rfl ?_
  refine rw_gf (v := .int (Int32.ofNat (L + 1))) h6 rfl rfl rfl rfl (rfl) rfl ?_
  refine wp_st 1 (f' := (125, [some (.ref (b)), some (.int (Int32.ofNat x)), some (.int (Int32.ofNat jv)), some (.int (Int32.ofNat 6)), some (.int (Int32.ofNat (a + c)))], [.ref (b), .int (Int32.ofNat (L + 1)), .ref (b + 36)], A5)) rfl ?_
  refine rw_gr h6 rfl rfl rfl rfl rfl rfl ?_
  refine wp_st 1 (f' := (129, [some (.ref (b)), some (.int (Int32.ofNat x)), some (.int (Int32.ofNat jv)), some (.int (Int32.ofNat 6)), some (.int (Int32.ofNat (a + c)))], [.int (Int32.ofNat jv), .ref (b + 31), .int (Int32.ofNat (L + 1)), .ref (b + 36)], A5)) rfl ?_
  refine rw_al (j := 45) (n := jv) (v := .long (y0)) h6 rfl rfl rfl (Or.inr (Or.inl ⟨rfl, rfl⟩)) rfl (show _ < 6 from by omega) (by rw [rf_u_ne (Or.inl (by decide)), rf_u_ne (Or.inl (by decide))]; exact h45) rfl ?_
  refine wp_st 1 (f' := (131, [some (.ref (b)), some (.int (Int32.ofNat x)), some (.int (Int32.ofNat jv)), some (.int (Int32.ofNat 6)), some (.int (Int32.ofNat (a + c)))], [.ref (b), .long (y0), .int (Int32.ofNat (L + 1)), .ref (b + 36)], A5)) rfl ?_
  refine rw_gr h6 rfl rfl rfl rfl rfl rfl ?_
  refine wp_st 1 (f' := (135, [some (.ref (b)), some (.int (Int32.ofNat x)), some (.int (Int32.ofNat jv)), some (.int (Int32.ofNat 6)), some (.int (Int32.ofNat (a + c)))], [.int (Int32.ofNat x), .ref (b + 9), .long (y0), .int (Int32.ofNat (L + 1)), .ref (b + 36)], A5)) rfl ?_
  refine rw_al (j := 11) (n := x) (v := .int (Int32.ofNat off)) h6 rfl rfl rfl (Or.inl ⟨rfl, rfl⟩) rfl (show _ < 192 from by omega) (by rw [rf_u_ne (Or.inl (by decide)), rf_u_ne (Or.inl (by decide))]; exact h11) rfl ?_
  refine wp_st 1 (f' := (137, [some (.ref (b)), some (.int (Int32.ofNat x)), some (.int (Int32.ofNat jv)), some (.int (Int32.ofNat 6)), some (.int (Int32.ofNat (a + c)))], [.long ((Int32.ofNat off).toInt64), .long (y0), .int (Int32.ofNat (L + 1)), .ref (b + 36)], A5)) rfl ?_
  rw [i64_of (by omega)]
  refine wp_st 1 (f' := (138, [some (.ref (b)), some (.int (Int32.ofNat x)), some (.int (Int32.ofNat jv)), some (.int (Int32.ofNat 6)), some (.int (Int32.ofNat (a + c)))], [.ref (b), .long (Int64.ofNat off), .long (y0), .int (Int32.ofNat (L + 1)), .ref (b + 36)], A5)) rfl ?_
  refine rw_gr h6 rfl rfl rfl rfl rfl rfl ?_
  refine wp_st 1 (f' := (142, [some (.ref (b)), some (.int (Int32.ofNat x)), some (.int (Int32.ofNat jv)), some (.int (Int32.ofNat 6)), some (.int (Int32.ofNat (a + c)))], [.int (Int32.ofNat jv), .ref (b + 32), .long (Int64.ofNat off), .long (y0), .int (Int32.ofNat (L + 1)), .ref (b + 36)], A5)) rfl ?_
  refine rw_al (j := 46) (n := jv) (v := .int (Int32.ofNat k0)) h6 rfl rfl rfl (Or.inl ⟨rfl, rfl⟩) rfl (show _ < 6 from by omega) (by rw [rf_u_ne (Or.inl (by decide)), rf_u_ne (Or.inl (by decide))]; exact h46) rfl ?_
  refine wp_cs (n := 0) (A' := A5) (v := some (.long (Int64.ofNat (10 ^ k0)))) rfl rfl rfl (by omega) (rn_ten (d := d - 1) (by omega)) rfl ?_
  show am_wp d 169 (146, [some (.ref (b)), some (.int (Int32.ofNat x)), some (.int (Int32.ofNat jv)), some (.int (Int32.ofNat 6)), some (.int (Int32.ofNat (a + c)))], [.long (Int64.ofNat (10 ^ k0)), .long (Int64.ofNat off), .long (y0), .int (Int32.ofNat (L + 1)), .ref (b + 36)], A5) _
  refine wp_st 1 (f' := (147, [some (.ref (b)), some (.int (Int32.ofNat x)), some (.int (Int32.ofNat jv)), some (.int (Int32.ofNat 6)), some (.int (Int32.ofNat (a + c)))], [.long ((Int64.ofNat off) * (Int64.ofNat (10 ^ k0))), .long (y0), .int (Int32.ofNat (L + 1)), .ref (b + 36)], A5)) rfl ?_
  rw [(Int64.ofNat_mul off (10 ^ k0)).symm]
  refine wp_st 1 (f' := (148, [some (.ref (b)), some (.int (Int32.ofNat x)), some (.int (Int32.ofNat jv)), some (.int (Int32.ofNat 6)), some (.int (Int32.ofNat (a + c)))], [.long (y0 - (Int64.ofNat (off * 10 ^ k0))), .int (Int32.ofNat (L + 1)), .ref (b + 36)], A5)) rfl ?_
  refine rw_ls (j := 52) (n := L + 1) h6 rfl rfl rfl rfl (show _ < 4 from by omega) rfl (fun A9 h10 f11 => ?_)
  have f12 := f8.trans f11
  refine wp_st 1 (f' := (150, [some (.ref (b)), some (.int (Int32.ofNat x)), some (.int (Int32.ofNat jv)), some (.int (Int32.ofNat 6)), some (.int (Int32.ofNat (a + c)))], [.ref (b)], A9)) rfl ?_
  refine rw_gr h10 rfl rfl rfl rfl rfl rfl ?_
  refine wp_st 1 (f' := (154, [some (.ref (b)), some (.int (Int32.ofNat x)), some (.int (Int32.ofNat jv)), some (.int (Int32.ofNat 6)), some (.int (Int32.ofNat (a + c)))], [.ref (b), .ref (b + 37)], A9)) rfl ?_
  refine rw_gf (v := .int (Int32.ofNat (L + 1))) h10 rfl rfl rfl rfl (rfl) rfl ?_
  refine wp_st 1 (f' := (158, [some (.ref (b)), some (.int (Int32.ofNat x)), some (.int (Int32.ofNat jv)), some (.int (Int32.ofNat 6)), some (.int (Int32.ofNat (a + c)))], [.ref (b), .int (Int32.ofNat (L + 1)), .ref (b + 37)], A9)) rfl ?_
  refine rw_gr h10 rfl rfl rfl rfl rfl rfl ?_
  refine wp_st 1 (f' := (162, [some (.ref (b)), some (.int (Int32.ofNat x)), some (.int (Int32.ofNat jv)), some (.int (Int32.ofNat 6)), some (.int (Int32.ofNat (a + c)))], [.int (Int32.ofNat jv), .ref (b + 32), .int (Int32.ofNat (L + 1)), .ref (b + 37)], A9)) rfl ?_
  refine rw_al (j := 46) (n := jv) (v := .int (Int32.ofNat k0)) h10 rfl rfl rfl (Or.inl ⟨rfl, rfl⟩) rfl (show _ < 6 from by omega) (by rw [rf_u_ne (Or.inl (by decide)), rf_u_ne (Or.inl (by decide)), rf_u_ne (Or.inl (by decide))]; exact h46) rfl ?_
  refine rw_as (j := 53) (n := L + 1) (v := .int (Int32.ofNat k0)) h10 rfl rfl rfl (Or.inl ⟨rfl, rfl, rfl⟩) (show _ < 4 from by omega) rfl rfl (fun A13 h14 f15 => ?_)
  have f16 := f12.trans f15
  refine wp_st 1 (f' := (243, [some (.ref (b)), some (.int (Int32.ofNat x)), some (.int (Int32.ofNat jv)), some (.int (Int32.ofNat 6)), some (.int (Int32.ofNat (a + c)))], [], A13)) rfl ?_
  refine wp_rt rfl rfl rfl ?_
  exact ⟨rfl, h14, f16⟩
theorem ra_b6n {d b x nv jv N : Nat} {nf cf : Nat → Int32} {bf : Nat → Bool} {lf : Nat → Int64} {s : rf_S} {A : am_H} {k0 L a c off : Nat} {y0 : Int64} {v15 : Int32} (hd : 3 ≤ d) (hx9 : x < 192) (h9 : s 9 x = .int (Int32.ofNat N)) (hv : rf_vs s nv nf bf lf cf) (h : rf A b s) (hfd : rf_fd nf (Int32.ofNat N) nv 0 = some jv) (hjv : jv < 6) (h10 : s 10 x = .int (Int32.ofNat 6)) (h44 : s 44 jv = .int (Int32.ofNat 0)) (hk0 : k0 ≤ 6) (hL : L < 3) (hoff : off < 100) (hac : a + c < 192) (h22 : s 22 0 = .int (Int32.ofNat L)) (h45 : s 45 jv = .long y0) (h46 : s 46 jv = .int (Int32.ofNat k0)) (h11 : s 11 x = .int (Int32.ofNat off)) (h15 : s 15 (a + c) = .int v15) (hch : am_go (d - 1) 170 [.ref b, .int (Int32.ofNat x), .int (Int32.ofNat jv)] A (.inl (some (.int (Int32.ofNat (a + c)))), A)) : rf_go d 169 [.ref b, .int (Int32.ofNat x)] A b none (rf_u (rf_u (rf_u (rf_u s 22 0 (.int (Int32.ofNat (L + 1)))) 51 (L + 1) (.int v15)) 52 (L + 1) (.long (y0 - Int64.ofNat (off * 10 ^ k0)))) 53 (L + 1) (.int (Int32.ofNat k0))) := by
  refine rf_of ?_
  refine wp_st 2 (f' := (2, [some (.ref (b)), some (.int (Int32.ofNat x)), none, none, none], [.ref (b), .ref (b)], A)) rfl ?_
  refine rw_gr h rfl rfl rfl rfl rfl rfl ?_
  refine wp_st 1 (f' := (6, [some (.ref (b)), some (.int (Int32.ofNat x)), none, none, none], [.int (Int32.ofNat x), .ref (b + 7), .ref (b)], A)) rfl ?_
  refine rw_al (j := 9) (n := x) (v := .int (Int32.ofNat N)) h rfl rfl rfl (Or.inl ⟨rfl, rfl⟩) rfl (show _ < 192 from by omega) (h9) rfl ?_
  refine wp_cv (A' := A) (v := some (.int (Int32.ofNat jv))) rfl rfl rfl rfl rfl (show _ from h.1) (by omega) (by have e := rn_fd (d := d - 1) (x := Int32.ofNat N) hv h; rw [hfd] at e; exact e) rfl ?_
  show am_wp d 169 (10, [some (.ref (b)), some (.int (Int32.ofNat x)), none, none, none], [.int (Int32.ofNat jv)], A) _
  refine wp_st 2 (f' := (12, [some (.ref (b)), some (.int (Int32.ofNat x)), some (.int (Int32.ofNat jv)), none, none], [.int (Int32.ofNat jv)], A)) rfl ?_
  refine wp_izT rfl rfl (Int32.not_lt.mp (Int32.ofNat_not_neg (by omega))) ?_
  refine wp_st 1 (f' := (22, [some (.ref (b)), some (.int (Int32.ofNat x)), some (.int (Int32.ofNat jv)), none, none], [.ref (b)], A)) rfl ?_
  refine rw_gr h rfl rfl rfl rfl rfl rfl ?_
  refine wp_st 1 (f' := (26, [some (.ref (b)), some (.int (Int32.ofNat x)), some (.int (Int32.ofNat jv)), none, none], [.int (Int32.ofNat x), .ref (b + 8)], A)) rfl ?_
  refine rw_al (j := 10) (n := x) (v := .int (Int32.ofNat 6)) h rfl rfl rfl (Or.inl ⟨rfl, rfl⟩) rfl (show _ < 192 from by omega) (h10) rfl ?_
  refine wp_st 2 (f' := (29, [some (.ref (b)), some (.int (Int32.ofNat x)), some (.int (Int32.ofNat jv)), some (.int (Int32.ofNat 6)), none], [.ref (b)], A)) rfl ?_
  refine rw_gr h rfl rfl rfl rfl rfl rfl ?_
  refine wp_st 1 (f' := (33, [some (.ref (b)), some (.int (Int32.ofNat x)), some (.int (Int32.ofNat jv)), some (.int (Int32.ofNat 6)), none], [.int (Int32.ofNat jv), .ref (b + 30)], A)) rfl ?_
  refine rw_al (j := 44) (n := jv) (v := .int (Int32.ofNat 0)) h rfl rfl rfl (Or.inr (Or.inr (Or.inr (Or.inl ⟨rfl, rfl⟩)))) rfl (show _ < 6 from by omega) (h44) rfl ?_
  refine wp_izT rfl rfl (show (Int32.ofNat 0) = (Int32.ofNat 0) from by decide) ?_
  refine wp_st 2 (f' := (59, [some (.ref (b)), some (.int (Int32.ofNat x)), some (.int (Int32.ofNat jv)), some (.int (Int32.ofNat 6)), none], [.int (Int32.ofNat 2), .int (Int32.ofNat 6)], A)) rfl ?_
  refine wp_ifT rfl rfl (show (Int32.ofNat 6) ≠ (Int32.ofNat 2) from by decide) ?_
  refine wp_st 2 (f' := (79, [some (.ref (b)), some (.int (Int32.ofNat x)), some (.int (Int32.ofNat jv)), some (.int (Int32.ofNat 6)), none], [.int (Int32.ofNat 4), .int (Int32.ofNat 6)], A)) rfl ?_
  refine wp_ifF rfl rfl (show ¬ ((Int32.ofNat 6) < (Int32.ofNat 4)) from by decide) ?_
  refine wp_st 3 (f' := (85, [some (.ref (b)), some (.int (Int32.ofNat x)), some (.int (Int32.ofNat jv)), some (.int (Int32.ofNat 6)), none], [.int (Int32.ofNat jv), .int (Int32.ofNat x), .ref (b)], A)) rfl ?_
  refine wp_cv (A' := A) (v := some (.int (Int32.ofNat (a + c)))) rfl rfl rfl rfl rfl (show _ from h.1) (by omega) (hch) rfl ?_
  show am_wp d 169 (88, [some (.ref (b)), some (.int (Int32.ofNat x)), some (.int (Int32.ofNat jv)), some (.int (Int32.ofNat 6)), none], [.int (Int32.ofNat (a + c))], A) _
  refine wp_st 3 (f' := (92, [some (.ref (b)), some (.int (Int32.ofNat x)), some (.int (Int32.ofNat jv)), some (.int (Int32.ofNat 6)), some (.int (Int32.ofNat (a + c)))], [.ref (b), .ref (b)], A)) rfl ?_
  refine rw_gf (v := .int (Int32.ofNat L)) h rfl rfl rfl rfl (h22) rfl ?_
  refine wp_st 2 (f' := (97, [some (.ref (b)), some (.int (Int32.ofNat x)), some (.int (Int32.ofNat jv)), some (.int (Int32.ofNat 6)), some (.int (Int32.ofNat (a + c)))], [.int ((Int32.ofNat L) + (Int32.ofNat 1)), .ref (b)], A)) rfl ?_
  rw [i32_add (L) (1)]
  refine rw_pf (v := .int (Int32.ofNat (L + 1))) h rfl rfl rfl rfl rfl rfl (fun A1 h2 f3 => ?_)
  have f4 := (sb_fr.refl A b (b + 38)).trans f3
  refine wp_st 1 (f' := (101, [some (.ref (b)), some (.int (Int32.ofNat x)), some (.int (Int32.ofNat jv)), some (.int (Int32.ofNat 6)), some (.int (Int32.ofNat (a + c)))], [.ref (b)], A1)) rfl ?_
  refine rw_gr h2 rfl rfl rfl rfl rfl rfl ?_
  refine wp_st 1 (f' := (105, [some (.ref (b)), some (.int (Int32.ofNat x)), some (.int (Int32.ofNat jv)), some (.int (Int32.ofNat 6)), some (.int (Int32.ofNat (a + c)))], [.ref (b), .ref (b + 35)], A1)) rfl ?_
  refine rw_gf (v := .int (Int32.ofNat (L + 1))) h2 rfl rfl rfl rfl (rfl) rfl ?_
  refine wp_st 1 (f' := (109, [some (.ref (b)), some (.int (Int32.ofNat x)), some (.int (Int32.ofNat jv)), some (.int (Int32.ofNat 6)), some (.int (Int32.ofNat (a + c)))], [.ref (b), .int (Int32.ofNat (L + 1)), .ref (b + 35)], A1)) rfl ?_
  refine rw_gr h2 rfl rfl rfl rfl rfl rfl ?_
  refine wp_st 1 (f' := (114, [some (.ref (b)), some (.int (Int32.ofNat x)), some (.int (Int32.ofNat jv)), some (.int (Int32.ofNat 6)), some (.int (Int32.ofNat (a + c)))], [.int (Int32.ofNat (a + c)), .ref (b + 13), .int (Int32.ofNat (L + 1)), .ref (b + 35)], A1)) rfl ?_
  refine rw_al (j := 15) (n := a + c) (v := .int (v15)) h2 rfl rfl rfl (Or.inl ⟨rfl, rfl⟩) rfl (show _ < 192 from by omega) (by rw [rf_u_ne (Or.inl (by decide))]; exact h15) rfl ?_
  refine rw_as (j := 51) (n := L + 1) (v := .int (v15)) h2 rfl rfl rfl (Or.inl ⟨rfl, rfl, rfl⟩) (show _ < 4 from by omega) rfl rfl (fun A5 h6 f7 => ?_)
  have f8 := f4.trans f7
  refine wp_st 1 (f' := (117, [some (.ref (b)), some (.int (Int32.ofNat x)), some (.int (Int32.ofNat jv)), some (.int (Int32.ofNat 6)), some (.int (Int32.ofNat (a + c)))], [.ref (b)], A5)) rfl ?_
  refine rw_gr h6 rfl rfl rfl rfl rfl rfl ?_
  refine wp_st 1 (f' := (121, [some (.ref (b)), some (.int (Int32.ofNat x)), some (.int (Int32.ofNat jv)), some (.int (Int32.ofNat 6)), some (.int (Int32.ofNat (a + c)))], [.ref (b), .ref (b + 36)], A5)) rfl ?_
  refine rw_gf (v := .int (Int32.ofNat (L + 1))) h6 rfl rfl rfl rfl (rfl) rfl ?_
  refine wp_st 1 (f' := (125, [some (.ref (b)), some (.int (Int32.ofNat x)), some (.int (Int32.ofNat jv)), some (.int (Int32.ofNat 6)), some (.int (Int32.ofNat (a + c)))], [.ref (b), .int (Int32.ofNat (L + 1)), .ref (b + 36)], A5)) rfl ?_
  refine rw_gr h6 rfl rfl rfl rfl rfl rfl ?_
  refine wp_st 1 (f' := (129, [some (.ref (b)), some (.int (Int32.ofNat x)), some (.int (Int32.ofNat jv)), some (.int (Int32.ofNat 6)), some (.int (Int32.ofNat (a + c)))], [.int (Int32.ofNat jv), .ref (b + 31), .int (Int32.ofNat (L + 1)), .ref (b + 36)], A5)) rfl ?_
  refine rw_al (j := 45) (n := jv) (v := .long (y0)) h6 rfl rfl rfl (Or.inr (Or.inl ⟨rfl, rfl⟩)) rfl (show _ < 6 from by omega) (by rw [rf_u_ne (Or.inl (by decide)), rf_u_ne (Or.inl (by decide))]; exact h45) rfl ?_
  refine wp_st 1 (f' := (131, [some (.ref (b)), some (.int (Int32.ofNat x)), some (.int (Int32.ofNat jv)), some (.int (Int32.ofNat 6)), some (.int (Int32.ofNat (a + c)))], [.ref (b), .long (y0), .int (Int32.ofNat (L + 1)), .ref (b + 36)], A5)) rfl ?_
  refine rw_gr h6 rfl rfl rfl rfl rfl rfl ?_
  refine wp_st 1 (f' := (135, [some (.ref (b)), some (.int (Int32.ofNat x)), some (.int (Int32.ofNat jv)), some (.int (Int32.ofNat 6)), some (.int (Int32.ofNat (a + c)))], [.int (Int32.ofNat x), .ref (b + 9), .long (y0), .int (Int32.ofNat (L + 1)), .ref (b + 36)], A5)) rfl ?_
  refine rw_al (j := 11) (n := x) (v := .int (Int32.ofNat off)) h6 rfl rfl rfl (Or.inl ⟨rfl, rfl⟩) rfl (show _ < 192 from by omega) (by rw [rf_u_ne (Or.inl (by decide)), rf_u_ne (Or.inl (by decide))]; exact h11) rfl ?_
  refine wp_st 1 (f' := (137, [some (.ref (b)), some (.int (Int32.ofNat x)), some (.int (Int32.ofNat jv)), some (.int (Int32.ofNat 6)), some (.int (Int32.ofNat (a + c)))], [.long ((Int32.ofNat off).toInt64), .long (y0), .int (Int32.ofNat (L + 1)), .ref (b + 36)], A5)) rfl ?_
  rw [i64_of (by omega)]
  refine wp_st 1 (f' := (138, [some (.ref (b)), some (.int (Int32.ofNat x)), some (.int (Int32.ofNat jv)), some (.int (Int32.ofNat 6)), some (.int (Int32.ofNat (a + c)))], [.ref (b), .long (Int64.ofNat off), .long (y0), .int (Int32.ofNat (L + 1)), .ref (b + 36)], A5)) rfl ?_
  refine rw_gr h6 rfl rfl rfl rfl rfl rfl ?_
  refine wp_st 1 (f' := (142, [some (.ref (b)), some (.int (Int32.ofNat x)), some (.int (Int32.ofNat jv)), some (.int (Int32.ofNat 6)), some (.int (Int32.ofNat (a + c)))], [.int (Int32.ofNat jv), .ref (b + 32), .long (Int64.ofNat off), .long (y0), .int (Int32.ofNat (L + 1)), .ref (b + 36)], A5)) rfl ?_
  refine rw_al (j := 46) (n := jv) (v := .int (Int32.ofNat k0)) h6 rfl rfl rfl (Or.inl ⟨rfl, rfl⟩) rfl (show _ < 6 from by omega) (by rw [rf_u_ne (Or.inl (by decide)), rf_u_ne (Or.inl (by decide))]; exact h46) rfl ?_
  refine wp_cs (n := 0) (A' := A5) (v := some (.long (Int64.ofNat (10 ^ k0)))) rfl rfl rfl (by omega) (rn_ten (d := d - 1) (by omega)) rfl ?_
  show am_wp d 169 (146, [some (.ref (b)), some (.int (Int32.ofNat x)), some (.int (Int32.ofNat jv)), some (.int (Int32.ofNat 6)), some (.int (Int32.ofNat (a + c)))], [.long (Int64.ofNat (10 ^ k0)), .long (Int64.ofNat off), .long (y0), .int (Int32.ofNat (L + 1)), .ref (b + 36)], A5) _
  refine wp_st 1 (f' := (147, [some (.ref (b)), some (.int (Int32.ofNat x)), some (.int (Int32.ofNat jv)), some (.int (Int32.ofNat 6)), some (.int (Int32.ofNat (a + c)))], [.long ((Int64.ofNat off) * (Int64.ofNat (10 ^ k0))), .long (y0), .int (Int32.ofNat (L + 1)), .ref (b + 36)], A5)) rfl ?_
  rw [(Int64.ofNat_mul off (10 ^ k0)).symm]
  refine wp_st 1 (f' := (148, [some (.ref (b)), some (.int (Int32.ofNat x)), some (.int (Int32.ofNat jv)), some (.int (Int32.ofNat 6)), some (.int (Int32.ofNat (a + c)))], [.long (y0 - (Int64.ofNat (off * 10 ^ k0))), .int (Int32.ofNat (L + 1)), .ref (b + 36)], A5)) rfl ?_
  refine rw_ls (j := 52) (n := L + 1) h6 rfl rfl rfl rfl (show _ < 4 from by omega) rfl (fun A9 h10 f11 => ?_)
  have f12 := f8.trans f11
  refine wp_st 1 (f' := (150, [some (.ref (b)), some (.int (Int32.ofNat x)), some (.int (Int32.ofNat jv)), some (.int (Int32.ofNat 6)), some (.int (Int32.ofNat (a + c)))], [.ref (b)], A9)) rfl ?_
  refine rw_gr h10 rfl rfl rfl rfl rfl rfl ?_
  refine wp_st 1 (f' := (154, [some (.ref (b)), some (.int (Int32.ofNat x)), some (.int (Int32.ofNat jv)), some (.int (Int32.ofNat 6)), some (.int (Int32.ofNat (a + c)))], [.ref (b), .ref (b + 37)], A9)) rfl ?_
  refine rw_gf (v := .int (Int32.ofNat (L + 1))) h10 rfl rfl rfl rfl (rfl) rfl ?_
  refine wp_st 1 (f' := (158, [some (.ref (b)), some (.int (Int32.ofNat x)), some (.int (Int32.ofNat jv)), some (.int (Int32.ofNat 6)), some (.int (Int32.ofNat (a + c)))], [.ref (b), .int (Int32.ofNat (L + 1)), .ref (b + 37)], A9)) rfl ?_
  refine rw_gr h10 rfl rfl rfl rfl rfl rfl ?_
  refine wp_st 1 (f' := (162, [some (.ref (b)), some (.int (Int32.ofNat x)), some (.int (Int32.ofNat jv)), some (.int (Int32.ofNat 6)), some (.int (Int32.ofNat (a + c)))], [.int (Int32.ofNat jv), .ref (b + 32), .int (Int32.ofNat (L + 1)), .ref (b + 37)], A9)) rfl ?_
  refine rw_al (j := 46) (n := jv) (v := .int (Int32.ofNat k0)) h10 rfl rfl rfl (Or.inl ⟨rfl, rfl⟩) rfl (show _ < 6 from by omega) (by rw [rf_u_ne (Or.inl (by decide)), rf_u_ne (Or.inl (by decide)), rf_u_ne (Or.inl (by decide))]; exact h46) rfl ?_
  refine rw_as (j := 53) (n := L + 1) (v := .int (Int32.ofNat k0)) h10 rfl rfl rfl (Or.inl ⟨rfl, rfl, rfl⟩) (show _ < 4 from by omega) rfl rfl (fun A13 h14 f15 => ?_)
  have f16 := f12.trans f15
  refine wp_st 1 (f' := (243, [some (.ref (b)), some (.int (Int32.ofNat x)), some (.int (Int32.ofNat jv)), some (.int (Int32.ofNat 6)), some (.int (Int32.ofNat (a + c)))], [], A13)) rfl ?_
  refine wp_rt rfl rfl rfl ?_
  exact ⟨rfl, h14, f16⟩
theorem ra_b4n {d b x nv jv N : Nat} {nf cf : Nat → Int32} {bf : Nat → Bool} {lf : Nat → Int64} {s : rf_S} {A : am_H} {k0 L a c off : Nat} {y0 : Int64} {v15 : Int32} (hd : 3 ≤ d) (hx9 : x < 192) (h9 : s 9 x = .int (Int32.ofNat N)) (hv : rf_vs s nv nf bf lf cf) (h : rf A b s) (hfd : rf_fd nf (Int32.ofNat N) nv 0 = some jv) (hjv : jv < 6) (h10 : s 10 x = .int (Int32.ofNat 4)) (h44 : s 44 jv = .int (Int32.ofNat 0)) (hk0 : k0 ≤ 6) (hL : L < 3) (hoff : off < 100) (hac : a + c < 192) (h22 : s 22 0 = .int (Int32.ofNat L)) (h45 : s 45 jv = .long y0) (h46 : s 46 jv = .int (Int32.ofNat k0)) (h11 : s 11 x = .int (Int32.ofNat off)) (h15 : s 15 (a + c) = .int v15) (hch : am_go (d - 1) 170 [.ref b, .int (Int32.ofNat x), .int (Int32.ofNat jv)] A (.inl (some (.int (Int32.ofNat (a + c)))), A)) : rf_go d 169 [.ref b, .int (Int32.ofNat x)] A b none (rf_u (rf_u (rf_u (rf_u s 22 0 (.int (Int32.ofNat (L + 1)))) 51 (L + 1) (.int v15)) 52 (L + 1) (.long (y0 - Int64.ofNat (off * 10 ^ k0)))) 53 (L + 1) (.int (Int32.ofNat k0))) := by
  refine rf_of ?_
  refine wp_st 2 (f' := (2, [some (.ref (b)), some (.int (Int32.ofNat x)), none, none, none], [.ref (b), .ref (b)], A)) rfl ?_
  refine rw_gr h rfl rfl rfl rfl rfl rfl ?_
  refine wp_st 1 (f' := (6, [some (.ref (b)), some (.int (Int32.ofNat x)), none, none, none], [.int (Int32.ofNat x), .ref (b + 7), .ref (b)], A)) rfl ?_
  refine rw_al (j := 9) (n := x) (v := .int (Int32.ofNat N)) h rfl rfl rfl (Or.inl ⟨rfl, rfl⟩) rfl (show _ < 192 from by omega) (h9) rfl ?_
  refine wp_cv (A' := A) (v := some (.int (Int32.ofNat jv))) rfl rfl rfl rfl rfl (show _ from h.1) (by omega) (by have e := rn_fd (d := d - 1) (x := Int32.ofNat N) hv h; rw [hfd] at e; exact e) rfl ?_
  show am_wp d 169 (10, [some (.ref (b)), some (.int (Int32.ofNat x)), none, none, none], [.int (Int32.ofNat jv)], A) _
  refine wp_st 2 (f' := (12, [some (.ref (b)), some (.int (Int32.ofNat x)), some (.int (Int32.ofNat jv)), none, none], [.int (Int32.ofNat jv)], A)) rfl ?_
  refine wp_izT rfl rfl (Int32.not_lt.mp (Int32.ofNat_not_neg (by omega))) ?_
  refine wp_st 1 (f' := (22, [some (.ref (b)), some (.int (Int32.ofNat x)), some (.int (Int32.ofNat jv)), none, none], [.ref (b)], A)) rfl ?_
  refine rw_gr h rfl rfl rfl rfl rfl rfl ?_
  refine wp_st 1 (f' := (26, [some (.ref (b)), some (.int (Int32.ofNat x)), some (.int (Int32.ofNat jv)), none, none], [.int (Int32.ofNat x), .ref (b + 8)], A)) rfl ?_
  refine rw_al (j := 10) (n := x) (v := .int (Int32.ofNat 4)) h rfl rfl rfl (Or.inl ⟨rfl, rfl⟩) rfl (show _ < 192 from by omega) (h10) rfl ?_
  refine wp_st 2 (f' := (29, [some (.ref (b)), some (.int (Int32.ofNat x)), some (.int (Int32.ofNat jv)), some (.int (Int32.ofNat 4)), none], [.ref (b)], A)) rfl ?_
  refine rw_gr h rfl rfl rfl rfl rfl rfl ?_
  refine wp_st 1 (f' := (33, [some (.ref (b)), some (.int (Int32.ofNat x)), some (.int (Int32.ofNat jv)), some (.int (Int32.ofNat 4)), none], [.int (Int32.ofNat jv), .ref (b + 30)], A)) rfl ?_
  refine rw_al (j := 44) (n := jv) (v := .int (Int32.ofNat 0)) h rfl rfl rfl (Or.inr (Or.inr (Or.inr (Or.inl ⟨rfl, rfl⟩)))) rfl (show _ < 6 from by omega) (h44) rfl ?_
  refine wp_izT rfl rfl (show (Int32.ofNat 0) = (Int32.ofNat 0) from by decide) ?_
  refine wp_st 2 (f' := (59, [some (.ref (b)), some (.int (Int32.ofNat x)), some (.int (Int32.ofNat jv)), some (.int (Int32.ofNat 4)), none], [.int (Int32.ofNat 2), .int (Int32.ofNat 4)], A)) rfl ?_
  refine wp_ifT rfl rfl (show (Int32.ofNat 4) ≠ (Int32.ofNat 2) from by decide) ?_
  refine wp_st 2 (f' := (79, [some (.ref (b)), some (.int (Int32.ofNat x)), some (.int (Int32.ofNat jv)), some (.int (Int32.ofNat 4)), none], [.int (Int32.ofNat 4), .int (Int32.ofNat 4)], A)) rfl ?_
  refine wp_ifF rfl rfl (show ¬ ((Int32.ofNat 4) < (Int32.ofNat 4)) from by decide) ?_
  refine wp_st 3 (f' := (85, [some (.ref (b)), some (.int (Int32.ofNat x)), some (.int (Int32.ofNat jv)), some (.int (Int32.ofNat 4)), none], [.int (Int32.ofNat jv), .int (Int32.ofNat x), .ref (b)], A)) rfl ?_
  refine wp_cv (A' := A) (v := some (.int (Int32.ofNat (a + c)))) rfl rfl rfl rfl rfl (show _ from h.1) (by omega) (hch) rfl ?_
  show am_wp d 169 (88, [some (.ref (b)), some (.int (Int32.ofNat x)), some (.int (Int32.ofNat jv)), some (.int (Int32.ofNat 4)), none], [.int (Int32.ofNat (a + c))], A) _
  refine wp_st 3 (f' := (92, [some (.ref (b)), some (.int (Int32.ofNat x)), some (.int (Int32.ofNat jv)), some (.int (Int32.ofNat 4)), some (.int (Int32.ofNat (a + c)))], [.ref (b), .ref (b)], A)) rfl ?_
  refine rw_gf (v := .int (Int32.ofNat L)) h rfl rfl rfl rfl (h22) rfl ?_
  refine wp_st 2 (f' := (97, [some (.ref (b)), some (.int (Int32.ofNat x)), some (.int (Int32.ofNat jv)), some (.int (Int32.ofNat 4)), some (.int (Int32.ofNat (a + c)))], [.int ((Int32.ofNat L) + (Int32.ofNat 1)), .ref (b)], A)) rfl ?_
  rw [i32_add (L) (1)]
  refine rw_pf (v := .int (Int32.ofNat (L + 1))) h rfl rfl rfl rfl rfl rfl (fun A1 h2 f3 => ?_)
  have f4 := (sb_fr.refl A b (b + 38)).trans f3
  refine wp_st 1 (f' := (101, [some (.ref (b)), some (.int (Int32.ofNat x)), some (.int (Int32.ofNat jv)), some (.int (Int32.ofNat 4)), some (.int (Int32.ofNat (a + c)))], [.ref (b)], A1)) rfl ?_
  refine rw_gr h2 rfl rfl rfl rfl rfl rfl ?_
  refine wp_st 1 (f' := (105, [some (.ref (b)), some (.int (Int32.ofNat x)), some (.int (Int32.ofNat jv)), some (.int (Int32.ofNat 4)), some (.int (Int32.ofNat (a + c)))], [.ref (b), .ref (b + 35)], A1)) rfl ?_
  refine rw_gf (v := .int (Int32.ofNat (L + 1))) h2 rfl rfl rfl rfl (rfl) rfl ?_
  refine wp_st 1 (f' := (109, [some (.ref (b)), some (.int (Int32.ofNat x)), some (.int (Int32.ofNat jv)), some (.int (Int32.ofNat 4)), some (.int (Int32.ofNat (a + c)))], [.ref (b), .int (Int32.ofNat (L + 1)), .ref (b + 35)], A1)) rfl ?_
  refine rw_gr h2 rfl rfl rfl rfl rfl rfl ?_
  refine wp_st 1 (f' := (114, [some (.ref (b)), some (.int (Int32.ofNat x)), some (.int (Int32.ofNat jv)), some (.int (Int32.ofNat 4)), some (.int (Int32.ofNat (a + c)))], [.int (Int32.ofNat (a + c)), .ref (b + 13), .int (Int32.ofNat (L + 1)), .ref (b + 35)], A1)) rfl ?_
  refine rw_al (j := 15) (n := a + c) (v := .int (v15)) h2 rfl rfl rfl (Or.inl ⟨rfl, rfl⟩) rfl (show _ < 192 from by omega) (by rw [rf_u_ne (Or.inl (by decide))]; exact h15) rfl ?_
  refine rw_as (j := 51) (n := L + 1) (v := .int (v15)) h2 rfl rfl rfl (Or.inl ⟨rfl, rfl, rfl⟩) (show _ < 4 from by omega) rfl rfl (fun A5 h6 f7 => ?_)
  have f8 := f4.trans f7
  refine wp_st 1 (f' := (117, [some (.ref (b)), some (.int (Int32.ofNat x)), some (.int (Int32.ofNat jv)), some (.int (Int32.ofNat 4)), some (.int (Int32.ofNat (a + c)))], [.ref (b)], A5)) rfl ?_
  refine rw_gr h6 rfl rfl rfl rfl rfl rfl ?_
  refine wp_st 1 (f' := (121, [some (.ref (b)), some (.int (Int32.ofNat x)), some (.int (Int32.ofNat jv)), some (.int (Int32.ofNat 4)), some (.int (Int32.ofNat (a + c)))], [.ref (b), .ref (b + 36)], A5)) rfl ?_
  refine rw_gf (v := .int (Int32.ofNat (L + 1))) h6 rfl rfl rfl rfl (rfl) rfl ?_
  refine wp_st 1 (f' := (125, [some (.ref (b)), some (.int (Int32.ofNat x)), some (.int (Int32.ofNat jv)), some (.int (Int32.ofNat 4)), some (.int (Int32.ofNat (a + c)))], [.ref (b), .int (Int32.ofNat (L + 1)), .ref (b + 36)], A5)) rfl ?_
  refine rw_gr h6 rfl rfl rfl rfl rfl rfl ?_
  refine wp_st 1 (f' := (129, [some (.ref (b)), some (.int (Int32.ofNat x)), some (.int (Int32.ofNat jv)), some (.int (Int32.ofNat 4)), some (.int (Int32.ofNat (a + c)))], [.int (Int32.ofNat jv), .ref (b + 31), .int (Int32.ofNat (L + 1)), .ref (b + 36)], A5)) rfl ?_
  refine rw_al (j := 45) (n := jv) (v := .long (y0)) h6 rfl rfl rfl (Or.inr (Or.inl ⟨rfl, rfl⟩)) rfl (show _ < 6 from by omega) (by rw [rf_u_ne (Or.inl (by decide)), rf_u_ne (Or.inl (by decide))]; exact h45) rfl ?_
  refine wp_st 1 (f' := (131, [some (.ref (b)), some (.int (Int32.ofNat x)), some (.int (Int32.ofNat jv)), some (.int (Int32.ofNat 4)), some (.int (Int32.ofNat (a + c)))], [.ref (b), .long (y0), .int (Int32.ofNat (L + 1)), .ref (b + 36)], A5)) rfl ?_
  refine rw_gr h6 rfl rfl rfl rfl rfl rfl ?_
  refine wp_st 1 (f' := (135, [some (.ref (b)), some (.int (Int32.ofNat x)), some (.int (Int32.ofNat jv)), some (.int (Int32.ofNat 4)), some (.int (Int32.ofNat (a + c)))], [.int (Int32.ofNat x), .ref (b + 9), .long (y0), .int (Int32.ofNat (L + 1)), .ref (b + 36)], A5)) rfl ?_
  refine rw_al (j := 11) (n := x) (v := .int (Int32.ofNat off)) h6 rfl rfl rfl (Or.inl ⟨rfl, rfl⟩) rfl (show _ < 192 from by omega) (by rw [rf_u_ne (Or.inl (by decide)), rf_u_ne (Or.inl (by decide))]; exact h11) rfl ?_
  refine wp_st 1 (f' := (137, [some (.ref (b)), some (.int (Int32.ofNat x)), some (.int (Int32.ofNat jv)), some (.int (Int32.ofNat 4)), some (.int (Int32.ofNat (a + c)))], [.long ((Int32.ofNat off).toInt64), .long (y0), .int (Int32.ofNat (L + 1)), .ref (b + 36)], A5)) rfl ?_
  rw [i64_of (by omega)]
  refine wp_st 1 (f' := (138, [some (.ref (b)), some (.int (Int32.ofNat x)), some (.int (Int32.ofNat jv)), some (.int (Int32.ofNat 4)), some (.int (Int32.ofNat (a + c)))], [.ref (b), .long (Int64.ofNat off), .long (y0), .int (Int32.ofNat (L + 1)), .ref (b + 36)], A5)) rfl ?_
  refine rw_gr h6 rfl rfl rfl rfl rfl rfl ?_
  refine wp_st 1 (f' := (142, [some (.ref (b)), some (.int (Int32.ofNat x)), some (.int (Int32.ofNat jv)), some (.int (Int32.ofNat 4)), some (.int (Int32.ofNat (a + c)))], [.int (Int32.ofNat jv), .ref (b + 32), .long (Int64.ofNat off), .long (y0), .int (Int32.ofNat (L + 1)), .ref (b + 36)], A5)) rfl ?_
  refine rw_al (j := 46) (n := jv) (v := .int (Int32.ofNat k0)) h6 rfl rfl rfl (Or.inl ⟨rfl, rfl⟩) rfl (show _ < 6 from by omega) (by rw [rf_u_ne (Or.inl (by decide)), rf_u_ne (Or.inl (by decide))]; exact h46) rfl ?_
  refine wp_cs (n := 0) (A' := A5) (v := some (.long (Int64.ofNat (10 ^ k0)))) rfl rfl rfl (by omega) (rn_ten (d := d - 1) (by omega)) rfl ?_
  show am_wp d 169 (146, [some (.ref (b)), some (.int (Int32.ofNat x)), some (.int (Int32.ofNat jv)), some (.int (Int32.ofNat 4)), some (.int (Int32.ofNat (a + c)))], [.long (Int64.ofNat (10 ^ k0)), .long (Int64.ofNat off), .long (y0), .int (Int32.ofNat (L + 1)), .ref (b + 36)], A5) _
  refine wp_st 1 (f' := (147, [some (.ref (b)), some (.int (Int32.ofNat x)), some (.int (Int32.ofNat jv)), some (.int (Int32.ofNat 4)), some (.int (Int32.ofNat (a + c)))], [.long ((Int64.ofNat off) * (Int64.ofNat (10 ^ k0))), .long (y0), .int (Int32.ofNat (L + 1)), .ref (b + 36)], A5)) rfl ?_
  rw [(Int64.ofNat_mul off (10 ^ k0)).symm]
  refine wp_st 1 (f' := (148, [some (.ref (b)), some (.int (Int32.ofNat x)), some (.int (Int32.ofNat jv)), some (.int (Int32.ofNat 4)), some (.int (Int32.ofNat (a + c)))], [.long (y0 - (Int64.ofNat (off * 10 ^ k0))), .int (Int32.ofNat (L + 1)), .ref (b + 36)], A5)) rfl ?_
  refine rw_ls (j := 52) (n := L + 1) h6 rfl rfl rfl rfl (show _ < 4 from by omega) rfl (fun A9 h10 f11 => ?_)
  have f12 := f8.trans f11
  refine wp_st 1 (f' := (150, [some (.ref (b)), some (.int (Int32.ofNat x)), some (.int (Int32.ofNat jv)), some (.int (Int32.ofNat 4)), some (.int (Int32.ofNat (a + c)))], [.ref (b)], A9)) rfl ?_
  refine rw_gr h10 rfl rfl rfl rfl rfl rfl ?_
  refine wp_st 1 (f' := (154, [some (.ref (b)), some (.int (Int32.ofNat x)), some (.int (Int32.ofNat jv)), some (.int (Int32.ofNat 4)), some (.int (Int32.ofNat (a + c)))], [.ref (b), .ref (b + 37)], A9)) rfl ?_
  refine rw_gf (v := .int (Int32.ofNat (L + 1))) h10 rfl rfl rfl rfl (rfl) rfl ?_
  refine wp_st 1 (f' := (158, [some (.ref (b)), some (.int (Int32.ofNat x)), some (.int (Int32.ofNat jv)), some (.int (Int32.ofNat 4)), some (.int (Int32.ofNat (a + c)))], [.ref (b), .int (Int32.ofNat (L + 1)), .ref (b + 37)], A9)) rfl ?_
  refine rw_gr h10 rfl rfl rfl rfl rfl rfl ?_
  refine wp_st 1 (f' := (162, [some (.ref (b)), some (.int (Int32.ofNat x)), some (.int (Int32.ofNat jv)), some (.int (Int32.ofNat 4)), some (.int (Int32.ofNat (a + c)))], [.int (Int32.ofNat jv), .ref (b + 32), .int (Int32.ofNat (L + 1)), .ref (b + 37)], A9)) rfl ?_
  refine rw_al (j := 46) (n := jv) (v := .int (Int32.ofNat k0)) h10 rfl rfl rfl (Or.inl ⟨rfl, rfl⟩) rfl (show _ < 6 from by omega) (by rw [rf_u_ne (Or.inl (by decide)), rf_u_ne (Or.inl (by decide)), rf_u_ne (Or.inl (by decide))]; exact h46) rfl ?_
  refine rw_as (j := 53) (n := L + 1) (v := .int (Int32.ofNat k0)) h10 rfl rfl rfl (Or.inl ⟨rfl, rfl, rfl⟩) (show _ < 4 from by omega) rfl rfl (fun A13 h14 f15 => ?_)
  have f16 := f12.trans f15
  refine wp_st 1 (f' := (243, [some (.ref (b)), some (.int (Int32.ofNat x)), some (.int (Int32.ofNat jv)), some (.int (Int32.ofNat 4)), some (.int (Int32.ofNat (a + c)))], [], A13)) rfl ?_
  refine wp_rt rfl rfl rfl ?_
  exact ⟨rfl, h14, f16⟩
theorem ra_b5n {d b x nv jv N : Nat} {nf cf : Nat → Int32} {bf : Nat → Bool} {lf : Nat → Int64} {s : rf_S} {A : am_H} {k0 L a c off : Nat} {y0 : Int64} {v15 : Int32} (hd : 3 ≤ d) (hx9 : x < 192) (h9 : s 9 x = .int (Int32.ofNat N)) (hv : rf_vs s nv nf bf lf cf) (h : rf A b s) (hfd : rf_fd nf (Int32.ofNat N) nv 0 = some jv) (hjv : jv < 6) (h10 : s 10 x = .int (Int32.ofNat 5)) (h44 : s 44 jv = .int (Int32.ofNat 0)) (hk0 : k0 ≤ 6) (hL : L < 3) (hoff : off < 100) (hac : a + c < 192) (h22 : s 22 0 = .int (Int32.ofNat L)) (h45 : s 45 jv = .long y0) (h46 : s 46 jv = .int (Int32.ofNat k0)) (h11 : s 11 x = .int (Int32.ofNat off)) (h15 : s 15 (a + c) = .int v15) (hch : am_go (d - 1) 170 [.ref b, .int (Int32.ofNat x), .int (Int32.ofNat jv)] A (.inl (some (.int (Int32.ofNat (a + c)))), A)) : rf_go d 169 [.ref b, .int (Int32.ofNat x)] A b none (rf_u (rf_u (rf_u (rf_u s 22 0 (.int (Int32.ofNat (L + 1)))) 51 (L + 1) (.int v15)) 52 (L + 1) (.long (y0 - Int64.ofNat (off * 10 ^ k0)))) 53 (L + 1) (.int (Int32.ofNat k0))) := by
  refine rf_of ?_
  refine wp_st 2 (f' := (2, [some (.ref (b)), some (.int (Int32.ofNat x)), none, none, none], [.ref (b), .ref (b)], A)) rfl ?_
  refine rw_gr h rfl rfl rfl rfl rfl rfl ?_
  refine wp_st 1 (f' := (6, [some (.ref (b)), some (.int (Int32.ofNat x)), none, none, none], [.int (Int32.ofNat x), .ref (b + 7), .ref (b)], A)) rfl ?_
  refine rw_al (j := 9) (n := x) (v := .int (Int32.ofNat N)) h rfl rfl rfl (Or.inl ⟨rfl, rfl⟩) rfl (show _ < 192 from by omega) (h9) rfl ?_
  refine wp_cv (A' := A) (v := some (.int (Int32.ofNat jv))) rfl rfl rfl rfl rfl (show _ from h.1) (by omega) (by have e := rn_fd (d := d - 1) (x := Int32.ofNat N) hv h; rw [hfd] at e; exact e) rfl ?_
  show am_wp d 169 (10, [some (.ref (b)), some (.int (Int32.ofNat x)), none, none, none], [.int (Int32.ofNat jv)], A) _
  refine wp_st 2 (f' := (12, [some (.ref (b)), some (.int (Int32.ofNat x)), some (.int (Int32.ofNat jv)), none, none], [.int (Int32.ofNat jv)], A)) rfl ?_
  refine wp_izT rfl rfl (Int32.not_lt.mp (Int32.ofNat_not_neg (by omega))) ?_
  refine wp_st 1 (f' := (22, [some (.ref (b)), some (.int (Int32.ofNat x)), some (.int (Int32.ofNat jv)), none, none], [.ref (b)], A)) rfl ?_
  refine rw_gr h rfl rfl rfl rfl rfl rfl ?_
  refine wp_st 1 (f' := (26, [some (.ref (b)), some (.int (Int32.ofNat x)), some (.int (Int32.ofNat jv)), none, none], [.int (Int32.ofNat x), .ref (b + 8)], A)) rfl ?_
  refine rw_al (j := 10) (n := x) (v := .int (Int32.ofNat 5)) h rfl rfl rfl (Or.inl ⟨rfl, rfl⟩) rfl (show _ < 192 from by omega) (h10) rfl ?_
  refine wp_st 2 (f' := (29, [some (.ref (b)), some (.int (Int32.ofNat x)), some (.int (Int32.ofNat jv)), some (.int (Int32.ofNat 5)), none], [.ref (b)], A)) rfl ?_
  refine rw_gr h rfl rfl rfl rfl rfl rfl ?_
  refine wp_st 1 (f' := (33, [some (.ref (b)), some (.int (Int32.ofNat x)), some (.int (Int32.ofNat jv)), some (.int (Int32.ofNat 5)), none], [.int (Int32.ofNat jv), .ref (b + 30)], A)) rfl ?_
  refine rw_al (j := 44) (n := jv) (v := .int (Int32.ofNat 0)) h rfl rfl rfl (Or.inr (Or.inr (Or.inr (Or.inl ⟨rfl, rfl⟩)))) rfl (show _ < 6 from by omega) (h44) rfl ?_
  refine wp_izT rfl rfl (show (Int32.ofNat 0) = (Int32.ofNat 0) from by decide) ?_
  refine wp_st 2 (f' := (59, [some (.ref (b)), some (.int (Int32.ofNat x)), some (.int (Int32.ofNat jv)), some (.int (Int32.ofNat 5)), none], [.int (Int32.ofNat 2), .int (Int32.ofNat 5)], A)) rfl ?_
  refine wp_ifT rfl rfl (show (Int32.ofNat 5) ≠ (Int32.ofNat 2) from by decide) ?_
  refine wp_st 2 (f' := (79, [some (.ref (b)), some (.int (Int32.ofNat x)), some (.int (Int32.ofNat jv)), some (.int (Int32.ofNat 5)), none], [.int (Int32.ofNat 4), .int (Int32.ofNat 5)], A)) rfl ?_
  refine wp_ifF rfl rfl (show ¬ ((Int32.ofNat 5) < (Int32.ofNat 4)) from by decide) ?_
  refine wp_st 3 (f' := (85, [some (.ref (b)), some (.int (Int32.ofNat x)), some (.int (Int32.ofNat jv)), some (.int (Int32.ofNat 5)), none], [.int (Int32.ofNat jv), .int (Int32.ofNat x), .ref (b)], A)) rfl ?_
  refine wp_cv (A' := A) (v := some (.int (Int32.ofNat (a + c)))) rfl rfl rfl rfl rfl (show _ from h.1) (by omega) (hch) rfl ?_
  show am_wp d 169 (88, [some (.ref (b)), some (.int (Int32.ofNat x)), some (.int (Int32.ofNat jv)), some (.int (Int32.ofNat 5)), none], [.int (Int32.ofNat (a + c))], A) _
  refine wp_st 3 (f' := (92, [some (.ref (b)), some (.int (Int32.ofNat x)), some (.int (Int32.ofNat jv)), some (.int (Int32.ofNat 5)), some (.int (Int32.ofNat (a + c)))], [.ref (b), .ref (b)], A)) rfl ?_
  refine rw_gf (v := .int (Int32.ofNat L)) h rfl rfl rfl rfl (h22) rfl ?_
  refine wp_st 2 (f' := (97, [some (.ref (b)), some (.int (Int32.ofNat x)), some (.int (Int32.ofNat jv)), some (.int (Int32.ofNat 5)), some (.int (Int32.ofNat (a + c)))], [.int ((Int32.ofNat L) + (Int32.ofNat 1)), .ref (b)], A)) rfl ?_
  rw [i32_add (L) (1)]
  refine rw_pf (v := .int (Int32.ofNat (L + 1))) h rfl rfl rfl rfl rfl rfl (fun A1 h2 f3 => ?_)
  have f4 := (sb_fr.refl A b (b + 38)).trans f3
  refine wp_st 1 (f' := (101, [some (.ref (b)), some (.int (Int32.ofNat x)), some (.int (Int32.ofNat jv)), some (.int (Int32.ofNat 5)), some (.int (Int32.ofNat (a + c)))], [.ref (b)], A1)) rfl ?_
  refine rw_gr h2 rfl rfl rfl rfl rfl rfl ?_
  refine wp_st 1 (f' := (105, [some (.ref (b)), some (.int (Int32.ofNat x)), some (.int (Int32.ofNat jv)), some (.int (Int32.ofNat 5)), some (.int (Int32.ofNat (a + c)))], [.ref (b), .ref (b + 35)], A1)) rfl ?_
  refine rw_gf (v := .int (Int32.ofNat (L + 1))) h2 rfl rfl rfl rfl (rfl) rfl ?_
  refine wp_st 1 (f' := (109, [some (.ref (b)), some (.int (Int32.ofNat x)), some (.int (Int32.ofNat jv)), some (.int (Int32.ofNat 5)), some (.int (Int32.ofNat (a + c)))], [.ref (b), .int (Int32.ofNat (L + 1)), .ref (b + 35)], A1)) rfl ?_
  refine rw_gr h2 rfl rfl rfl rfl rfl rfl ?_
  refine wp_st 1 (f' := (114, [some (.ref (b)), some (.int (Int32.ofNat x)), some (.int (Int32.ofNat jv)), some (.int (Int32.ofNat 5)), some (.int (Int32.ofNat (a + c)))], [.int (Int32.ofNat (a + c)), .ref (b + 13), .int (Int32.ofNat (L + 1)), .ref (b + 35)], A1)) rfl ?_
  refine rw_al (j := 15) (n := a + c) (v := .int (v15)) h2 rfl rfl rfl (Or.inl ⟨rfl, rfl⟩) rfl (show _ < 192 from by omega) (by rw [rf_u_ne (Or.inl (by decide))]; exact h15) rfl ?_
  refine rw_as (j := 51) (n := L + 1) (v := .int (v15)) h2 rfl rfl rfl (Or.inl ⟨rfl, rfl, rfl⟩) (show _ < 4 from by omega) rfl rfl (fun A5 h6 f7 => ?_)
  have f8 := f4.trans f7
  refine wp_st 1 (f' := (117, [some (.ref (b)), some (.int (Int32.ofNat x)), some (.int (Int32.ofNat jv)), some (.int (Int32.ofNat 5)), some (.int (Int32.ofNat (a + c)))], [.ref (b)], A5)) rfl ?_
  refine rw_gr h6 rfl rfl rfl rfl rfl rfl ?_
  refine wp_st 1 (f' := (121, [some (.ref (b)), some (.int (Int32.ofNat x)), some (.int (Int32.ofNat jv)), some (.int (Int32.ofNat 5)), some (.int (Int32.ofNat (a + c)))], [.ref (b), .ref (b + 36)], A5)) rfl ?_
  refine rw_gf (v := .int (Int32.ofNat (L + 1))) h6 rfl rfl rfl rfl (rfl) rfl ?_
  refine wp_st 1 (f' := (125, [some (.ref (b)), some (.int (Int32.ofNat x)), some (.int (Int32.ofNat jv)), some (.int (Int32.ofNat 5)), some (.int (Int32.ofNat (a + c)))], [.ref (b), .int (Int32.ofNat (L + 1)), .ref (b + 36)], A5)) rfl ?_
  refine rw_gr h6 rfl rfl rfl rfl rfl rfl ?_
  refine wp_st 1 (f' := (129, [some (.ref (b)), some (.int (Int32.ofNat x)), some (.int (Int32.ofNat jv)), some (.int (Int32.ofNat 5)), some (.int (Int32.ofNat (a + c)))], [.int (Int32.ofNat jv), .ref (b + 31), .int (Int32.ofNat (L + 1)), .ref (b + 36)], A5)) rfl ?_
  refine rw_al (j := 45) (n := jv) (v := .long (y0)) h6 rfl rfl rfl (Or.inr (Or.inl ⟨rfl, rfl⟩)) rfl (show _ < 6 from by omega) (by rw [rf_u_ne (Or.inl (by decide)), rf_u_ne (Or.inl (by decide))]; exact h45) rfl ?_
  refine wp_st 1 (f' := (131, [some (.ref (b)), some (.int (Int32.ofNat x)), some (.int (Int32.ofNat jv)), some (.int (Int32.ofNat 5)), some (.int (Int32.ofNat (a + c)))], [.ref (b), .long (y0), .int (Int32.ofNat (L + 1)), .ref (b + 36)], A5)) rfl ?_
  refine rw_gr h6 rfl rfl rfl rfl rfl rfl ?_
  refine wp_st 1 (f' := (135, [some (.ref (b)), some (.int (Int32.ofNat x)), some (.int (Int32.ofNat jv)), some (.int (Int32.ofNat 5)), some (.int (Int32.ofNat (a + c)))], [.int (Int32.ofNat x), .ref (b + 9), .long (y0), .int (Int32.ofNat (L + 1)), .ref (b + 36)], A5)) rfl ?_
  refine rw_al (j := 11) (n := x) (v := .int (Int32.ofNat off)) h6 rfl rfl rfl (Or.inl ⟨rfl, rfl⟩) rfl (show _ < 192 from by omega) (by rw [rf_u_ne (Or.inl (by decide)), rf_u_ne (Or.inl (by decide))]; exact h11) rfl ?_
  refine wp_st 1 (f' := (137, [some (.ref (b)), some (.int (Int32.ofNat x)), some (.int (Int32.ofNat jv)), some (.int (Int32.ofNat 5)), some (.int (Int32.ofNat (a + c)))], [.long ((Int32.ofNat off).toInt64), .long (y0), .int (Int32.ofNat (L + 1)), .ref (b + 36)], A5)) rfl ?_
  rw [i64_of (by omega)]
  refine wp_st 1 (f' := (138, [some (.ref (b)), some (.int (Int32.ofNat x)), some (.int (Int32.ofNat jv)), some (.int (Int32.ofNat 5)), some (.int (Int32.ofNat (a + c)))], [.ref (b), .long (Int64.ofNat off), .long (y0), .int (Int32.ofNat (L + 1)), .ref (b + 36)], A5)) rfl ?_
  refine rw_gr h6 rfl rfl rfl rfl rfl rfl ?_
  refine wp_st 1 (f' := (142, [some (.ref (b)), some (.int (Int32.ofNat x)), some (.int (Int32.ofNat jv)), some (.int (Int32.ofNat 5)), some (.int (Int32.ofNat (a + c)))], [.int (Int32.ofNat jv), .ref (b + 32), .long (Int64.ofNat off), .long (y0), .int (Int32.ofNat (L + 1)), .ref (b + 36)], A5)) rfl ?_
  refine rw_al (j := 46) (n := jv) (v := .int (Int32.ofNat k0)) h6 rfl rfl rfl (Or.inl ⟨rfl, rfl⟩) rfl (show _ < 6 from by omega) (by rw [rf_u_ne (Or.inl (by decide)), rf_u_ne (Or.inl (by decide))]; exact h46) rfl ?_
  refine wp_cs (n := 0) (A' := A5) (v := some (.long (Int64.ofNat (10 ^ k0)))) rfl rfl rfl (by omega) (rn_ten (d := d - 1) (by omega)) rfl ?_
  show am_wp d 169 (146, [some (.ref (b)), some (.int (Int32.ofNat x)), some (.int (Int32.ofNat jv)), some (.int (Int32.ofNat 5)), some (.int (Int32.ofNat (a + c)))], [.long (Int64.ofNat (10 ^ k0)), .long (Int64.ofNat off), .long (y0), .int (Int32.ofNat (L + 1)), .ref (b + 36)], A5) _
  refine wp_st 1 (f' := (147, [some (.ref (b)), some (.int (Int32.ofNat x)), some (.int (Int32.ofNat jv)), some (.int (Int32.ofNat 5)), some (.int (Int32.ofNat (a + c)))], [.long ((Int64.ofNat off) * (Int64.ofNat (10 ^ k0))), .long (y0), .int (Int32.ofNat (L + 1)), .ref (b + 36)], A5)) rfl ?_
  rw [(Int64.ofNat_mul off (10 ^ k0)).symm]
  refine wp_st 1 (f' := (148, [some (.ref (b)), some (.int (Int32.ofNat x)), some (.int (Int32.ofNat jv)), some (.int (Int32.ofNat 5)), some (.int (Int32.ofNat (a + c)))], [.long (y0 - (Int64.ofNat (off * 10 ^ k0))), .int (Int32.ofNat (L + 1)), .ref (b + 36)], A5)) rfl ?_
  refine rw_ls (j := 52) (n := L + 1) h6 rfl rfl rfl rfl (show _ < 4 from by omega) rfl (fun A9 h10 f11 => ?_)
  have f12 := f8.trans f11
  refine wp_st 1 (f' := (150, [some (.ref (b)), some (.int (Int32.ofNat x)), some (.int (Int32.ofNat jv)), some (.int (Int32.ofNat 5)), some (.int (Int32.ofNat (a + c)))], [.ref (b)], A9)) rfl ?_
  refine rw_gr h10 rfl rfl rfl rfl rfl rfl ?_
  refine wp_st 1 (f' := (154, [some (.ref (b)), some (.int (Int32.ofNat x)), some (.int (Int32.ofNat jv)), some (.int (Int32.ofNat 5)), some (.int (Int32.ofNat (a + c)))], [.ref (b), .ref (b + 37)], A9)) rfl ?_
  refine rw_gf (v := .int (Int32.ofNat (L + 1))) h10 rfl rfl rfl rfl (rfl) rfl ?_
  refine wp_st 1 (f' := (158, [some (.ref (b)), some (.int (Int32.ofNat x)), some (.int (Int32.ofNat jv)), some (.int (Int32.ofNat 5)), some (.int (Int32.ofNat (a + c)))], [.ref (b), .int (Int32.ofNat (L + 1)), .ref (b + 37)], A9)) rfl ?_
  refine rw_gr h10 rfl rfl rfl rfl rfl rfl ?_
  refine wp_st 1 (f' := (162, [some (.ref (b)), some (.int (Int32.ofNat x)), some (.int (Int32.ofNat jv)), some (.int (Int32.ofNat 5)), some (.int (Int32.ofNat (a + c)))], [.int (Int32.ofNat jv), .ref (b + 32), .int (Int32.ofNat (L + 1)), .ref (b + 37)], A9)) rfl ?_
  refine rw_al (j := 46) (n := jv) (v := .int (Int32.ofNat k0)) h10 rfl rfl rfl (Or.inl ⟨rfl, rfl⟩) rfl (show _ < 6 from by omega) (by rw [rf_u_ne (Or.inl (by decide)), rf_u_ne (Or.inl (by decide)), rf_u_ne (Or.inl (by decide))]; exact h46) rfl ?_
  refine rw_as (j := 53) (n := L + 1) (v := .int (Int32.ofNat k0)) h10 rfl rfl rfl (Or.inl ⟨rfl, rfl, rfl⟩) (show _ < 4 from by omega) rfl rfl (fun A13 h14 f15 => ?_)
  have f16 := f12.trans f15
  refine wp_st 1 (f' := (243, [some (.ref (b)), some (.int (Int32.ofNat x)), some (.int (Int32.ofNat jv)), some (.int (Int32.ofNat 5)), some (.int (Int32.ofNat (a + c)))], [], A13)) rfl ?_
  refine wp_rt rfl rfl rfl ?_
  exact ⟨rfl, h14, f16⟩
