/-! The law: its thirteen calls. -/
theorem lw_el {ws : List Int32} {n : Nat} (h : n < ws.length) : (ws.map Value.int)[n]? = some (.int (ws.getD n 0)) := by
  rw [List.getElem?_map, List.getElem?_eq_getElem h, List.getD_eq_getElem?_getD, List.getElem?_eq_getElem h]
  rfl
theorem lc_type {ws : List Int32} {A : am_H} {d k i : Nat} {v5 v6 : Option Value} {Q : am_O × am_H → Prop} (hd : 60 ≤ d) (hi : i + 5 ≤ ws.length) (hl : ws.length ≤ 2560) (h : lw_V ws A k) (h0 : A[0]? = some (100, ws.map .int)) (kk : ∀ B v5 v6, lw_V ws B (k + 1) → am_wp d 181 (697, [some (.ref 0), some (.ref 45), some (.ref 128), some (.ref 166), some (.int (Int32.ofNat (i))), v5, v6], [], B) Q) : am_wp d 181 (104, [some (.ref 0), some (.ref 45), some (.ref 128), some (.ref 166), some (.int (Int32.ofNat (i))), v5, v6], [], A) Q := by
  refine wp_st 5 (f' := (110, [some (.ref (0)), some (.ref (45)), some (.ref (128)), some (.ref (166)), some (.int (Int32.ofNat i)), v5, v6], [.int ((Int32.ofNat i) + (Int32.ofNat 1)), .ref (0), .ref (45)], A)) rfl ?_
  rw [i32_add (i) (1)]
  refine wp_al rfl (Or.inl ⟨rfl, rfl⟩) rfl h0 (by omega) (lw_el (by omega)) rfl ?_
  obtain ⟨Xb, Xc, v, ⟨vs1, hk1⟩, g1, ⟨vs2, hk2⟩, hb0, g2, hV⟩ := lv_type (d := d - 1) (x := ws.getD (i + 1) 0) (by omega) h
  refine wp_cv (A' := Xb) (v := some (.int (v))) rfl rfl rfl rfl rfl hk1 (by omega) ((show am_go (d - 1) 8 [.ref (45), .int (ws.getD (i + 1) 0)] _ _ from g1)) rfl ?_
  show am_wp d 181 (114, [some (.ref (0)), some (.ref (45)), some (.ref (128)), some (.ref (166)), some (.int (Int32.ofNat i)), v5, v6], [.int (v)], Xb) _
  refine wp_st 5 (f' := (120, [some (.ref (0)), some (.ref (45)), some (.ref (128)), some (.ref (166)), some (.int (Int32.ofNat i)), v5, v6], [.int ((Int32.ofNat i) + (Int32.ofNat 1)), .ref (0), .ref (128), .int (v)], Xb)) rfl ?_
  rw [i32_add (i) (1)]
  refine wp_al rfl (Or.inl ⟨rfl, rfl⟩) rfl hb0 (by omega) (lw_el (by omega)) rfl ?_
  refine wp_cv (A' := Xc) (v := some (.int (v))) rfl rfl rfl rfl rfl hk2 (by omega) ((show am_go (d - 1) 118 [.ref (128), .int (ws.getD (i + 1) 0)] _ _ from g2)) rfl ?_
  show am_wp d 181 (124, [some (.ref (0)), some (.ref (45)), some (.ref (128)), some (.ref (166)), some (.int (Int32.ofNat i)), v5, v6], [.int (v), .int (v)], Xc) _
  refine wp_ifT rfl (show am_tgt 124 (573) = 697 by decide +kernel) (rfl) ?_
  exact kk _ _ _ hV
theorem lc_wipe {ws : List Int32} {A : am_H} {d k i : Nat} {v5 v6 : Option Value} {Q : am_O × am_H → Prop} (hd : 60 ≤ d) (hi : i + 5 ≤ ws.length) (hl : ws.length ≤ 2560) (h : lw_V ws A k) (h0 : A[0]? = some (100, ws.map .int)) (kk : ∀ B v5 v6, lw_V ws B (k + 1) → am_wp d 181 (697, [some (.ref 0), some (.ref 45), some (.ref 128), some (.ref 166), some (.int (Int32.ofNat (i))), v5, v6], [], B) Q) : am_wp d 181 (129, [some (.ref 0), some (.ref 45), some (.ref 128), some (.ref 166), some (.int (Int32.ofNat (i))), v5, v6], [], A) Q := by
  refine wp_st 1 (f' := (130, [some (.ref (0)), some (.ref (45)), some (.ref (128)), some (.ref (166)), some (.int (Int32.ofNat i)), v5, v6], [.ref (45)], A)) rfl ?_
  obtain ⟨Xb, Xc, ⟨vs1, hk1⟩, g1, ⟨vs2, hk2⟩, g2, hV⟩ := lv_wipe (d := d - 1) h
  refine wp_cv (A' := Xb) (v := none) rfl rfl rfl rfl rfl hk1 (by omega) ((show am_go (d - 1) 11 [.ref (45)] _ _ from g1)) rfl ?_
  show am_wp d 181 (133, [some (.ref (0)), some (.ref (45)), some (.ref (128)), some (.ref (166)), some (.int (Int32.ofNat i)), v5, v6], [], Xb) _
  refine wp_st 1 (f' := (134, [some (.ref (0)), some (.ref (45)), some (.ref (128)), some (.ref (166)), some (.int (Int32.ofNat i)), v5, v6], [.ref (128)], Xb)) rfl ?_
  refine wp_cv (A' := Xc) (v := none) rfl rfl rfl rfl rfl hk2 (by omega) ((show am_go (d - 1) 119 [.ref (128)] _ _ from g2)) rfl ?_
  show am_wp d 181 (137, [some (.ref (0)), some (.ref (45)), some (.ref (128)), some (.ref (166)), some (.int (Int32.ofNat i)), v5, v6], [], Xc) _
  refine wp_gt rfl (show am_tgt 137 (560) = 697 by decide +kernel) ?_
  exact kk _ _ _ hV
theorem lc_len {ws : List Int32} {A : am_H} {d k i : Nat} {v5 v6 : Option Value} {Q : am_O × am_H → Prop} (hd : 60 ≤ d) (hi : i + 5 ≤ ws.length) (hl : ws.length ≤ 2560) (h : lw_V ws A k) (h0 : A[0]? = some (100, ws.map .int)) (kk : ∀ B v5 v6, lw_V ws B (k + 1) → am_wp d 181 (697, [some (.ref 0), some (.ref 45), some (.ref 128), some (.ref 166), some (.int (Int32.ofNat (i))), v5, v6], [], B) Q) : am_wp d 181 (140, [some (.ref 0), some (.ref 45), some (.ref 128), some (.ref 166), some (.int (Int32.ofNat (i))), v5, v6], [], A) Q := by
  refine wp_st 1 (f' := (141, [some (.ref (0)), some (.ref (45)), some (.ref (128)), some (.ref (166)), some (.int (Int32.ofNat i)), v5, v6], [.ref (45)], A)) rfl ?_
  obtain ⟨Xb, Xc, v, ⟨vs1, hk1⟩, g1, ⟨vs2, hk2⟩, hb0, g2, hV⟩ := lv_len (d := d - 1) h
  refine wp_cv (A' := Xb) (v := some (.int (v))) rfl rfl rfl rfl rfl hk1 (by omega) ((show am_go (d - 1) 12 [.ref (45)] _ _ from g1)) rfl ?_
  show am_wp d 181 (144, [some (.ref (0)), some (.ref (45)), some (.ref (128)), some (.ref (166)), some (.int (Int32.ofNat i)), v5, v6], [.int (v)], Xb) _
  refine wp_st 1 (f' := (145, [some (.ref (0)), some (.ref (45)), some (.ref (128)), some (.ref (166)), some (.int (Int32.ofNat i)), v5, v6], [.ref (128), .int (v)], Xb)) rfl ?_
  refine wp_cv (A' := Xc) (v := some (.int (v))) rfl rfl rfl rfl rfl hk2 (by omega) ((show am_go (d - 1) 120 [.ref (128)] _ _ from g2)) rfl ?_
  show am_wp d 181 (148, [some (.ref (0)), some (.ref (45)), some (.ref (128)), some (.ref (166)), some (.int (Int32.ofNat i)), v5, v6], [.int (v), .int (v)], Xc) _
  refine wp_ifT rfl (show am_tgt 148 (549) = 697 by decide +kernel) (rfl) ?_
  exact kk _ _ _ hV
theorem lc_comp {ws : List Int32} {A : am_H} {d k i : Nat} {v5 v6 : Option Value} {Q : am_O × am_H → Prop} (hd : 60 ≤ d) (hi : i + 5 ≤ ws.length) (hl : ws.length ≤ 2560) (h : lw_V ws A k) (h0 : A[0]? = some (100, ws.map .int)) (kk : ∀ B v5 v6, lw_V ws B (k + 1) → am_wp d 181 (697, [some (.ref 0), some (.ref 45), some (.ref 128), some (.ref 166), some (.int (Int32.ofNat (i))), v5, v6], [], B) Q) : am_wp d 181 (153, [some (.ref 0), some (.ref 45), some (.ref 128), some (.ref 166), some (.int (Int32.ofNat (i))), v5, v6], [], A) Q := by
  refine wp_st 5 (f' := (159, [some (.ref (0)), some (.ref (45)), some (.ref (128)), some (.ref (166)), some (.int (Int32.ofNat i)), v5, v6], [.int ((Int32.ofNat i) + (Int32.ofNat 1)), .ref (0), .ref (45)], A)) rfl ?_
  rw [i32_add (i) (1)]
  refine wp_al rfl (Or.inl ⟨rfl, rfl⟩) rfl h0 (by omega) (lw_el (by omega)) rfl ?_
  refine wp_st 4 (f' := (165, [some (.ref (0)), some (.ref (45)), some (.ref (128)), some (.ref (166)), some (.int (Int32.ofNat i)), v5, v6], [.int ((Int32.ofNat i) + (Int32.ofNat 2)), .ref (0), .int (ws.getD (i + 1) 0), .ref (45)], A)) rfl ?_
  rw [i32_add (i) (2)]
  refine wp_al rfl (Or.inl ⟨rfl, rfl⟩) rfl h0 (by omega) (lw_el (by omega)) rfl ?_
  refine wp_iz rfl rfl rfl (fun (h1 : (ws.getD (i + 2) 0) = (Int32.ofNat 0)) => ?_) (fun (h1 : ¬ ((ws.getD (i + 2) 0) = (Int32.ofNat 0))) => ?_)
  · skip
    refine wp_st 1 (f' := (174, [some (.ref (0)), some (.ref (45)), some (.ref (128)), some (.ref (166)), some (.int (Int32.ofNat i)), v5, v6], [.int (Int32.ofNat 0), .int (ws.getD (i + 1) 0), .ref (45)], A)) rfl ?_
    obtain ⟨Xb, Xc, c, ⟨vs1, hk1⟩, g1, ⟨vs2, hk2⟩, hb0, g2, ⟨vs3, hk3⟩, g3, hc4, hV⟩ := lv_comp (d := d - 1) (x := ws.getD (i + 1) 0) (dbl := false) (by omega) h
    refine wp_cs (n := 0) (A' := Xb) (v := some (.int (Int32.ofNat c))) rfl rfl rfl (by omega) ((show am_go (d - 1) 20 [.ref (45), .int (ws.getD (i + 1) 0), .int (Int32.ofNat 0)] _ _ from g1)) rfl ?_
    show am_wp d 181 (177, [some (.ref (0)), some (.ref (45)), some (.ref (128)), some (.ref (166)), some (.int (Int32.ofNat i)), v5, v6], [.int (Int32.ofNat c)], Xb) _
    refine wp_st 6 (f' := (185, [some (.ref (0)), some (.ref (45)), some (.ref (128)), some (.ref (166)), some (.int (Int32.ofNat i)), some (.int (Int32.ofNat c)), v6], [.int ((Int32.ofNat i) + (Int32.ofNat 1)), .ref (0), .ref (128)], Xb)) rfl ?_
    rw [i32_add (i) (1)]
    refine wp_al rfl (Or.inl ⟨rfl, rfl⟩) rfl hb0 (by omega) (lw_el (by omega)) rfl ?_
    refine wp_st 4 (f' := (191, [some (.ref (0)), some (.ref (45)), some (.ref (128)), some (.ref (166)), some (.int (Int32.ofNat i)), some (.int (Int32.ofNat c)), v6], [.int ((Int32.ofNat i) + (Int32.ofNat 2)), .ref (0), .int (ws.getD (i + 1) 0), .ref (128)], Xb)) rfl ?_
    rw [i32_add (i) (2)]
    refine wp_al rfl (Or.inl ⟨rfl, rfl⟩) rfl hb0 (by omega) (lw_el (by omega)) rfl ?_
    refine wp_izT rfl rfl (h1) ?_
    refine wp_st 1 (f' := (200, [some (.ref (0)), some (.ref (45)), some (.ref (128)), some (.ref (166)), some (.int (Int32.ofNat i)), some (.int (Int32.ofNat c)), v6], [.int (Int32.ofNat 0), .int (ws.getD (i + 1) 0), .ref (128)], Xb)) rfl ?_
    refine wp_cv (A' := Xc) (v := none) rfl rfl rfl rfl rfl hk2 (by omega) ((show am_go (d - 1) 121 [.ref (128), .int (ws.getD (i + 1) 0), .int (Int32.ofNat 0)] _ _ from g2)) rfl ?_
    show am_wp d 181 (203, [some (.ref (0)), some (.ref (45)), some (.ref (128)), some (.ref (166)), some (.int (Int32.ofNat i)), some (.int (Int32.ofNat c)), v6], [], Xc) _
    refine wp_st 1 (f' := (204, [some (.ref (0)), some (.ref (45)), some (.ref (128)), some (.ref (166)), some (.int (Int32.ofNat i)), some (.int (Int32.ofNat c)), v6], [.ref (128)], Xc)) rfl ?_
    refine wp_cv (A' := Xc) (v := some (.int (Int32.ofNat c))) rfl rfl rfl rfl rfl hk3 (by omega) (g3) rfl ?_
    show am_wp d 181 (207, [some (.ref (0)), some (.ref (45)), some (.ref (128)), some (.ref (166)), some (.int (Int32.ofNat i)), some (.int (Int32.ofNat c)), v6], [.int (Int32.ofNat c)], Xc) _
    refine wp_st 1 (f' := (209, [some (.ref (0)), some (.ref (45)), some (.ref (128)), some (.ref (166)), some (.int (Int32.ofNat i)), some (.int (Int32.ofNat c)), v6], [.int (Int32.ofNat c), .int (Int32.ofNat c)], Xc)) rfl ?_
    refine wp_ifT rfl rfl (rfl) ?_
    refine wp_gt rfl (show am_tgt 214 (483) = 697 by decide +kernel) ?_
    exact kk _ _ _ hV
  · skip
    refine wp_st 2 (f' := (174, [some (.ref (0)), some (.ref (45)), some (.ref (128)), some (.ref (166)), some (.int (Int32.ofNat i)), v5, v6], [.int (Int32.ofNat 1), .int (ws.getD (i + 1) 0), .ref (45)], A)) rfl ?_
    obtain ⟨Xb, Xc, c, ⟨vs1, hk1⟩, g1, ⟨vs2, hk2⟩, hb0, g2, ⟨vs3, hk3⟩, g3, hc4, hV⟩ := lv_comp (d := d - 1) (x := ws.getD (i + 1) 0) (dbl := true) (by omega) h
    refine wp_cs (n := 0) (A' := Xb) (v := some (.int (Int32.ofNat c))) rfl rfl rfl (by omega) ((show am_go (d - 1) 20 [.ref (45), .int (ws.getD (i + 1) 0), .int (Int32.ofNat 1)] _ _ from g1)) rfl ?_
    show am_wp d 181 (177, [some (.ref (0)), some (.ref (45)), some (.ref (128)), some (.ref (166)), some (.int (Int32.ofNat i)), v5, v6], [.int (Int32.ofNat c)], Xb) _
    refine wp_st 6 (f' := (185, [some (.ref (0)), some (.ref (45)), some (.ref (128)), some (.ref (166)), some (.int (Int32.ofNat i)), some (.int (Int32.ofNat c)), v6], [.int ((Int32.ofNat i) + (Int32.ofNat 1)), .ref (0), .ref (128)], Xb)) rfl ?_
    rw [i32_add (i) (1)]
    refine wp_al rfl (Or.inl ⟨rfl, rfl⟩) rfl hb0 (by omega) (lw_el (by omega)) rfl ?_
    refine wp_st 4 (f' := (191, [some (.ref (0)), some (.ref (45)), some (.ref (128)), some (.ref (166)), some (.int (Int32.ofNat i)), some (.int (Int32.ofNat c)), v6], [.int ((Int32.ofNat i) + (Int32.ofNat 2)), .ref (0), .int (ws.getD (i + 1) 0), .ref (128)], Xb)) rfl ?_
    rw [i32_add (i) (2)]
    refine wp_al rfl (Or.inl ⟨rfl, rfl⟩) rfl hb0 (by omega) (lw_el (by omega)) rfl ?_
    refine wp_izF rfl rfl (h1) ?_
    refine wp_st 2 (f' := (200, [some (.ref (0)), some (.ref (45)), some (.ref (128)), some (.ref (166)), some (.int (Int32.ofNat i)), some (.int (Int32.ofNat c)), v6], [.int (Int32.ofNat 1), .int (ws.getD (i + 1) 0), .ref (128)], Xb)) rfl ?_
    refine wp_cv (A' := Xc) (v := none) rfl rfl rfl rfl rfl hk2 (by omega) ((show am_go (d - 1) 121 [.ref (128), .int (ws.getD (i + 1) 0), .int (Int32.ofNat 1)] _ _ from g2)) rfl ?_
    show am_wp d 181 (203, [some (.ref (0)), some (.ref (45)), some (.ref (128)), some (.ref (166)), some (.int (Int32.ofNat i)), some (.int (Int32.ofNat c)), v6], [], Xc) _
    refine wp_st 1 (f' := (204, [some (.ref (0)), some (.ref (45)), some (.ref (128)), some (.ref (166)), some (.int (Int32.ofNat i)), some (.int (Int32.ofNat c)), v6], [.ref (128)], Xc)) rfl ?_
    refine wp_cv (A' := Xc) (v := some (.int (Int32.ofNat c))) rfl rfl rfl rfl rfl hk3 (by omega) (g3) rfl ?_
    show am_wp d 181 (207, [some (.ref (0)), some (.ref (45)), some (.ref (128)), some (.ref (166)), some (.int (Int32.ofNat i)), some (.int (Int32.ofNat c)), v6], [.int (Int32.ofNat c)], Xc) _
    refine wp_st 1 (f' := (209, [some (.ref (0)), some (.ref (45)), some (.ref (128)), some (.ref (166)), some (.int (Int32.ofNat i)), some (.int (Int32.ofNat c)), v6], [.int (Int32.ofNat c), .int (Int32.ofNat c)], Xc)) rfl ?_
    refine wp_ifT rfl rfl (rfl) ?_
    refine wp_gt rfl (show am_tgt 214 (483) = 697 by decide +kernel) ?_
    exact kk _ _ _ hV
theorem lc_rul {ws : List Int32} {A : am_H} {d k i : Nat} {v5 v6 : Option Value} {Q : am_O × am_H → Prop} (hd : 60 ≤ d) (hi : i + 5 ≤ ws.length) (hl : ws.length ≤ 2560) (h : lw_V ws A k) (h0 : A[0]? = some (100, ws.map .int)) (kk : ∀ B v5 v6, lw_V ws B (k + 1) → am_wp d 181 (697, [some (.ref 0), some (.ref 45), some (.ref 128), some (.ref 166), some (.int (Int32.ofNat (i))), v5, v6], [], B) Q) : am_wp d 181 (217, [some (.ref 0), some (.ref 45), some (.ref 128), some (.ref 166), some (.int (Int32.ofNat (i))), v5, v6], [], A) Q := by
  refine wp_st 5 (f' := (223, [some (.ref (0)), some (.ref (45)), some (.ref (128)), some (.ref (166)), some (.int (Int32.ofNat i)), v5, v6], [.int ((Int32.ofNat i) + (Int32.ofNat 1)), .ref (0), .ref (45)], A)) rfl ?_
  rw [i32_add (i) (1)]
  refine wp_al rfl (Or.inl ⟨rfl, rfl⟩) rfl h0 (by omega) (lw_el (by omega)) rfl ?_
  refine wp_iz rfl rfl rfl (fun (h1 : (ws.getD (i + 1) 0) = (Int32.ofNat 0)) => ?_) (fun (h1 : ¬ ((ws.getD (i + 1) 0) = (Int32.ofNat 0))) => ?_)
  · skip
    refine wp_st 1 (f' := (232, [some (.ref (0)), some (.ref (45)), some (.ref (128)), some (.ref (166)), some (.int (Int32.ofNat i)), v5, v6], [.int (Int32.ofNat 0), .ref (45)], A)) rfl ?_
    obtain ⟨Xb, Xc, c, ⟨vs1, hk1⟩, g1, ⟨vs2, hk2⟩, hb0, g2, ⟨vs3, hk3⟩, g3, hc4, hV⟩ := lv_rul (d := d - 1) (o := false) (by omega) h
    refine wp_cs (n := 0) (A' := Xb) (v := some (.int (Int32.ofNat c))) rfl rfl rfl (by omega) ((show am_go (d - 1) 63 [.ref (45), .int (Int32.ofNat 0)] _ _ from g1)) rfl ?_
    show am_wp d 181 (235, [some (.ref (0)), some (.ref (45)), some (.ref (128)), some (.ref (166)), some (.int (Int32.ofNat i)), v5, v6], [.int (Int32.ofNat c)], Xb) _
    refine wp_st 6 (f' := (243, [some (.ref (0)), some (.ref (45)), some (.ref (128)), some (.ref (166)), some (.int (Int32.ofNat i)), some (.int (Int32.ofNat c)), v6], [.int ((Int32.ofNat i) + (Int32.ofNat 1)), .ref (0), .ref (128)], Xb)) rfl ?_
    rw [i32_add (i) (1)]
    refine wp_al rfl (Or.inl ⟨rfl, rfl⟩) rfl hb0 (by omega) (lw_el (by omega)) rfl ?_
    refine wp_izT rfl rfl (h1) ?_
    refine wp_st 1 (f' := (252, [some (.ref (0)), some (.ref (45)), some (.ref (128)), some (.ref (166)), some (.int (Int32.ofNat i)), some (.int (Int32.ofNat c)), v6], [.int (Int32.ofNat 0), .ref (128)], Xb)) rfl ?_
    refine wp_cv (A' := Xc) (v := none) rfl rfl rfl rfl rfl hk2 (by omega) ((show am_go (d - 1) 148 [.ref (128), .int (Int32.ofNat 0)] _ _ from g2)) rfl ?_
    show am_wp d 181 (255, [some (.ref (0)), some (.ref (45)), some (.ref (128)), some (.ref (166)), some (.int (Int32.ofNat i)), some (.int (Int32.ofNat c)), v6], [], Xc) _
    refine wp_st 1 (f' := (256, [some (.ref (0)), some (.ref (45)), some (.ref (128)), some (.ref (166)), some (.int (Int32.ofNat i)), some (.int (Int32.ofNat c)), v6], [.ref (128)], Xc)) rfl ?_
    refine wp_cv (A' := Xc) (v := some (.int (Int32.ofNat c))) rfl rfl rfl rfl rfl hk3 (by omega) (g3) rfl ?_
    show am_wp d 181 (259, [some (.ref (0)), some (.ref (45)), some (.ref (128)), some (.ref (166)), some (.int (Int32.ofNat i)), some (.int (Int32.ofNat c)), v6], [.int (Int32.ofNat c)], Xc) _
    refine wp_st 1 (f' := (261, [some (.ref (0)), some (.ref (45)), some (.ref (128)), some (.ref (166)), some (.int (Int32.ofNat i)), some (.int (Int32.ofNat c)), v6], [.int (Int32.ofNat c), .int (Int32.ofNat c)], Xc)) rfl ?_
    refine wp_ifT rfl rfl (rfl) ?_
    refine wp_gt rfl (show am_tgt 266 (431) = 697 by decide +kernel) ?_
    exact kk _ _ _ hV
  · skip
    refine wp_st 2 (f' := (232, [some (.ref (0)), some (.ref (45)), some (.ref (128)), some (.ref (166)), some (.int (Int32.ofNat i)), v5, v6], [.int (Int32.ofNat 1), .ref (45)], A)) rfl ?_
    obtain ⟨Xb, Xc, c, ⟨vs1, hk1⟩, g1, ⟨vs2, hk2⟩, hb0, g2, ⟨vs3, hk3⟩, g3, hc4, hV⟩ := lv_rul (d := d - 1) (o := true) (by omega) h
    refine wp_cs (n := 0) (A' := Xb) (v := some (.int (Int32.ofNat c))) rfl rfl rfl (by omega) ((show am_go (d - 1) 63 [.ref (45), .int (Int32.ofNat 1)] _ _ from g1)) rfl ?_
    show am_wp d 181 (235, [some (.ref (0)), some (.ref (45)), some (.ref (128)), some (.ref (166)), some (.int (Int32.ofNat i)), v5, v6], [.int (Int32.ofNat c)], Xb) _
    refine wp_st 6 (f' := (243, [some (.ref (0)), some (.ref (45)), some (.ref (128)), some (.ref (166)), some (.int (Int32.ofNat i)), some (.int (Int32.ofNat c)), v6], [.int ((Int32.ofNat i) + (Int32.ofNat 1)), .ref (0), .ref (128)], Xb)) rfl ?_
    rw [i32_add (i) (1)]
    refine wp_al rfl (Or.inl ⟨rfl, rfl⟩) rfl hb0 (by omega) (lw_el (by omega)) rfl ?_
    refine wp_izF rfl rfl (h1) ?_
    refine wp_st 2 (f' := (252, [some (.ref (0)), some (.ref (45)), some (.ref (128)), some (.ref (166)), some (.int (Int32.ofNat i)), some (.int (Int32.ofNat c)), v6], [.int (Int32.ofNat 1), .ref (128)], Xb)) rfl ?_
    refine wp_cv (A' := Xc) (v := none) rfl rfl rfl rfl rfl hk2 (by omega) ((show am_go (d - 1) 148 [.ref (128), .int (Int32.ofNat 1)] _ _ from g2)) rfl ?_
    show am_wp d 181 (255, [some (.ref (0)), some (.ref (45)), some (.ref (128)), some (.ref (166)), some (.int (Int32.ofNat i)), some (.int (Int32.ofNat c)), v6], [], Xc) _
    refine wp_st 1 (f' := (256, [some (.ref (0)), some (.ref (45)), some (.ref (128)), some (.ref (166)), some (.int (Int32.ofNat i)), some (.int (Int32.ofNat c)), v6], [.ref (128)], Xc)) rfl ?_
    refine wp_cv (A' := Xc) (v := some (.int (Int32.ofNat c))) rfl rfl rfl rfl rfl hk3 (by omega) (g3) rfl ?_
    show am_wp d 181 (259, [some (.ref (0)), some (.ref (45)), some (.ref (128)), some (.ref (166)), some (.int (Int32.ofNat i)), some (.int (Int32.ofNat c)), v6], [.int (Int32.ofNat c)], Xc) _
    refine wp_st 1 (f' := (261, [some (.ref (0)), some (.ref (45)), some (.ref (128)), some (.ref (166)), some (.int (Int32.ofNat i)), some (.int (Int32.ofNat c)), v6], [.int (Int32.ofNat c), .int (Int32.ofNat c)], Xc)) rfl ?_
    refine wp_ifT rfl rfl (rfl) ?_
    refine wp_gt rfl (show am_tgt 266 (431) = 697 by decide +kernel) ?_
    exact kk _ _ _ hV
theorem lc_fault {ws : List Int32} {A : am_H} {d k i : Nat} {v5 v6 : Option Value} {Q : am_O × am_H → Prop} (hd : 60 ≤ d) (hi : i + 5 ≤ ws.length) (hl : ws.length ≤ 2560) (h : lw_V ws A k) (h0 : A[0]? = some (100, ws.map .int)) (kk : ∀ B v5 v6, lw_V ws B (k + 1) → am_wp d 181 (697, [some (.ref 0), some (.ref 45), some (.ref 128), some (.ref 166), some (.int (Int32.ofNat (i))), v5, v6], [], B) Q) : am_wp d 181 (269, [some (.ref 0), some (.ref 45), some (.ref 128), some (.ref 166), some (.int (Int32.ofNat (i))), v5, v6], [], A) Q := by
  refine wp_st 1 (f' := (270, [some (.ref (0)), some (.ref (45)), some (.ref (128)), some (.ref (166)), some (.int (Int32.ofNat i)), v5, v6], [.ref (45)], A)) rfl ?_
  obtain ⟨Xb, Xc, v, ⟨vs1, hk1⟩, g1, ⟨vs2, hk2⟩, hb0, g2, hV⟩ := lv_fault (d := d - 1) h
  refine wp_cv (A' := Xb) (v := some (.int (v))) rfl rfl rfl rfl rfl hk1 (by omega) ((show am_go (d - 1) 13 [.ref (45)] _ _ from g1)) rfl ?_
  show am_wp d 181 (273, [some (.ref (0)), some (.ref (45)), some (.ref (128)), some (.ref (166)), some (.int (Int32.ofNat i)), v5, v6], [.int (v)], Xb) _
  refine wp_st 1 (f' := (274, [some (.ref (0)), some (.ref (45)), some (.ref (128)), some (.ref (166)), some (.int (Int32.ofNat i)), v5, v6], [.ref (128), .int (v)], Xb)) rfl ?_
  refine wp_cv (A' := Xc) (v := some (.int (v))) rfl rfl rfl rfl rfl hk2 (by omega) ((show am_go (d - 1) 155 [.ref (128)] _ _ from g2)) rfl ?_
  show am_wp d 181 (277, [some (.ref (0)), some (.ref (45)), some (.ref (128)), some (.ref (166)), some (.int (Int32.ofNat i)), v5, v6], [.int (v), .int (v)], Xc) _
  refine wp_ifT rfl (show am_tgt 277 (420) = 697 by decide +kernel) (rfl) ?_
  exact kk _ _ _ hV
theorem lc_num {ws : List Int32} {A : am_H} {d k i : Nat} {v5 v6 : Option Value} {Q : am_O × am_H → Prop} (hd : 60 ≤ d) (hi : i + 5 ≤ ws.length) (hl : ws.length ≤ 2560) (h : lw_V ws A k) (h0 : A[0]? = some (100, ws.map .int)) (kk : ∀ B v5 v6, lw_V ws B (k + 1) → am_wp d 181 (697, [some (.ref 0), some (.ref 45), some (.ref 128), some (.ref 166), some (.int (Int32.ofNat (i))), v5, v6], [], B) Q) : am_wp d 181 (282, [some (.ref 0), some (.ref 45), some (.ref 128), some (.ref 166), some (.int (Int32.ofNat (i))), v5, v6], [], A) Q := by
  refine wp_st 5 (f' := (288, [some (.ref (0)), some (.ref (45)), some (.ref (128)), some (.ref (166)), some (.int (Int32.ofNat i)), v5, v6], [.int ((Int32.ofNat i) + (Int32.ofNat 1)), .ref (0), .ref (45)], A)) rfl ?_
  rw [i32_add (i) (1)]
  refine wp_al rfl (Or.inl ⟨rfl, rfl⟩) rfl h0 (by omega) (lw_el (by omega)) rfl ?_
  refine wp_st 4 (f' := (294, [some (.ref (0)), some (.ref (45)), some (.ref (128)), some (.ref (166)), some (.int (Int32.ofNat i)), v5, v6], [.int ((Int32.ofNat i) + (Int32.ofNat 2)), .ref (0), .int (ws.getD (i + 1) 0), .ref (45)], A)) rfl ?_
  rw [i32_add (i) (2)]
  refine wp_al rfl (Or.inl ⟨rfl, rfl⟩) rfl h0 (by omega) (lw_el (by omega)) rfl ?_
  refine wp_st 7 (f' := (304, [some (.ref (0)), some (.ref (45)), some (.ref (128)), some (.ref (166)), some (.int (Int32.ofNat i)), v5, v6], [.int ((Int32.ofNat i) + (Int32.ofNat 3)), .ref (0), .long (((ws.getD (i + 2) 0).toInt64) <<< ((Int32.ofNat 32).toInt64 &&& 63)), .int (ws.getD (i + 1) 0), .ref (45)], A)) rfl ?_
  rw [i32_add (i) (3)]
  refine wp_al rfl (Or.inl ⟨rfl, rfl⟩) rfl h0 (by omega) (lw_el (by omega)) rfl ?_
  refine wp_st 8 (f' := (316, [some (.ref (0)), some (.ref (45)), some (.ref (128)), some (.ref (166)), some (.int (Int32.ofNat i)), v5, v6], [.int ((Int32.ofNat i) + (Int32.ofNat 4)), .ref (0), .long ((((ws.getD (i + 2) 0).toInt64) <<< ((Int32.ofNat 32).toInt64 &&& 63)) ||| (((ws.getD (i + 3) 0).toInt64) &&& (4294967295))), .int (ws.getD (i + 1) 0), .ref (45)], A)) rfl ?_
  rw [i32_add (i) (4)]
  refine wp_al rfl (Or.inl ⟨rfl, rfl⟩) rfl h0 (by omega) (lw_el (by omega)) rfl ?_
  obtain ⟨Xb, Xc, c, ⟨vs1, hk1⟩, g1, ⟨vs2, hk2⟩, hb0, g2, ⟨vs3, hk3⟩, g3, hc4, hV⟩ := lv_num (d := d - 1) (x := ws.getD (i + 1) 0) (y := (((ws.getD (i + 2) 0).toInt64) <<< ((Int32.ofNat 32).toInt64 &&& 63)) ||| (((ws.getD (i + 3) 0).toInt64) &&& (4294967295))) (c := ws.getD (i + 4) 0) (by omega) h
  refine wp_cs (n := 0) (A' := Xb) (v := some (.int (Int32.ofNat c))) rfl rfl rfl (by omega) ((show am_go (d - 1) 84 [.ref (45), .int (ws.getD (i + 1) 0), .long ((((ws.getD (i + 2) 0).toInt64) <<< ((Int32.ofNat 32).toInt64 &&& 63)) ||| (((ws.getD (i + 3) 0).toInt64) &&& (4294967295))), .int (ws.getD (i + 4) 0)] _ _ from g1)) rfl ?_
  show am_wp d 181 (320, [some (.ref (0)), some (.ref (45)), some (.ref (128)), some (.ref (166)), some (.int (Int32.ofNat i)), v5, v6], [.int (Int32.ofNat c)], Xb) _
  refine wp_st 6 (f' := (328, [some (.ref (0)), some (.ref (45)), some (.ref (128)), some (.ref (166)), some (.int (Int32.ofNat i)), some (.int (Int32.ofNat c)), v6], [.int ((Int32.ofNat i) + (Int32.ofNat 1)), .ref (0), .ref (128)], Xb)) rfl ?_
  rw [i32_add (i) (1)]
  refine wp_al rfl (Or.inl ⟨rfl, rfl⟩) rfl hb0 (by omega) (lw_el (by omega)) rfl ?_
  refine wp_st 4 (f' := (334, [some (.ref (0)), some (.ref (45)), some (.ref (128)), some (.ref (166)), some (.int (Int32.ofNat i)), some (.int (Int32.ofNat c)), v6], [.int ((Int32.ofNat i) + (Int32.ofNat 2)), .ref (0), .int (ws.getD (i + 1) 0), .ref (128)], Xb)) rfl ?_
  rw [i32_add (i) (2)]
  refine wp_al rfl (Or.inl ⟨rfl, rfl⟩) rfl hb0 (by omega) (lw_el (by omega)) rfl ?_
  refine wp_st 7 (f' := (344, [some (.ref (0)), some (.ref (45)), some (.ref (128)), some (.ref (166)), some (.int (Int32.ofNat i)), some (.int (Int32.ofNat c)), v6], [.int ((Int32.ofNat i) + (Int32.ofNat 3)), .ref (0), .long (((ws.getD (i + 2) 0).toInt64) <<< ((Int32.ofNat 32).toInt64 &&& 63)), .int (ws.getD (i + 1) 0), .ref (128)], Xb)) rfl ?_
  rw [i32_add (i) (3)]
  refine wp_al rfl (Or.inl ⟨rfl, rfl⟩) rfl hb0 (by omega) (lw_el (by omega)) rfl ?_
  refine wp_st 8 (f' := (356, [some (.ref (0)), some (.ref (45)), some (.ref (128)), some (.ref (166)), some (.int (Int32.ofNat i)), some (.int (Int32.ofNat c)), v6], [.int ((Int32.ofNat i) + (Int32.ofNat 4)), .ref (0), .long ((((ws.getD (i + 2) 0).toInt64) <<< ((Int32.ofNat 32).toInt64 &&& 63)) ||| (((ws.getD (i + 3) 0).toInt64) &&& (4294967295))), .int (ws.getD (i + 1) 0), .ref (128)], Xb)) rfl ?_
  rw [i32_add (i) (4)]
  refine wp_al rfl (Or.inl ⟨rfl, rfl⟩) rfl hb0 (by omega) (lw_el (by omega)) rfl ?_
  refine wp_cv (A' := Xc) (v := none) rfl rfl rfl rfl rfl hk2 (by omega) ((show am_go (d - 1) 161 [.ref (128), .int (ws.getD (i + 1) 0), .long ((((ws.getD (i + 2) 0).toInt64) <<< ((Int32.ofNat 32).toInt64 &&& 63)) ||| (((ws.getD (i + 3) 0).toInt64) &&& (4294967295))), .int (ws.getD (i + 4) 0)] _ _ from g2)) rfl ?_
  show am_wp d 181 (360, [some (.ref (0)), some (.ref (45)), some (.ref (128)), some (.ref (166)), some (.int (Int32.ofNat i)), some (.int (Int32.ofNat c)), v6], [], Xc) _
  refine wp_st 1 (f' := (361, [some (.ref (0)), some (.ref (45)), some (.ref (128)), some (.ref (166)), some (.int (Int32.ofNat i)), some (.int (Int32.ofNat c)), v6], [.ref (128)], Xc)) rfl ?_
  refine wp_cv (A' := Xc) (v := some (.int (Int32.ofNat c))) rfl rfl rfl rfl rfl hk3 (by omega) (g3) rfl ?_
  show am_wp d 181 (364, [some (.ref (0)), some (.ref (45)), some (.ref (128)), some (.ref (166)), some (.int (Int32.ofNat i)), some (.int (Int32.ofNat c)), v6], [.int (Int32.ofNat c)], Xc) _
  refine wp_st 1 (f' := (366, [some (.ref (0)), some (.ref (45)), some (.ref (128)), some (.ref (166)), some (.int (Int32.ofNat i)), some (.int (Int32.ofNat c)), v6], [.int (Int32.ofNat c), .int (Int32.ofNat c)], Xc)) rfl ?_
  refine wp_ifT rfl rfl (rfl) ?_
  refine wp_gt rfl (show am_tgt 371 (326) = 697 by decide +kernel) ?_
  exact kk _ _ _ hV
theorem lc_word {ws : List Int32} {A : am_H} {d k i : Nat} {v5 v6 : Option Value} {Q : am_O × am_H → Prop} (hd : 60 ≤ d) (hi : i + 5 ≤ ws.length) (hl : ws.length ≤ 2560) (h : lw_V ws A k) (h0 : A[0]? = some (100, ws.map .int)) (kk : ∀ B v5 v6, lw_V ws B (k + 1) → am_wp d 181 (697, [some (.ref 0), some (.ref 45), some (.ref 128), some (.ref 166), some (.int (Int32.ofNat (i))), v5, v6], [], B) Q) : am_wp d 181 (374, [some (.ref 0), some (.ref 45), some (.ref 128), some (.ref 166), some (.int (Int32.ofNat (i))), v5, v6], [], A) Q := by
  refine wp_st 5 (f' := (380, [some (.ref (0)), some (.ref (45)), some (.ref (128)), some (.ref (166)), some (.int (Int32.ofNat i)), v5, v6], [.int ((Int32.ofNat i) + (Int32.ofNat 1)), .ref (0), .ref (45)], A)) rfl ?_
  rw [i32_add (i) (1)]
  refine wp_al rfl (Or.inl ⟨rfl, rfl⟩) rfl h0 (by omega) (lw_el (by omega)) rfl ?_
  refine wp_st 4 (f' := (386, [some (.ref (0)), some (.ref (45)), some (.ref (128)), some (.ref (166)), some (.int (Int32.ofNat i)), v5, v6], [.int ((Int32.ofNat i) + (Int32.ofNat 2)), .ref (0), .int (ws.getD (i + 1) 0), .ref (45)], A)) rfl ?_
  rw [i32_add (i) (2)]
  refine wp_al rfl (Or.inl ⟨rfl, rfl⟩) rfl h0 (by omega) (lw_el (by omega)) rfl ?_
  obtain ⟨Xb, Xc, c, ⟨vs1, hk1⟩, g1, ⟨vs2, hk2⟩, hb0, g2, ⟨vs3, hk3⟩, g3, hc4, hV⟩ := lv_word (d := d - 1) (x := ws.getD (i + 1) 0) (c := ws.getD (i + 2) 0) (by omega) h
  refine wp_cs (n := 0) (A' := Xb) (v := some (.int (Int32.ofNat c))) rfl rfl rfl (by omega) ((show am_go (d - 1) 89 [.ref (45), .int (ws.getD (i + 1) 0), .int (ws.getD (i + 2) 0)] _ _ from g1)) rfl ?_
  show am_wp d 181 (390, [some (.ref (0)), some (.ref (45)), some (.ref (128)), some (.ref (166)), some (.int (Int32.ofNat i)), v5, v6], [.int (Int32.ofNat c)], Xb) _
  refine wp_st 6 (f' := (398, [some (.ref (0)), some (.ref (45)), some (.ref (128)), some (.ref (166)), some (.int (Int32.ofNat i)), some (.int (Int32.ofNat c)), v6], [.int ((Int32.ofNat i) + (Int32.ofNat 1)), .ref (0), .ref (128)], Xb)) rfl ?_
  rw [i32_add (i) (1)]
  refine wp_al rfl (Or.inl ⟨rfl, rfl⟩) rfl hb0 (by omega) (lw_el (by omega)) rfl ?_
  refine wp_st 4 (f' := (404, [some (.ref (0)), some (.ref (45)), some (.ref (128)), some (.ref (166)), some (.int (Int32.ofNat i)), some (.int (Int32.ofNat c)), v6], [.int ((Int32.ofNat i) + (Int32.ofNat 2)), .ref (0), .int (ws.getD (i + 1) 0), .ref (128)], Xb)) rfl ?_
  rw [i32_add (i) (2)]
  refine wp_al rfl (Or.inl ⟨rfl, rfl⟩) rfl hb0 (by omega) (lw_el (by omega)) rfl ?_
  refine wp_cv (A' := Xc) (v := none) rfl rfl rfl rfl rfl hk2 (by omega) ((show am_go (d - 1) 165 [.ref (128), .int (ws.getD (i + 1) 0), .int (ws.getD (i + 2) 0)] _ _ from g2)) rfl ?_
  show am_wp d 181 (408, [some (.ref (0)), some (.ref (45)), some (.ref (128)), some (.ref (166)), some (.int (Int32.ofNat i)), some (.int (Int32.ofNat c)), v6], [], Xc) _
  refine wp_st 1 (f' := (409, [some (.ref (0)), some (.ref (45)), some (.ref (128)), some (.ref (166)), some (.int (Int32.ofNat i)), some (.int (Int32.ofNat c)), v6], [.ref (128)], Xc)) rfl ?_
  refine wp_cv (A' := Xc) (v := some (.int (Int32.ofNat c))) rfl rfl rfl rfl rfl hk3 (by omega) (g3) rfl ?_
  show am_wp d 181 (412, [some (.ref (0)), some (.ref (45)), some (.ref (128)), some (.ref (166)), some (.int (Int32.ofNat i)), some (.int (Int32.ofNat c)), v6], [.int (Int32.ofNat c)], Xc) _
  refine wp_st 1 (f' := (414, [some (.ref (0)), some (.ref (45)), some (.ref (128)), some (.ref (166)), some (.int (Int32.ofNat i)), some (.int (Int32.ofNat c)), v6], [.int (Int32.ofNat c), .int (Int32.ofNat c)], Xc)) rfl ?_
  refine wp_ifT rfl rfl (rfl) ?_
  refine wp_gt rfl (show am_tgt 419 (278) = 697 by decide +kernel) ?_
  exact kk _ _ _ hV
theorem lc_drop {ws : List Int32} {A : am_H} {d k i : Nat} {v5 v6 : Option Value} {Q : am_O × am_H → Prop} (hd : 60 ≤ d) (hi : i + 5 ≤ ws.length) (hl : ws.length ≤ 2560) (h : lw_V ws A k) (h0 : A[0]? = some (100, ws.map .int)) (kk : ∀ B v5 v6, lw_V ws B (k + 1) → am_wp d 181 (697, [some (.ref 0), some (.ref 45), some (.ref 128), some (.ref 166), some (.int (Int32.ofNat (i))), v5, v6], [], B) Q) : am_wp d 181 (422, [some (.ref 0), some (.ref 45), some (.ref 128), some (.ref 166), some (.int (Int32.ofNat (i))), v5, v6], [], A) Q := by
  refine wp_st 5 (f' := (428, [some (.ref (0)), some (.ref (45)), some (.ref (128)), some (.ref (166)), some (.int (Int32.ofNat i)), v5, v6], [.int ((Int32.ofNat i) + (Int32.ofNat 1)), .ref (0), .ref (45)], A)) rfl ?_
  rw [i32_add (i) (1)]
  refine wp_al rfl (Or.inl ⟨rfl, rfl⟩) rfl h0 (by omega) (lw_el (by omega)) rfl ?_
  obtain ⟨Xb, Xc, v, ⟨vs1, hk1⟩, g1, ⟨vs2, hk2⟩, hb0, g2, hV⟩ := lv_drop (d := d - 1) (x := ws.getD (i + 1) 0) (by omega) h
  refine wp_cv (A' := Xb) (v := some (.int (v))) rfl rfl rfl rfl rfl hk1 (by omega) ((show am_go (d - 1) 14 [.ref (45), .int (ws.getD (i + 1) 0)] _ _ from g1)) rfl ?_
  show am_wp d 181 (432, [some (.ref (0)), some (.ref (45)), some (.ref (128)), some (.ref (166)), some (.int (Int32.ofNat i)), v5, v6], [.int (v)], Xb) _
  refine wp_st 5 (f' := (438, [some (.ref (0)), some (.ref (45)), some (.ref (128)), some (.ref (166)), some (.int (Int32.ofNat i)), v5, v6], [.int ((Int32.ofNat i) + (Int32.ofNat 1)), .ref (0), .ref (128), .int (v)], Xb)) rfl ?_
  rw [i32_add (i) (1)]
  refine wp_al rfl (Or.inl ⟨rfl, rfl⟩) rfl hb0 (by omega) (lw_el (by omega)) rfl ?_
  refine wp_cv (A' := Xc) (v := some (.int (v))) rfl rfl rfl rfl rfl hk2 (by omega) ((show am_go (d - 1) 166 [.ref (128), .int (ws.getD (i + 1) 0)] _ _ from g2)) rfl ?_
  show am_wp d 181 (442, [some (.ref (0)), some (.ref (45)), some (.ref (128)), some (.ref (166)), some (.int (Int32.ofNat i)), v5, v6], [.int (v), .int (v)], Xc) _
  refine wp_ifT rfl (show am_tgt 442 (255) = 697 by decide +kernel) (rfl) ?_
  exact kk _ _ _ hV
theorem lc_cat {ws : List Int32} {A : am_H} {d k i : Nat} {v5 v6 : Option Value} {Q : am_O × am_H → Prop} (hd : 60 ≤ d) (hi : i + 5 ≤ ws.length) (hl : ws.length ≤ 2560) (h : lw_V ws A k) (h0 : A[0]? = some (100, ws.map .int)) (kk : ∀ B v5 v6, lw_V ws B (k + 1) → am_wp d 181 (697, [some (.ref 0), some (.ref 45), some (.ref 128), some (.ref 166), some (.int (Int32.ofNat (i))), v5, v6], [], B) Q) : am_wp d 181 (447, [some (.ref 0), some (.ref 45), some (.ref 128), some (.ref 166), some (.int (Int32.ofNat (i))), v5, v6], [], A) Q := by
  refine wp_st 5 (f' := (453, [some (.ref (0)), some (.ref (45)), some (.ref (128)), some (.ref (166)), some (.int (Int32.ofNat i)), v5, v6], [.int ((Int32.ofNat i) + (Int32.ofNat 1)), .ref (0), .ref (45)], A)) rfl ?_
  rw [i32_add (i) (1)]
  refine wp_al rfl (Or.inl ⟨rfl, rfl⟩) rfl h0 (by omega) (lw_el (by omega)) rfl ?_
  refine wp_iz rfl rfl rfl (fun (h1 : (ws.getD (i + 1) 0) = (Int32.ofNat 0)) => ?_) (fun (h1 : ¬ ((ws.getD (i + 1) 0) = (Int32.ofNat 0))) => ?_)
  · skip
    refine wp_st 5 (f' := (467, [some (.ref (0)), some (.ref (45)), some (.ref (128)), some (.ref (166)), some (.int (Int32.ofNat i)), v5, v6], [.int ((Int32.ofNat i) + (Int32.ofNat 2)), .ref (0), .int (Int32.ofNat 0), .ref (45)], A)) rfl ?_
    rw [i32_add (i) (2)]
    refine wp_al rfl (Or.inl ⟨rfl, rfl⟩) rfl h0 (by omega) (lw_el (by omega)) rfl ?_
    refine wp_st 7 (f' := (477, [some (.ref (0)), some (.ref (45)), some (.ref (128)), some (.ref (166)), some (.int (Int32.ofNat i)), v5, v6], [.int ((Int32.ofNat i) + (Int32.ofNat 3)), .ref (0), .long (((ws.getD (i + 2) 0).toInt64) <<< ((Int32.ofNat 32).toInt64 &&& 63)), .int (Int32.ofNat 0), .ref (45)], A)) rfl ?_
    rw [i32_add (i) (3)]
    refine wp_al rfl (Or.inl ⟨rfl, rfl⟩) rfl h0 (by omega) (lw_el (by omega)) rfl ?_
    refine wp_st 8 (f' := (489, [some (.ref (0)), some (.ref (45)), some (.ref (128)), some (.ref (166)), some (.int (Int32.ofNat i)), v5, v6], [.int ((Int32.ofNat i) + (Int32.ofNat 4)), .ref (0), .long ((((ws.getD (i + 2) 0).toInt64) <<< ((Int32.ofNat 32).toInt64 &&& 63)) ||| (((ws.getD (i + 3) 0).toInt64) &&& (4294967295))), .int (Int32.ofNat 0), .ref (45)], A)) rfl ?_
    rw [i32_add (i) (4)]
    refine wp_al rfl (Or.inl ⟨rfl, rfl⟩) rfl h0 (by omega) (lw_el (by omega)) rfl ?_
    refine wp_st 1 (f' := (491, [some (.ref (0)), some (.ref (45)), some (.ref (128)), some (.ref (166)), some (.int (Int32.ofNat i)), v5, v6], [.ref (166), .int (ws.getD (i + 4) 0), .long ((((ws.getD (i + 2) 0).toInt64) <<< ((Int32.ofNat 32).toInt64 &&& 63)) ||| (((ws.getD (i + 3) 0).toInt64) &&& (4294967295))), .int (Int32.ofNat 0), .ref (45)], A)) rfl ?_
    obtain ⟨Xb, Xc, c, v, ⟨vs1, hk1⟩, g1, ⟨vs2, hk2⟩, hb0, g2, ⟨vs3, hk3⟩, g3, hcc, hV⟩ := lv_catg (d := d - 1) (o := false) (y := (((ws.getD (i + 2) 0).toInt64) <<< ((Int32.ofNat 32).toInt64 &&& 63)) ||| (((ws.getD (i + 3) 0).toInt64) &&& (4294967295))) (c := ws.getD (i + 4) 0) (by omega) h
    rcases hcc with ⟨hc0, hc6⟩ | hc1
    · skip
      subst hc0
      refine wp_cs (n := 0) (A' := Xb) (v := some (.int (Int32.ofNat 0))) rfl rfl rfl (by omega) ((show am_go (d - 1) 91 [.ref (45), .int (Int32.ofNat 0), .long ((((ws.getD (i + 2) 0).toInt64) <<< ((Int32.ofNat 32).toInt64 &&& 63)) ||| (((ws.getD (i + 3) 0).toInt64) &&& (4294967295))), .int (ws.getD (i + 4) 0), .ref (166)] _ _ from g1)) rfl ?_
      show am_wp d 181 (494, [some (.ref (0)), some (.ref (45)), some (.ref (128)), some (.ref (166)), some (.int (Int32.ofNat i)), v5, v6], [.int (Int32.ofNat 0)], Xb) _
      refine wp_st 6 (f' := (502, [some (.ref (0)), some (.ref (45)), some (.ref (128)), some (.ref (166)), some (.int (Int32.ofNat i)), some (.int (Int32.ofNat 0)), v6], [.int ((Int32.ofNat i) + (Int32.ofNat 1)), .ref (0), .ref (128)], Xb)) rfl ?_
      rw [i32_add (i) (1)]
      refine wp_al rfl (Or.inl ⟨rfl, rfl⟩) rfl hb0 (by omega) (lw_el (by omega)) rfl ?_
      refine wp_izT rfl rfl (h1) ?_
      refine wp_st 5 (f' := (516, [some (.ref (0)), some (.ref (45)), some (.ref (128)), some (.ref (166)), some (.int (Int32.ofNat i)), some (.int (Int32.ofNat 0)), v6], [.int ((Int32.ofNat i) + (Int32.ofNat 2)), .ref (0), .int (Int32.ofNat 0), .ref (128)], Xb)) rfl ?_
      rw [i32_add (i) (2)]
      refine wp_al rfl (Or.inl ⟨rfl, rfl⟩) rfl hb0 (by omega) (lw_el (by omega)) rfl ?_
      refine wp_st 7 (f' := (526, [some (.ref (0)), some (.ref (45)), some (.ref (128)), some (.ref (166)), some (.int (Int32.ofNat i)), some (.int (Int32.ofNat 0)), v6], [.int ((Int32.ofNat i) + (Int32.ofNat 3)), .ref (0), .long (((ws.getD (i + 2) 0).toInt64) <<< ((Int32.ofNat 32).toInt64 &&& 63)), .int (Int32.ofNat 0), .ref (128)], Xb)) rfl ?_
      rw [i32_add (i) (3)]
      refine wp_al rfl (Or.inl ⟨rfl, rfl⟩) rfl hb0 (by omega) (lw_el (by omega)) rfl ?_
      refine wp_st 8 (f' := (538, [some (.ref (0)), some (.ref (45)), some (.ref (128)), some (.ref (166)), some (.int (Int32.ofNat i)), some (.int (Int32.ofNat 0)), v6], [.int ((Int32.ofNat i) + (Int32.ofNat 4)), .ref (0), .long ((((ws.getD (i + 2) 0).toInt64) <<< ((Int32.ofNat 32).toInt64 &&& 63)) ||| (((ws.getD (i + 3) 0).toInt64) &&& (4294967295))), .int (Int32.ofNat 0), .ref (128)], Xb)) rfl ?_
      rw [i32_add (i) (4)]
      refine wp_al rfl (Or.inl ⟨rfl, rfl⟩) rfl hb0 (by omega) (lw_el (by omega)) rfl ?_
      refine wp_cv (A' := Xc) (v := some (.int (v))) rfl rfl rfl rfl rfl hk2 (by omega) ((show am_go (d - 1) 156 [.ref (128), .int (Int32.ofNat 0), .long ((((ws.getD (i + 2) 0).toInt64) <<< ((Int32.ofNat 32).toInt64 &&& 63)) ||| (((ws.getD (i + 3) 0).toInt64) &&& (4294967295))), .int (ws.getD (i + 4) 0)] _ _ from g2)) rfl ?_
      show am_wp d 181 (542, [some (.ref (0)), some (.ref (45)), some (.ref (128)), some (.ref (166)), some (.int (Int32.ofNat i)), some (.int (Int32.ofNat 0)), v6], [.int (v)], Xc) _
      refine wp_st 2 (f' := (545, [some (.ref (0)), some (.ref (45)), some (.ref (128)), some (.ref (166)), some (.int (Int32.ofNat i)), some (.int (Int32.ofNat 0)), some (.int (v))], [.ref (128)], Xc)) rfl ?_
      refine wp_cv (A' := Xc) (v := some (.int (Int32.ofNat 0))) rfl rfl rfl rfl rfl hk3 (by omega) (g3) rfl ?_
      show am_wp d 181 (548, [some (.ref (0)), some (.ref (45)), some (.ref (128)), some (.ref (166)), some (.int (Int32.ofNat i)), some (.int (Int32.ofNat 0)), some (.int (v))], [.int (Int32.ofNat 0)], Xc) _
      refine wp_st 1 (f' := (550, [some (.ref (0)), some (.ref (45)), some (.ref (128)), some (.ref (166)), some (.int (Int32.ofNat i)), some (.int (Int32.ofNat 0)), some (.int (v))], [.int (Int32.ofNat 0), .int (Int32.ofNat 0)], Xc)) rfl ?_
      refine wp_ifT rfl rfl (rfl) ?_
      refine wp_st 1 (f' := (557, [some (.ref (0)), some (.ref (45)), some (.ref (128)), some (.ref (166)), some (.int (Int32.ofNat i)), some (.int (Int32.ofNat 0)), some (.int (v))], [.int (Int32.ofNat 0)], Xc)) rfl ?_
      refine wp_izF rfl rfl (show ¬ ((Int32.ofNat 0) ≠ (Int32.ofNat 0)) from by decide) ?_
      refine wp_st 2 (f' := (562, [some (.ref (0)), some (.ref (45)), some (.ref (128)), some (.ref (166)), some (.int (Int32.ofNat i)), some (.int (Int32.ofNat 0)), some (.int (v))], [.int (Int32.ofNat 0), .ref (166)], Xc)) rfl ?_
      refine wp_al rfl (Or.inr (Or.inl ⟨rfl, rfl⟩)) rfl hc6 (by omega) rfl rfl ?_
      refine wp_st 3 (f' := (567, [some (.ref (0)), some (.ref (45)), some (.ref (128)), some (.ref (166)), some (.int (Int32.ofNat i)), some (.int (Int32.ofNat 0)), some (.int (v))], [.int (lg_cmp v.toInt64 v.toInt64)], Xc)) rfl ?_
      refine wp_izT rfl rfl ((lg_cmp_eq _ _).mpr rfl) ?_
      refine wp_gt rfl (show am_tgt 572 (125) = 697 by decide +kernel) ?_
      exact kk _ _ _ hV
    · skip
      refine wp_cs (n := 0) (A' := Xb) (v := some (.int (Int32.ofNat c))) rfl rfl rfl (by omega) ((show am_go (d - 1) 91 [.ref (45), .int (Int32.ofNat 0), .long ((((ws.getD (i + 2) 0).toInt64) <<< ((Int32.ofNat 32).toInt64 &&& 63)) ||| (((ws.getD (i + 3) 0).toInt64) &&& (4294967295))), .int (ws.getD (i + 4) 0), .ref (166)] _ _ from g1)) rfl ?_
      show am_wp d 181 (494, [some (.ref (0)), some (.ref (45)), some (.ref (128)), some (.ref (166)), some (.int (Int32.ofNat i)), v5, v6], [.int (Int32.ofNat c)], Xb) _
      refine wp_st 6 (f' := (502, [some (.ref (0)), some (.ref (45)), some (.ref (128)), some (.ref (166)), some (.int (Int32.ofNat i)), some (.int (Int32.ofNat c)), v6], [.int ((Int32.ofNat i) + (Int32.ofNat 1)), .ref (0), .ref (128)], Xb)) rfl ?_
      rw [i32_add (i) (1)]
      refine wp_al rfl (Or.inl ⟨rfl, rfl⟩) rfl hb0 (by omega) (lw_el (by omega)) rfl ?_
      refine wp_izT rfl rfl (h1) ?_
      refine wp_st 5 (f' := (516, [some (.ref (0)), some (.ref (45)), some (.ref (128)), some (.ref (166)), some (.int (Int32.ofNat i)), some (.int (Int32.ofNat c)), v6], [.int ((Int32.ofNat i) + (Int32.ofNat 2)), .ref (0), .int (Int32.ofNat 0), .ref (128)], Xb)) rfl ?_
      rw [i32_add (i) (2)]
      refine wp_al rfl (Or.inl ⟨rfl, rfl⟩) rfl hb0 (by omega) (lw_el (by omega)) rfl ?_
      refine wp_st 7 (f' := (526, [some (.ref (0)), some (.ref (45)), some (.ref (128)), some (.ref (166)), some (.int (Int32.ofNat i)), some (.int (Int32.ofNat c)), v6], [.int ((Int32.ofNat i) + (Int32.ofNat 3)), .ref (0), .long (((ws.getD (i + 2) 0).toInt64) <<< ((Int32.ofNat 32).toInt64 &&& 63)), .int (Int32.ofNat 0), .ref (128)], Xb)) rfl ?_
      rw [i32_add (i) (3)]
      refine wp_al rfl (Or.inl ⟨rfl, rfl⟩) rfl hb0 (by omega) (lw_el (by omega)) rfl ?_
      refine wp_st 8 (f' := (538, [some (.ref (0)), some (.ref (45)), some (.ref (128)), some (.ref (166)), some (.int (Int32.ofNat i)), some (.int (Int32.ofNat c)), v6], [.int ((Int32.ofNat i) + (Int32.ofNat 4)), .ref (0), .long ((((ws.getD (i + 2) 0).toInt64) <<< ((Int32.ofNat 32).toInt64 &&& 63)) ||| (((ws.getD (i + 3) 0).toInt64) &&& (4294967295))), .int (Int32.ofNat 0), .ref (128)], Xb)) rfl ?_
      rw [i32_add (i) (4)]
      refine wp_al rfl (Or.inl ⟨rfl, rfl⟩) rfl hb0 (by omega) (lw_el (by omega)) rfl ?_
      refine wp_cv (A' := Xc) (v := some (.int (v))) rfl rfl rfl rfl rfl hk2 (by omega) ((show am_go (d - 1) 156 [.ref (128), .int (Int32.ofNat 0), .long ((((ws.getD (i + 2) 0).toInt64) <<< ((Int32.ofNat 32).toInt64 &&& 63)) ||| (((ws.getD (i + 3) 0).toInt64) &&& (4294967295))), .int (ws.getD (i + 4) 0)] _ _ from g2)) rfl ?_
      show am_wp d 181 (542, [some (.ref (0)), some (.ref (45)), some (.ref (128)), some (.ref (166)), some (.int (Int32.ofNat i)), some (.int (Int32.ofNat c)), v6], [.int (v)], Xc) _
      refine wp_st 2 (f' := (545, [some (.ref (0)), some (.ref (45)), some (.ref (128)), some (.ref (166)), some (.int (Int32.ofNat i)), some (.int (Int32.ofNat c)), some (.int (v))], [.ref (128)], Xc)) rfl ?_
      refine wp_cv (A' := Xc) (v := some (.int (Int32.ofNat c))) rfl rfl rfl rfl rfl hk3 (by omega) (g3) rfl ?_
      show am_wp d 181 (548, [some (.ref (0)), some (.ref (45)), some (.ref (128)), some (.ref (166)), some (.int (Int32.ofNat i)), some (.int (Int32.ofNat c)), some (.int (v))], [.int (Int32.ofNat c)], Xc) _
      refine wp_st 1 (f' := (550, [some (.ref (0)), some (.ref (45)), some (.ref (128)), some (.ref (166)), some (.int (Int32.ofNat i)), some (.int (Int32.ofNat c)), some (.int (v))], [.int (Int32.ofNat c), .int (Int32.ofNat c)], Xc)) rfl ?_
      refine wp_ifT rfl rfl (rfl) ?_
      refine wp_st 1 (f' := (557, [some (.ref (0)), some (.ref (45)), some (.ref (128)), some (.ref (166)), some (.int (Int32.ofNat i)), some (.int (Int32.ofNat c)), some (.int (v))], [.int (Int32.ofNat c)], Xc)) rfl ?_
      refine wp_izT rfl rfl (show ¬ (Int32.ofNat c = Int32.ofNat 0) from by rw [i32_eq (by omega) (by omega)]; omega) ?_
      refine wp_gt rfl (show am_tgt 572 (125) = 697 by decide +kernel) ?_
      exact kk _ _ _ hV
  · skip
    refine wp_st 6 (f' := (467, [some (.ref (0)), some (.ref (45)), some (.ref (128)), some (.ref (166)), some (.int (Int32.ofNat i)), v5, v6], [.int ((Int32.ofNat i) + (Int32.ofNat 2)), .ref (0), .int (Int32.ofNat 1), .ref (45)], A)) rfl ?_
    rw [i32_add (i) (2)]
    refine wp_al rfl (Or.inl ⟨rfl, rfl⟩) rfl h0 (by omega) (lw_el (by omega)) rfl ?_
    refine wp_st 7 (f' := (477, [some (.ref (0)), some (.ref (45)), some (.ref (128)), some (.ref (166)), some (.int (Int32.ofNat i)), v5, v6], [.int ((Int32.ofNat i) + (Int32.ofNat 3)), .ref (0), .long (((ws.getD (i + 2) 0).toInt64) <<< ((Int32.ofNat 32).toInt64 &&& 63)), .int (Int32.ofNat 1), .ref (45)], A)) rfl ?_
    rw [i32_add (i) (3)]
    refine wp_al rfl (Or.inl ⟨rfl, rfl⟩) rfl h0 (by omega) (lw_el (by omega)) rfl ?_
    refine wp_st 8 (f' := (489, [some (.ref (0)), some (.ref (45)), some (.ref (128)), some (.ref (166)), some (.int (Int32.ofNat i)), v5, v6], [.int ((Int32.ofNat i) + (Int32.ofNat 4)), .ref (0), .long ((((ws.getD (i + 2) 0).toInt64) <<< ((Int32.ofNat 32).toInt64 &&& 63)) ||| (((ws.getD (i + 3) 0).toInt64) &&& (4294967295))), .int (Int32.ofNat 1), .ref (45)], A)) rfl ?_
    rw [i32_add (i) (4)]
    refine wp_al rfl (Or.inl ⟨rfl, rfl⟩) rfl h0 (by omega) (lw_el (by omega)) rfl ?_
    refine wp_st 1 (f' := (491, [some (.ref (0)), some (.ref (45)), some (.ref (128)), some (.ref (166)), some (.int (Int32.ofNat i)), v5, v6], [.ref (166), .int (ws.getD (i + 4) 0), .long ((((ws.getD (i + 2) 0).toInt64) <<< ((Int32.ofNat 32).toInt64 &&& 63)) ||| (((ws.getD (i + 3) 0).toInt64) &&& (4294967295))), .int (Int32.ofNat 1), .ref (45)], A)) rfl ?_
    obtain ⟨Xb, Xc, c, v, ⟨vs1, hk1⟩, g1, ⟨vs2, hk2⟩, hb0, g2, ⟨vs3, hk3⟩, g3, hcc, hV⟩ := lv_catg (d := d - 1) (o := true) (y := (((ws.getD (i + 2) 0).toInt64) <<< ((Int32.ofNat 32).toInt64 &&& 63)) ||| (((ws.getD (i + 3) 0).toInt64) &&& (4294967295))) (c := ws.getD (i + 4) 0) (by omega) h
    rcases hcc with ⟨hc0, hc6⟩ | hc1
    · skip
      subst hc0
      refine wp_cs (n := 0) (A' := Xb) (v := some (.int (Int32.ofNat 0))) rfl rfl rfl (by omega) ((show am_go (d - 1) 91 [.ref (45), .int (Int32.ofNat 1), .long ((((ws.getD (i + 2) 0).toInt64) <<< ((Int32.ofNat 32).toInt64 &&& 63)) ||| (((ws.getD (i + 3) 0).toInt64) &&& (4294967295))), .int (ws.getD (i + 4) 0), .ref (166)] _ _ from g1)) rfl ?_
      show am_wp d 181 (494, [some (.ref (0)), some (.ref (45)), some (.ref (128)), some (.ref (166)), some (.int (Int32.ofNat i)), v5, v6], [.int (Int32.ofNat 0)], Xb) _
      refine wp_st 6 (f' := (502, [some (.ref (0)), some (.ref (45)), some (.ref (128)), some (.ref (166)), some (.int (Int32.ofNat i)), some (.int (Int32.ofNat 0)), v6], [.int ((Int32.ofNat i) + (Int32.ofNat 1)), .ref (0), .ref (128)], Xb)) rfl ?_
      rw [i32_add (i) (1)]
      refine wp_al rfl (Or.inl ⟨rfl, rfl⟩) rfl hb0 (by omega) (lw_el (by omega)) rfl ?_
      refine wp_izF rfl rfl (h1) ?_
      refine wp_st 6 (f' := (516, [some (.ref (0)), some (.ref (45)), some (.ref (128)), some (.ref (166)), some (.int (Int32.ofNat i)), some (.int (Int32.ofNat 0)), v6], [.int ((Int32.ofNat i) + (Int32.ofNat 2)), .ref (0), .int (Int32.ofNat 1), .ref (128)], Xb)) rfl ?_
      rw [i32_add (i) (2)]
      refine wp_al rfl (Or.inl ⟨rfl, rfl⟩) rfl hb0 (by omega) (lw_el (by omega)) rfl ?_
      refine wp_st 7 (f' := (526, [some (.ref (0)), some (.ref (45)), some (.ref (128)), some (.ref (166)), some (.int (Int32.ofNat i)), some (.int (Int32.ofNat 0)), v6], [.int ((Int32.ofNat i) + (Int32.ofNat 3)), .ref (0), .long (((ws.getD (i + 2) 0).toInt64) <<< ((Int32.ofNat 32).toInt64 &&& 63)), .int (Int32.ofNat 1), .ref (128)], Xb)) rfl ?_
      rw [i32_add (i) (3)]
      refine wp_al rfl (Or.inl ⟨rfl, rfl⟩) rfl hb0 (by omega) (lw_el (by omega)) rfl ?_
      refine wp_st 8 (f' := (538, [some (.ref (0)), some (.ref (45)), some (.ref (128)), some (.ref (166)), some (.int (Int32.ofNat i)), some (.int (Int32.ofNat 0)), v6], [.int ((Int32.ofNat i) + (Int32.ofNat 4)), .ref (0), .long ((((ws.getD (i + 2) 0).toInt64) <<< ((Int32.ofNat 32).toInt64 &&& 63)) ||| (((ws.getD (i + 3) 0).toInt64) &&& (4294967295))), .int (Int32.ofNat 1), .ref (128)], Xb)) rfl ?_
      rw [i32_add (i) (4)]
      refine wp_al rfl (Or.inl ⟨rfl, rfl⟩) rfl hb0 (by omega) (lw_el (by omega)) rfl ?_
      refine wp_cv (A' := Xc) (v := some (.int (v))) rfl rfl rfl rfl rfl hk2 (by omega) ((show am_go (d - 1) 156 [.ref (128), .int (Int32.ofNat 1), .long ((((ws.getD (i + 2) 0).toInt64) <<< ((Int32.ofNat 32).toInt64 &&& 63)) ||| (((ws.getD (i + 3) 0).toInt64) &&& (4294967295))), .int (ws.getD (i + 4) 0)] _ _ from g2)) rfl ?_
      show am_wp d 181 (542, [some (.ref (0)), some (.ref (45)), some (.ref (128)), some (.ref (166)), some (.int (Int32.ofNat i)), some (.int (Int32.ofNat 0)), v6], [.int (v)], Xc) _
      refine wp_st 2 (f' := (545, [some (.ref (0)), some (.ref (45)), some (.ref (128)), some (.ref (166)), some (.int (Int32.ofNat i)), some (.int (Int32.ofNat 0)), some (.int (v))], [.ref (128)], Xc)) rfl ?_
      refine wp_cv (A' := Xc) (v := some (.int (Int32.ofNat 0))) rfl rfl rfl rfl rfl hk3 (by omega) (g3) rfl ?_
      show am_wp d 181 (548, [some (.ref (0)), some (.ref (45)), some (.ref (128)), some (.ref (166)), some (.int (Int32.ofNat i)), some (.int (Int32.ofNat 0)), some (.int (v))], [.int (Int32.ofNat 0)], Xc) _
      refine wp_st 1 (f' := (550, [some (.ref (0)), some (.ref (45)), some (.ref (128)), some (.ref (166)), some (.int (Int32.ofNat i)), some (.int (Int32.ofNat 0)), some (.int (v))], [.int (Int32.ofNat 0), .int (Int32.ofNat 0)], Xc)) rfl ?_
      refine wp_ifT rfl rfl (rfl) ?_
      refine wp_st 1 (f' := (557, [some (.ref (0)), some (.ref (45)), some (.ref (128)), some (.ref (166)), some (.int (Int32.ofNat i)), some (.int (Int32.ofNat 0)), some (.int (v))], [.int (Int32.ofNat 0)], Xc)) rfl ?_
      refine wp_izF rfl rfl (show ¬ ((Int32.ofNat 0) ≠ (Int32.ofNat 0)) from by decide) ?_
      refine wp_st 2 (f' := (562, [some (.ref (0)), some (.ref (45)), some (.ref (128)), some (.ref (166)), some (.int (Int32.ofNat i)), some (.int (Int32.ofNat 0)), some (.int (v))], [.int (Int32.ofNat 0), .ref (166)], Xc)) rfl ?_
      refine wp_al rfl (Or.inr (Or.inl ⟨rfl, rfl⟩)) rfl hc6 (by omega) rfl rfl ?_
      refine wp_st 3 (f' := (567, [some (.ref (0)), some (.ref (45)), some (.ref (128)), some (.ref (166)), some (.int (Int32.ofNat i)), some (.int (Int32.ofNat 0)), some (.int (v))], [.int (lg_cmp v.toInt64 v.toInt64)], Xc)) rfl ?_
      refine wp_izT rfl rfl ((lg_cmp_eq _ _).mpr rfl) ?_
      refine wp_gt rfl (show am_tgt 572 (125) = 697 by decide +kernel) ?_
      exact kk _ _ _ hV
    · skip
      refine wp_cs (n := 0) (A' := Xb) (v := some (.int (Int32.ofNat c))) rfl rfl rfl (by omega) ((show am_go (d - 1) 91 [.ref (45), .int (Int32.ofNat 1), .long ((((ws.getD (i + 2) 0).toInt64) <<< ((Int32.ofNat 32).toInt64 &&& 63)) ||| (((ws.getD (i + 3) 0).toInt64) &&& (4294967295))), .int (ws.getD (i + 4) 0), .ref (166)] _ _ from g1)) rfl ?_
      show am_wp d 181 (494, [some (.ref (0)), some (.ref (45)), some (.ref (128)), some (.ref (166)), some (.int (Int32.ofNat i)), v5, v6], [.int (Int32.ofNat c)], Xb) _
      refine wp_st 6 (f' := (502, [some (.ref (0)), some (.ref (45)), some (.ref (128)), some (.ref (166)), some (.int (Int32.ofNat i)), some (.int (Int32.ofNat c)), v6], [.int ((Int32.ofNat i) + (Int32.ofNat 1)), .ref (0), .ref (128)], Xb)) rfl ?_
      rw [i32_add (i) (1)]
      refine wp_al rfl (Or.inl ⟨rfl, rfl⟩) rfl hb0 (by omega) (lw_el (by omega)) rfl ?_
      refine wp_izF rfl rfl (h1) ?_
      refine wp_st 6 (f' := (516, [some (.ref (0)), some (.ref (45)), some (.ref (128)), some (.ref (166)), some (.int (Int32.ofNat i)), some (.int (Int32.ofNat c)), v6], [.int ((Int32.ofNat i) + (Int32.ofNat 2)), .ref (0), .int (Int32.ofNat 1), .ref (128)], Xb)) rfl ?_
      rw [i32_add (i) (2)]
      refine wp_al rfl (Or.inl ⟨rfl, rfl⟩) rfl hb0 (by omega) (lw_el (by omega)) rfl ?_
      refine wp_st 7 (f' := (526, [some (.ref (0)), some (.ref (45)), some (.ref (128)), some (.ref (166)), some (.int (Int32.ofNat i)), some (.int (Int32.ofNat c)), v6], [.int ((Int32.ofNat i) + (Int32.ofNat 3)), .ref (0), .long (((ws.getD (i + 2) 0).toInt64) <<< ((Int32.ofNat 32).toInt64 &&& 63)), .int (Int32.ofNat 1), .ref (128)], Xb)) rfl ?_
      rw [i32_add (i) (3)]
      refine wp_al rfl (Or.inl ⟨rfl, rfl⟩) rfl hb0 (by omega) (lw_el (by omega)) rfl ?_
      refine wp_st 8 (f' := (538, [some (.ref (0)), some (.ref (45)), some (.ref (128)), some (.ref (166)), some (.int (Int32.ofNat i)), some (.int (Int32.ofNat c)), v6], [.int ((Int32.ofNat i) + (Int32.ofNat 4)), .ref (0), .long ((((ws.getD (i + 2) 0).toInt64) <<< ((Int32.ofNat 32).toInt64 &&& 63)) ||| (((ws.getD (i + 3) 0).toInt64) &&& (4294967295))), .int (Int32.ofNat 1), .ref (128)], Xb)) rfl ?_
      rw [i32_add (i) (4)]
      refine wp_al rfl (Or.inl ⟨rfl, rfl⟩) rfl hb0 (by omega) (lw_el (by omega)) rfl ?_
      refine wp_cv (A' := Xc) (v := some (.int (v))) rfl rfl rfl rfl rfl hk2 (by omega) ((show am_go (d - 1) 156 [.ref (128), .int (Int32.ofNat 1), .long ((((ws.getD (i + 2) 0).toInt64) <<< ((Int32.ofNat 32).toInt64 &&& 63)) ||| (((ws.getD (i + 3) 0).toInt64) &&& (4294967295))), .int (ws.getD (i + 4) 0)] _ _ from g2)) rfl ?_
      show am_wp d 181 (542, [some (.ref (0)), some (.ref (45)), some (.ref (128)), some (.ref (166)), some (.int (Int32.ofNat i)), some (.int (Int32.ofNat c)), v6], [.int (v)], Xc) _
      refine wp_st 2 (f' := (545, [some (.ref (0)), some (.ref (45)), some (.ref (128)), some (.ref (166)), some (.int (Int32.ofNat i)), some (.int (Int32.ofNat c)), some (.int (v))], [.ref (128)], Xc)) rfl ?_
      refine wp_cv (A' := Xc) (v := some (.int (Int32.ofNat c))) rfl rfl rfl rfl rfl hk3 (by omega) (g3) rfl ?_
      show am_wp d 181 (548, [some (.ref (0)), some (.ref (45)), some (.ref (128)), some (.ref (166)), some (.int (Int32.ofNat i)), some (.int (Int32.ofNat c)), some (.int (v))], [.int (Int32.ofNat c)], Xc) _
      refine wp_st 1 (f' := (550, [some (.ref (0)), some (.ref (45)), some (.ref (128)), some (.ref (166)), some (.int (Int32.ofNat i)), some (.int (Int32.ofNat c)), some (.int (v))], [.int (Int32.ofNat c), .int (Int32.ofNat c)], Xc)) rfl ?_
      refine wp_ifT rfl rfl (rfl) ?_
      refine wp_st 1 (f' := (557, [some (.ref (0)), some (.ref (45)), some (.ref (128)), some (.ref (166)), some (.int (Int32.ofNat i)), some (.int (Int32.ofNat c)), some (.int (v))], [.int (Int32.ofNat c)], Xc)) rfl ?_
      refine wp_izT rfl rfl (show ¬ (Int32.ofNat c = Int32.ofNat 0) from by rw [i32_eq (by omega) (by omega)]; omega) ?_
      refine wp_gt rfl (show am_tgt 572 (125) = 697 by decide +kernel) ?_
      exact kk _ _ _ hV
theorem lc_fmt {ws : List Int32} {A : am_H} {d k i : Nat} {v5 v6 : Option Value} {Q : am_O × am_H → Prop} (hd : 60 ≤ d) (hi : i + 5 ≤ ws.length) (hl : ws.length ≤ 2560) (h : lw_V ws A k) (h0 : A[0]? = some (100, ws.map .int)) (kk : ∀ B v5 v6, lw_V ws B (k + 1) → am_wp d 181 (697, [some (.ref 0), some (.ref 45), some (.ref 128), some (.ref 166), some (.int (Int32.ofNat (i))), v5, v6], [], B) Q) : am_wp d 181 (575, [some (.ref 0), some (.ref 45), some (.ref 128), some (.ref 166), some (.int (Int32.ofNat (i))), v5, v6], [], A) Q := by
  refine wp_st 5 (f' := (581, [some (.ref (0)), some (.ref (45)), some (.ref (128)), some (.ref (166)), some (.int (Int32.ofNat i)), v5, v6], [.int ((Int32.ofNat i) + (Int32.ofNat 1)), .ref (0), .ref (45)], A)) rfl ?_
  rw [i32_add (i) (1)]
  refine wp_al rfl (Or.inl ⟨rfl, rfl⟩) rfl h0 (by omega) (lw_el (by omega)) rfl ?_
  refine wp_st 4 (f' := (587, [some (.ref (0)), some (.ref (45)), some (.ref (128)), some (.ref (166)), some (.int (Int32.ofNat i)), v5, v6], [.int ((Int32.ofNat i) + (Int32.ofNat 2)), .ref (0), .int (ws.getD (i + 1) 0), .ref (45)], A)) rfl ?_
  rw [i32_add (i) (2)]
  refine wp_al rfl (Or.inl ⟨rfl, rfl⟩) rfl h0 (by omega) (lw_el (by omega)) rfl ?_
  refine wp_iz rfl rfl rfl (fun (h1 : (ws.getD (i + 2) 0) = (Int32.ofNat 0)) => ?_) (fun (h1 : ¬ ((ws.getD (i + 2) 0) = (Int32.ofNat 0))) => ?_)
  · skip
    refine wp_st 2 (f' := (597, [some (.ref (0)), some (.ref (45)), some (.ref (128)), some (.ref (166)), some (.int (Int32.ofNat i)), v5, v6], [.ref (166), .int (Int32.ofNat 0), .int (ws.getD (i + 1) 0), .ref (45)], A)) rfl ?_
    obtain ⟨Xb, Xc, c, v, ⟨vs1, hk1⟩, g1, ⟨vs2, hk2⟩, hb0, g2, ⟨vs3, hk3⟩, g3, hcc, hV⟩ := lv_fmt (d := d - 1) (x := ws.getD (i + 1) 0) (len := false) (by omega) h
    rcases hcc with ⟨hc0, hc6⟩ | hc1
    · skip
      subst hc0
      refine wp_cs (n := 0) (A' := Xb) (v := some (.int (Int32.ofNat 0))) rfl rfl rfl (by omega) ((show am_go (d - 1) 98 [.ref (45), .int (ws.getD (i + 1) 0), .int (Int32.ofNat 0), .ref (166)] _ _ from g1)) rfl ?_
      show am_wp d 181 (600, [some (.ref (0)), some (.ref (45)), some (.ref (128)), some (.ref (166)), some (.int (Int32.ofNat i)), v5, v6], [.int (Int32.ofNat 0)], Xb) _
      refine wp_st 6 (f' := (608, [some (.ref (0)), some (.ref (45)), some (.ref (128)), some (.ref (166)), some (.int (Int32.ofNat i)), some (.int (Int32.ofNat 0)), v6], [.int ((Int32.ofNat i) + (Int32.ofNat 1)), .ref (0), .ref (128)], Xb)) rfl ?_
      rw [i32_add (i) (1)]
      refine wp_al rfl (Or.inl ⟨rfl, rfl⟩) rfl hb0 (by omega) (lw_el (by omega)) rfl ?_
      refine wp_st 4 (f' := (614, [some (.ref (0)), some (.ref (45)), some (.ref (128)), some (.ref (166)), some (.int (Int32.ofNat i)), some (.int (Int32.ofNat 0)), v6], [.int ((Int32.ofNat i) + (Int32.ofNat 2)), .ref (0), .int (ws.getD (i + 1) 0), .ref (128)], Xb)) rfl ?_
      rw [i32_add (i) (2)]
      refine wp_al rfl (Or.inl ⟨rfl, rfl⟩) rfl hb0 (by omega) (lw_el (by omega)) rfl ?_
      refine wp_izT rfl rfl (h1) ?_
      refine wp_st 1 (f' := (623, [some (.ref (0)), some (.ref (45)), some (.ref (128)), some (.ref (166)), some (.int (Int32.ofNat i)), some (.int (Int32.ofNat 0)), v6], [.int (Int32.ofNat 0), .int (ws.getD (i + 1) 0), .ref (128)], Xb)) rfl ?_
      refine wp_cv (A' := Xc) (v := some (.int (v))) rfl rfl rfl rfl rfl hk2 (by omega) ((show am_go (d - 1) 167 [.ref (128), .int (ws.getD (i + 1) 0), .int (Int32.ofNat 0)] _ _ from g2)) rfl ?_
      show am_wp d 181 (626, [some (.ref (0)), some (.ref (45)), some (.ref (128)), some (.ref (166)), some (.int (Int32.ofNat i)), some (.int (Int32.ofNat 0)), v6], [.int (v)], Xc) _
      refine wp_st 2 (f' := (629, [some (.ref (0)), some (.ref (45)), some (.ref (128)), some (.ref (166)), some (.int (Int32.ofNat i)), some (.int (Int32.ofNat 0)), some (.int (v))], [.ref (128)], Xc)) rfl ?_
      refine wp_cv (A' := Xc) (v := some (.int (Int32.ofNat 0))) rfl rfl rfl rfl rfl hk3 (by omega) (g3) rfl ?_
      show am_wp d 181 (632, [some (.ref (0)), some (.ref (45)), some (.ref (128)), some (.ref (166)), some (.int (Int32.ofNat i)), some (.int (Int32.ofNat 0)), some (.int (v))], [.int (Int32.ofNat 0)], Xc) _
      refine wp_st 1 (f' := (634, [some (.ref (0)), some (.ref (45)), some (.ref (128)), some (.ref (166)), some (.int (Int32.ofNat i)), some (.int (Int32.ofNat 0)), some (.int (v))], [.int (Int32.ofNat 0), .int (Int32.ofNat 0)], Xc)) rfl ?_
      refine wp_ifT rfl rfl (rfl) ?_
      refine wp_st 1 (f' := (641, [some (.ref (0)), some (.ref (45)), some (.ref (128)), some (.ref (166)), some (.int (Int32.ofNat i)), some (.int (Int32.ofNat 0)), some (.int (v))], [.int (Int32.ofNat 0)], Xc)) rfl ?_
      refine wp_izF rfl rfl (show ¬ ((Int32.ofNat 0) ≠ (Int32.ofNat 0)) from by decide) ?_
      refine wp_st 2 (f' := (646, [some (.ref (0)), some (.ref (45)), some (.ref (128)), some (.ref (166)), some (.int (Int32.ofNat i)), some (.int (Int32.ofNat 0)), some (.int (v))], [.int (Int32.ofNat 0), .ref (166)], Xc)) rfl ?_
      refine wp_al rfl (Or.inr (Or.inl ⟨rfl, rfl⟩)) rfl hc6 (by omega) rfl rfl ?_
      refine wp_st 3 (f' := (651, [some (.ref (0)), some (.ref (45)), some (.ref (128)), some (.ref (166)), some (.int (Int32.ofNat i)), some (.int (Int32.ofNat 0)), some (.int (v))], [.int (lg_cmp v.toInt64 v.toInt64)], Xc)) rfl ?_
      refine wp_izT rfl rfl ((lg_cmp_eq _ _).mpr rfl) ?_
      refine wp_st 1 (f' := (697, [some (.ref (0)), some (.ref (45)), some (.ref (128)), some (.ref (166)), some (.int (Int32.ofNat i)), some (.int (Int32.ofNat 0)), some (.int (v))], [], Xc)) rfl ?_
      exact kk _ _ _ hV
    · skip
      refine wp_cs (n := 0) (A' := Xb) (v := some (.int (Int32.ofNat c))) rfl rfl rfl (by omega) ((show am_go (d - 1) 98 [.ref (45), .int (ws.getD (i + 1) 0), .int (Int32.ofNat 0), .ref (166)] _ _ from g1)) rfl ?_
      show am_wp d 181 (600, [some (.ref (0)), some (.ref (45)), some (.ref (128)), some (.ref (166)), some (.int (Int32.ofNat i)), v5, v6], [.int (Int32.ofNat c)], Xb) _
      refine wp_st 6 (f' := (608, [some (.ref (0)), some (.ref (45)), some (.ref (128)), some (.ref (166)), some (.int (Int32.ofNat i)), some (.int (Int32.ofNat c)), v6], [.int ((Int32.ofNat i) + (Int32.ofNat 1)), .ref (0), .ref (128)], Xb)) rfl ?_
      rw [i32_add (i) (1)]
      refine wp_al rfl (Or.inl ⟨rfl, rfl⟩) rfl hb0 (by omega) (lw_el (by omega)) rfl ?_
      refine wp_st 4 (f' := (614, [some (.ref (0)), some (.ref (45)), some (.ref (128)), some (.ref (166)), some (.int (Int32.ofNat i)), some (.int (Int32.ofNat c)), v6], [.int ((Int32.ofNat i) + (Int32.ofNat 2)), .ref (0), .int (ws.getD (i + 1) 0), .ref (128)], Xb)) rfl ?_
      rw [i32_add (i) (2)]
      refine wp_al rfl (Or.inl ⟨rfl, rfl⟩) rfl hb0 (by omega) (lw_el (by omega)) rfl ?_
      refine wp_izT rfl rfl (h1) ?_
      refine wp_st 1 (f' := (623, [some (.ref (0)), some (.ref (45)), some (.ref (128)), some (.ref (166)), some (.int (Int32.ofNat i)), some (.int (Int32.ofNat c)), v6], [.int (Int32.ofNat 0), .int (ws.getD (i + 1) 0), .ref (128)], Xb)) rfl ?_
      refine wp_cv (A' := Xc) (v := some (.int (v))) rfl rfl rfl rfl rfl hk2 (by omega) ((show am_go (d - 1) 167 [.ref (128), .int (ws.getD (i + 1) 0), .int (Int32.ofNat 0)] _ _ from g2)) rfl ?_
      show am_wp d 181 (626, [some (.ref (0)), some (.ref (45)), some (.ref (128)), some (.ref (166)), some (.int (Int32.ofNat i)), some (.int (Int32.ofNat c)), v6], [.int (v)], Xc) _
      refine wp_st 2 (f' := (629, [some (.ref (0)), some (.ref (45)), some (.ref (128)), some (.ref (166)), some (.int (Int32.ofNat i)), some (.int (Int32.ofNat c)), some (.int (v))], [.ref (128)], Xc)) rfl ?_
      refine wp_cv (A' := Xc) (v := some (.int (Int32.ofNat c))) rfl rfl rfl rfl rfl hk3 (by omega) (g3) rfl ?_
      show am_wp d 181 (632, [some (.ref (0)), some (.ref (45)), some (.ref (128)), some (.ref (166)), some (.int (Int32.ofNat i)), some (.int (Int32.ofNat c)), some (.int (v))], [.int (Int32.ofNat c)], Xc) _
      refine wp_st 1 (f' := (634, [some (.ref (0)), some (.ref (45)), some (.ref (128)), some (.ref (166)), some (.int (Int32.ofNat i)), some (.int (Int32.ofNat c)), some (.int (v))], [.int (Int32.ofNat c), .int (Int32.ofNat c)], Xc)) rfl ?_
      refine wp_ifT rfl rfl (rfl) ?_
      refine wp_st 1 (f' := (641, [some (.ref (0)), some (.ref (45)), some (.ref (128)), some (.ref (166)), some (.int (Int32.ofNat i)), some (.int (Int32.ofNat c)), some (.int (v))], [.int (Int32.ofNat c)], Xc)) rfl ?_
      refine wp_izT rfl rfl (show ¬ (Int32.ofNat c = Int32.ofNat 0) from by rw [i32_eq (by omega) (by omega)]; omega) ?_
      refine wp_st 1 (f' := (697, [some (.ref (0)), some (.ref (45)), some (.ref (128)), some (.ref (166)), some (.int (Int32.ofNat i)), some (.int (Int32.ofNat c)), some (.int (v))], [], Xc)) rfl ?_
      exact kk _ _ _ hV
  · skip
    refine wp_st 3 (f' := (597, [some (.ref (0)), some (.ref (45)), some (.ref (128)), some (.ref (166)), some (.int (Int32.ofNat i)), v5, v6], [.ref (166), .int (Int32.ofNat 1), .int (ws.getD (i + 1) 0), .ref (45)], A)) rfl ?_
    obtain ⟨Xb, Xc, c, v, ⟨vs1, hk1⟩, g1, ⟨vs2, hk2⟩, hb0, g2, ⟨vs3, hk3⟩, g3, hcc, hV⟩ := lv_fmt (d := d - 1) (x := ws.getD (i + 1) 0) (len := true) (by omega) h
    rcases hcc with ⟨hc0, hc6⟩ | hc1
    · skip
      subst hc0
      refine wp_cs (n := 0) (A' := Xb) (v := some (.int (Int32.ofNat 0))) rfl rfl rfl (by omega) ((show am_go (d - 1) 98 [.ref (45), .int (ws.getD (i + 1) 0), .int (Int32.ofNat 1), .ref (166)] _ _ from g1)) rfl ?_
      show am_wp d 181 (600, [some (.ref (0)), some (.ref (45)), some (.ref (128)), some (.ref (166)), some (.int (Int32.ofNat i)), v5, v6], [.int (Int32.ofNat 0)], Xb) _
      refine wp_st 6 (f' := (608, [some (.ref (0)), some (.ref (45)), some (.ref (128)), some (.ref (166)), some (.int (Int32.ofNat i)), some (.int (Int32.ofNat 0)), v6], [.int ((Int32.ofNat i) + (Int32.ofNat 1)), .ref (0), .ref (128)], Xb)) rfl ?_
      rw [i32_add (i) (1)]
      refine wp_al rfl (Or.inl ⟨rfl, rfl⟩) rfl hb0 (by omega) (lw_el (by omega)) rfl ?_
      refine wp_st 4 (f' := (614, [some (.ref (0)), some (.ref (45)), some (.ref (128)), some (.ref (166)), some (.int (Int32.ofNat i)), some (.int (Int32.ofNat 0)), v6], [.int ((Int32.ofNat i) + (Int32.ofNat 2)), .ref (0), .int (ws.getD (i + 1) 0), .ref (128)], Xb)) rfl ?_
      rw [i32_add (i) (2)]
      refine wp_al rfl (Or.inl ⟨rfl, rfl⟩) rfl hb0 (by omega) (lw_el (by omega)) rfl ?_
      refine wp_izF rfl rfl (h1) ?_
      refine wp_st 2 (f' := (623, [some (.ref (0)), some (.ref (45)), some (.ref (128)), some (.ref (166)), some (.int (Int32.ofNat i)), some (.int (Int32.ofNat 0)), v6], [.int (Int32.ofNat 1), .int (ws.getD (i + 1) 0), .ref (128)], Xb)) rfl ?_
      refine wp_cv (A' := Xc) (v := some (.int (v))) rfl rfl rfl rfl rfl hk2 (by omega) ((show am_go (d - 1) 167 [.ref (128), .int (ws.getD (i + 1) 0), .int (Int32.ofNat 1)] _ _ from g2)) rfl ?_
      show am_wp d 181 (626, [some (.ref (0)), some (.ref (45)), some (.ref (128)), some (.ref (166)), some (.int (Int32.ofNat i)), some (.int (Int32.ofNat 0)), v6], [.int (v)], Xc) _
      refine wp_st 2 (f' := (629, [some (.ref (0)), some (.ref (45)), some (.ref (128)), some (.ref (166)), some (.int (Int32.ofNat i)), some (.int (Int32.ofNat 0)), some (.int (v))], [.ref (128)], Xc)) rfl ?_
      refine wp_cv (A' := Xc) (v := some (.int (Int32.ofNat 0))) rfl rfl rfl rfl rfl hk3 (by omega) (g3) rfl ?_
      show am_wp d 181 (632, [some (.ref (0)), some (.ref (45)), some (.ref (128)), some (.ref (166)), some (.int (Int32.ofNat i)), some (.int (Int32.ofNat 0)), some (.int (v))], [.int (Int32.ofNat 0)], Xc) _
      refine wp_st 1 (f' := (634, [some (.ref (0)), some (.ref (45)), some (.ref (128)), some (.ref (166)), some (.int (Int32.ofNat i)), some (.int (Int32.ofNat 0)), some (.int (v))], [.int (Int32.ofNat 0), .int (Int32.ofNat 0)], Xc)) rfl ?_
      refine wp_ifT rfl rfl (rfl) ?_
      refine wp_st 1 (f' := (641, [some (.ref (0)), some (.ref (45)), some (.ref (128)), some (.ref (166)), some (.int (Int32.ofNat i)), some (.int (Int32.ofNat 0)), some (.int (v))], [.int (Int32.ofNat 0)], Xc)) rfl ?_
      refine wp_izF rfl rfl (show ¬ ((Int32.ofNat 0) ≠ (Int32.ofNat 0)) from by decide) ?_
      refine wp_st 2 (f' := (646, [some (.ref (0)), some (.ref (45)), some (.ref (128)), some (.ref (166)), some (.int (Int32.ofNat i)), some (.int (Int32.ofNat 0)), some (.int (v))], [.int (Int32.ofNat 0), .ref (166)], Xc)) rfl ?_
      refine wp_al rfl (Or.inr (Or.inl ⟨rfl, rfl⟩)) rfl hc6 (by omega) rfl rfl ?_
      refine wp_st 3 (f' := (651, [some (.ref (0)), some (.ref (45)), some (.ref (128)), some (.ref (166)), some (.int (Int32.ofNat i)), some (.int (Int32.ofNat 0)), some (.int (v))], [.int (lg_cmp v.toInt64 v.toInt64)], Xc)) rfl ?_
      refine wp_izT rfl rfl ((lg_cmp_eq _ _).mpr rfl) ?_
      refine wp_st 1 (f' := (697, [some (.ref (0)), some (.ref (45)), some (.ref (128)), some (.ref (166)), some (.int (Int32.ofNat i)), some (.int (Int32.ofNat 0)), some (.int (v))], [], Xc)) rfl ?_
      exact kk _ _ _ hV
    · skip
      refine wp_cs (n := 0) (A' := Xb) (v := some (.int (Int32.ofNat c))) rfl rfl rfl (by omega) ((show am_go (d - 1) 98 [.ref (45), .int (ws.getD (i + 1) 0), .int (Int32.ofNat 1), .ref (166)] _ _ from g1)) rfl ?_
      show am_wp d 181 (600, [some (.ref (0)), some (.ref (45)), some (.ref (128)), some (.ref (166)), some (.int (Int32.ofNat i)), v5, v6], [.int (Int32.ofNat c)], Xb) _
      refine wp_st 6 (f' := (608, [some (.ref (0)), some (.ref (45)), some (.ref (128)), some (.ref (166)), some (.int (Int32.ofNat i)), some (.int (Int32.ofNat c)), v6], [.int ((Int32.ofNat i) + (Int32.ofNat 1)), .ref (0), .ref (128)], Xb)) rfl ?_
      rw [i32_add (i) (1)]
      refine wp_al rfl (Or.inl ⟨rfl, rfl⟩) rfl hb0 (by omega) (lw_el (by omega)) rfl ?_
      refine wp_st 4 (f' := (614, [some (.ref (0)), some (.ref (45)), some (.ref (128)), some (.ref (166)), some (.int (Int32.ofNat i)), some (.int (Int32.ofNat c)), v6], [.int ((Int32.ofNat i) + (Int32.ofNat 2)), .ref (0), .int (ws.getD (i + 1) 0), .ref (128)], Xb)) rfl ?_
      rw [i32_add (i) (2)]
      refine wp_al rfl (Or.inl ⟨rfl, rfl⟩) rfl hb0 (by omega) (lw_el (by omega)) rfl ?_
      refine wp_izF rfl rfl (h1) ?_
      refine wp_st 2 (f' := (623, [some (.ref (0)), some (.ref (45)), some (.ref (128)), some (.ref (166)), some (.int (Int32.ofNat i)), some (.int (Int32.ofNat c)), v6], [.int (Int32.ofNat 1), .int (ws.getD (i + 1) 0), .ref (128)], Xb)) rfl ?_
      refine wp_cv (A' := Xc) (v := some (.int (v))) rfl rfl rfl rfl rfl hk2 (by omega) ((show am_go (d - 1) 167 [.ref (128), .int (ws.getD (i + 1) 0), .int (Int32.ofNat 1)] _ _ from g2)) rfl ?_
      show am_wp d 181 (626, [some (.ref (0)), some (.ref (45)), some (.ref (128)), some (.ref (166)), some (.int (Int32.ofNat i)), some (.int (Int32.ofNat c)), v6], [.int (v)], Xc) _
      refine wp_st 2 (f' := (629, [some (.ref (0)), some (.ref (45)), some (.ref (128)), some (.ref (166)), some (.int (Int32.ofNat i)), some (.int (Int32.ofNat c)), some (.int (v))], [.ref (128)], Xc)) rfl ?_
      refine wp_cv (A' := Xc) (v := some (.int (Int32.ofNat c))) rfl rfl rfl rfl rfl hk3 (by omega) (g3) rfl ?_
      show am_wp d 181 (632, [some (.ref (0)), some (.ref (45)), some (.ref (128)), some (.ref (166)), some (.int (Int32.ofNat i)), some (.int (Int32.ofNat c)), some (.int (v))], [.int (Int32.ofNat c)], Xc) _
      refine wp_st 1 (f' := (634, [some (.ref (0)), some (.ref (45)), some (.ref (128)), some (.ref (166)), some (.int (Int32.ofNat i)), some (.int (Int32.ofNat c)), some (.int (v))], [.int (Int32.ofNat c), .int (Int32.ofNat c)], Xc)) rfl ?_
      refine wp_ifT rfl rfl (rfl) ?_
      refine wp_st 1 (f' := (641, [some (.ref (0)), some (.ref (45)), some (.ref (128)), some (.ref (166)), some (.int (Int32.ofNat i)), some (.int (Int32.ofNat c)), some (.int (v))], [.int (Int32.ofNat c)], Xc)) rfl ?_
      refine wp_izT rfl rfl (show ¬ (Int32.ofNat c = Int32.ofNat 0) from by rw [i32_eq (by omega) (by omega)]; omega) ?_
      refine wp_st 1 (f' := (697, [some (.ref (0)), some (.ref (45)), some (.ref (128)), some (.ref (166)), some (.int (Int32.ofNat i)), some (.int (Int32.ofNat c)), some (.int (v))], [], Xc)) rfl ?_
      exact kk _ _ _ hV
theorem lc_size {ws : List Int32} {A : am_H} {d k i : Nat} {v5 v6 : Option Value} {Q : am_O × am_H → Prop} (hd : 60 ≤ d) (hi : i + 5 ≤ ws.length) (hl : ws.length ≤ 2560) (h : lw_V ws A k) (h0 : A[0]? = some (100, ws.map .int)) (kk : ∀ B v5 v6, lw_V ws B (k + 1) → am_wp d 181 (697, [some (.ref 0), some (.ref 45), some (.ref 128), some (.ref 166), some (.int (Int32.ofNat (i))), v5, v6], [], B) Q) : am_wp d 181 (659, [some (.ref 0), some (.ref 45), some (.ref 128), some (.ref 166), some (.int (Int32.ofNat (i))), v5, v6], [], A) Q := by
  refine wp_st 1 (f' := (660, [some (.ref (0)), some (.ref (45)), some (.ref (128)), some (.ref (166)), some (.int (Int32.ofNat i)), v5, v6], [.ref (45)], A)) rfl ?_
  obtain ⟨Xb, Xc, v, ⟨vs1, hk1⟩, g1, ⟨vs2, hk2⟩, hb0, g2, hV⟩ := lv_size (d := d - 1) h
  refine wp_cv (A' := Xb) (v := some (.int (v))) rfl rfl rfl rfl rfl hk1 (by omega) ((show am_go (d - 1) 18 [.ref (45)] _ _ from g1)) rfl ?_
  show am_wp d 181 (663, [some (.ref (0)), some (.ref (45)), some (.ref (128)), some (.ref (166)), some (.int (Int32.ofNat i)), v5, v6], [.int (v)], Xb) _
  refine wp_st 1 (f' := (664, [some (.ref (0)), some (.ref (45)), some (.ref (128)), some (.ref (166)), some (.int (Int32.ofNat i)), v5, v6], [.ref (128), .int (v)], Xb)) rfl ?_
  refine wp_cv (A' := Xc) (v := some (.int (v))) rfl rfl rfl rfl rfl hk2 (by omega) ((show am_go (d - 1) 179 [.ref (128)] _ _ from g2)) rfl ?_
  show am_wp d 181 (667, [some (.ref (0)), some (.ref (45)), some (.ref (128)), some (.ref (166)), some (.int (Int32.ofNat i)), v5, v6], [.int (v), .int (v)], Xc) _
  refine wp_ifT rfl rfl (rfl) ?_
  exact kk _ _ _ hV
theorem lc_out {ws : List Int32} {A : am_H} {d k i : Nat} {v5 v6 : Option Value} {Q : am_O × am_H → Prop} (hd : 60 ≤ d) (hi : i + 5 ≤ ws.length) (hl : ws.length ≤ 2560) (h : lw_V ws A k) (h0 : A[0]? = some (100, ws.map .int)) (kk : ∀ B v5 v6, lw_V ws B (k + 1) → am_wp d 181 (697, [some (.ref 0), some (.ref 45), some (.ref 128), some (.ref 166), some (.int (Int32.ofNat (i))), v5, v6], [], B) Q) : am_wp d 181 (672, [some (.ref 0), some (.ref 45), some (.ref 128), some (.ref 166), some (.int (Int32.ofNat (i))), v5, v6], [], A) Q := by
  refine wp_st 5 (f' := (678, [some (.ref (0)), some (.ref (45)), some (.ref (128)), some (.ref (166)), some (.int (Int32.ofNat i)), v5, v6], [.int ((Int32.ofNat i) + (Int32.ofNat 1)), .ref (0), .ref (45)], A)) rfl ?_
  rw [i32_add (i) (1)]
  refine wp_al rfl (Or.inl ⟨rfl, rfl⟩) rfl h0 (by omega) (lw_el (by omega)) rfl ?_
  obtain ⟨Xb, Xc, v, ⟨vs1, hk1⟩, g1, ⟨vs2, hk2⟩, hb0, g2, hV⟩ := lv_out (d := d - 1) (x := ws.getD (i + 1) 0) h
  refine wp_cv (A' := Xb) (v := some (.int (v))) rfl rfl rfl rfl rfl hk1 (by omega) ((show am_go (d - 1) 19 [.ref (45), .int (ws.getD (i + 1) 0)] _ _ from g1)) rfl ?_
  show am_wp d 181 (682, [some (.ref (0)), some (.ref (45)), some (.ref (128)), some (.ref (166)), some (.int (Int32.ofNat i)), v5, v6], [.int (v)], Xb) _
  refine wp_st 5 (f' := (688, [some (.ref (0)), some (.ref (45)), some (.ref (128)), some (.ref (166)), some (.int (Int32.ofNat i)), v5, v6], [.int ((Int32.ofNat i) + (Int32.ofNat 1)), .ref (0), .ref (128), .int (v)], Xb)) rfl ?_
  rw [i32_add (i) (1)]
  refine wp_al rfl (Or.inl ⟨rfl, rfl⟩) rfl hb0 (by omega) (lw_el (by omega)) rfl ?_
  refine wp_cv (A' := Xc) (v := some (.int (v))) rfl rfl rfl rfl rfl hk2 (by omega) ((show am_go (d - 1) 180 [.ref (128), .int (ws.getD (i + 1) 0)] _ _ from g2)) rfl ?_
  show am_wp d 181 (692, [some (.ref (0)), some (.ref (45)), some (.ref (128)), some (.ref (166)), some (.int (Int32.ofNat i)), v5, v6], [.int (v), .int (v)], Xc) _
  refine wp_ifT rfl rfl (rfl) ?_
  exact kk _ _ _ hV
