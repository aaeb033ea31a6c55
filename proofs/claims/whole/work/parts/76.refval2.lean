/-! The reference: number, word, drop, type. -/
theorem rn_num {d b nv : Nat} {nf cf : Nat → Int32} {bf : Nat → Bool} {lf : Nat → Int64} {s : rf_S} {A : am_H} {w c : Int32} {y : Int64} (hd : 2 ≤ d) (hv : rf_vs s nv nf bf lf cf) (h : rf A b s) : rf_go d 161 [.ref b, .int w, .long y, .int c] A b none (if rf_nm w = -1 ∨ sb_isn y c = false then rf_u s 0 0 (.int (Int32.ofNat 1)) else rf_pt (rf_u s 0 0 (.int (Int32.ofNat 0))) nv (rf_fd nf (rf_nm w) nv 0) (rf_nm w) false y c) := by
  refine rf_of ?_
  refine wp_st 1 (f' := (1, [some (.ref (b)), some (.int (w)), some (.long (y)), none, some (.int (c)), none], [.int (w)], A)) rfl ?_
  by_cases hnm : rf_nm w = -1
  · skip
    refine wp_cs (n := 0) (A' := A) (v := some (.int ((-1)))) rfl rfl rfl (by omega) (by have e := rn_nm (d := d - 1) (w := w) (A := A) (by omega); rw [hnm] at e; exact e) rfl ?_
    show am_wp d 161 (4, [some (.ref (b)), some (.int (w)), some (.long (y)), none, some (.int (c)), none], [.int ((-1))], A) _
    refine wp_st 3 (f' := (9, [some (.ref (b)), some (.int (w)), some (.long (y)), none, some (.int (c)), some (.int ((-1)))], [.int ((-1)), .ref (b)], A)) rfl ?_
    refine wp_izT rfl rfl (show (-1 : Int32) < Int32.ofNat 0 from by decide) ?_
    refine wp_st 2 (f' := (26, [some (.ref (b)), some (.int (w)), some (.long (y)), none, some (.int (c)), some (.int ((-1)))], [.int (Int32.ofNat 1), .ref (b)], A)) rfl ?_
    refine rw_pf (v := .int (Int32.ofNat 1)) h rfl rfl rfl rfl rfl rfl (fun A1 h2 f3 => ?_)
    have f4 := (sb_fr.refl A b (b + 38)).trans f3
    refine wp_st 1 (f' := (30, [some (.ref (b)), some (.int (w)), some (.long (y)), none, some (.int (c)), some (.int ((-1)))], [.ref (b)], A1)) rfl ?_
    refine rw_gf (v := .int (Int32.ofNat 1)) h2 rfl rfl rfl rfl (rfl) rfl ?_
    refine wp_izT rfl rfl (show (Int32.ofNat 1) ≠ (Int32.ofNat 0) from by decide) ?_
    refine wp_rt rfl rfl rfl ?_
    rw [if_pos (Or.inl hnm)]
    exact ⟨rfl, h2, f4⟩
  · skip
    obtain ⟨N9, hN9, hN9l, hN9p⟩ := rf_nm_nn hnm
    refine wp_cs (n := 0) (A' := A) (v := some (.int (Int32.ofNat N9))) rfl rfl rfl (by omega) (by have e := rn_nm (d := d - 1) (w := w) (A := A) (by omega); rw [hN9] at e; exact e) rfl ?_
    show am_wp d 161 (4, [some (.ref (b)), some (.int (w)), some (.long (y)), none, some (.int (c)), none], [.int (Int32.ofNat N9)], A) _
    refine wp_st 3 (f' := (9, [some (.ref (b)), some (.int (w)), some (.long (y)), none, some (.int (c)), some (.int (Int32.ofNat N9))], [.int (Int32.ofNat N9), .ref (b)], A)) rfl ?_
    refine wp_izF rfl rfl (Int32.ofNat_not_neg (by omega)) ?_
    refine wp_st 2 (f' := (15, [some (.ref (b)), some (.int (w)), some (.long (y)), none, some (.int (c)), some (.int (Int32.ofNat N9))], [.int (c), .long (y), .ref (b)], A)) rfl ?_
    refine wp_cs (n := 0) (A' := A) (v := some (.int (sb_i (sb_isn y c)))) rfl rfl rfl (by omega) (rn_isn) rfl ?_
    show am_wp d 161 (18, [some (.ref (b)), some (.int (w)), some (.long (y)), none, some (.int (c)), some (.int (Int32.ofNat N9))], [.int (sb_i (sb_isn y c)), .ref (b)], A) _
    by_cases b5 : (sb_isn y c) = true
    · skip
      refine wp_izT rfl rfl (show sb_i (sb_isn y c) ≠ 0 from by rw [b5]; decide) ?_
      refine wp_st 1 (f' := (26, [some (.ref (b)), some (.int (w)), some (.long (y)), none, some (.int (c)), some (.int (Int32.ofNat N9))], [.int (Int32.ofNat 0), .ref (b)], A)) rfl ?_
      refine rw_pf (v := .int (Int32.ofNat 0)) h rfl rfl rfl rfl rfl rfl (fun A6 h7 f8 => ?_)
      have f9 := (sb_fr.refl A b (b + 38)).trans f8
      refine wp_st 1 (f' := (30, [some (.ref (b)), some (.int (w)), some (.long (y)), none, some (.int (c)), some (.int (Int32.ofNat N9))], [.ref (b)], A6)) rfl ?_
      refine rw_gf (v := .int (Int32.ofNat 0)) h7 rfl rfl rfl rfl (rfl) rfl ?_
      refine wp_izF rfl rfl (show ¬ ((Int32.ofNat 0) ≠ (Int32.ofNat 0)) from by decide) ?_
      refine wp_st 5 (f' := (43, [some (.ref (b)), some (.int (w)), some (.long (y)), none, some (.int (c)), some (.int (Int32.ofNat N9))], [.int (c), .long (y), .int (Int32.ofNat 0), .int (Int32.ofNat N9), .ref (b)], A6)) rfl ?_
      obtain ⟨A10, g11, h12, f13⟩ := rn_put (d := d - 1) (x := Int32.ofNat N9) (z := false) (y := y) (c := c) (by omega) (show rf_vs (rf_u s 0 0 (.int (Int32.ofNat 0))) nv nf bf lf cf from hv) h7
      have f14 := f9.trans f13
      refine wp_cv (A' := A10) (v := none) rfl rfl rfl rfl rfl (show _ from h7.1) (by omega) (g11) rfl ?_
      show am_wp d 161 (46, [some (.ref (b)), some (.int (w)), some (.long (y)), none, some (.int (c)), some (.int (Int32.ofNat N9))], [], A10) _
      refine wp_rt rfl rfl rfl ?_
      rw [if_neg (fun e => e.elim hnm (fun e2 => by rw [b5] at e2; cases e2)), hN9]
      exact ⟨rfl, h12, f14⟩
    · skip
      have b5f : (sb_isn y c) = false := by simpa using b5
      refine wp_izF rfl rfl (show ¬ (sb_i (sb_isn y c) ≠ 0) from by rw [b5f]; decide) ?_
      refine wp_st 2 (f' := (26, [some (.ref (b)), some (.int (w)), some (.long (y)), none, some (.int (c)), some (.int (Int32.ofNat N9))], [.int (Int32.ofNat 1), .ref (b)], A)) rfl ?_
      refine rw_pf (v := .int (Int32.ofNat 1)) h rfl rfl rfl rfl rfl rfl (fun A15 h16 f17 => ?_)
      have f18 := (sb_fr.refl A b (b + 38)).trans f17
      refine wp_st 1 (f' := (30, [some (.ref (b)), some (.int (w)), some (.long (y)), none, some (.int (c)), some (.int (Int32.ofNat N9))], [.ref (b)], A15)) rfl ?_
      refine rw_gf (v := .int (Int32.ofNat 1)) h16 rfl rfl rfl rfl (rfl) rfl ?_
      refine wp_izT rfl rfl (show (Int32.ofNat 1) ≠ (Int32.ofNat 0) from by decide) ?_
      refine wp_rt rfl rfl rfl ?_
      rw [if_pos (Or.inr (by simpa using b5))]
      exact ⟨rfl, h16, f18⟩
theorem rn_wd_l {d b : Nat} {w x z3 : Int32} {A : am_H} {Q : am_O × am_H → Prop} (g0 : Bool) : ∀ (k : Nat) (g : Bool) (b6 : Option Value), k ≤ 4 → (∀ b6, am_wp d 165 (72, [some (.ref b), some (.int w), some (.int x), some (.int z3), some (.int (sb_i (g && sb_all 32 126 (sb_bl x k)))), some (.int (sb_sh 0)), b6], [], A) Q) → am_wp d 165 (20, [some (.ref b), some (.int w), some (.int x), some (.int z3), some (.int (sb_i (g))), some (.int (sb_sh k)), b6], [], A) Q := by
  intro k
  induction k with
  | zero =>
    intro g b6 hk kk
    have k9 := kk b6
    rw [show sb_all 32 126 (sb_bl x 0) = true from rfl, Bool.and_true] at k9
    refine wp_st 1 (f' := (22, [some (.ref (b)), some (.int (w)), some (.int (x)), some (.int (z3)), some (.int (sb_i g)), some (.int (sb_sh 0)), b6], [.int (sb_sh 0)], A)) rfl ?_
    refine wp_izT rfl rfl (sb_sh_z) ?_
    exact k9
  | succ k ih =>
    intro g b6 hk kk
    have hby := sb_by_lt x (8 * k)
    rw [sb_sh_s]
    refine wp_st 1 (f' := (22, [some (.ref (b)), some (.int (w)), some (.int (x)), some (.int (z3)), some (.int (sb_i g)), some (.int (Int32.ofNat (8 * k))), b6], [.int (Int32.ofNat (8 * k))], A)) rfl ?_
    refine wp_izF rfl rfl (Int32.ofNat_not_neg (by omega)) ?_
    refine wp_st 5 (f' := (33, [some (.ref (b)), some (.int (w)), some (.int (x)), some (.int (z3)), some (.int (sb_i g)), some (.int (Int32.ofNat (8 * k))), b6], [.int ((x >>> ((Int32.ofNat (8 * k)) &&& 31)) &&& (Int32.ofNat 255))], A)) rfl ?_
    rw [show x >>> (Int32.ofNat (8 * k) &&& 31) &&& Int32.ofNat 255 = Int32.ofNat (sb_by x (8 * k)) from sb_ssh (by omega)]
    refine wp_st 2 (f' := (37, [some (.ref (b)), some (.int (w)), some (.int (x)), some (.int (z3)), some (.int (sb_i g)), some (.int (Int32.ofNat (8 * k))), some (.int (Int32.ofNat (sb_by x (8 * k))))], [.int (sb_i g)], A)) rfl ?_
    by_cases b1 : g = true
    · skip
      refine wp_izF rfl rfl (show ¬ (sb_i g = 0) from by rw [b1]; decide) ?_
      refine wp_st 1 (f' := (42, [some (.ref (b)), some (.int (w)), some (.int (x)), some (.int (z3)), some (.int (sb_i g)), some (.int (Int32.ofNat (8 * k))), some (.int (Int32.ofNat (sb_by x (8 * k))))], [.int (Int32.ofNat (sb_by x (8 * k)))], A)) rfl ?_
      refine wp_iz rfl rfl rfl (fun (h2 : (Int32.ofNat (sb_by x (8 * k))) = (Int32.ofNat 0)) => ?_) (fun (h2 : ¬ ((Int32.ofNat (sb_by x (8 * k))) = (Int32.ofNat 0))) => ?_)
      · skip
        rw [i32_eq (by omega) (by omega)] at h2
        refine wp_st 5 (f' := (20, [some (.ref (b)), some (.int (w)), some (.int (x)), some (.int (z3)), some (.int (Int32.ofNat 1)), some (.int ((Int32.ofNat (8 * k)) + (-8))), some (.int (Int32.ofNat (sb_by x (8 * k))))], [], A)) rfl ?_
        rw [show Int32.ofNat (8 * k) + (-8) = sb_sh k from rfl]
        refine ih true _ (by omega) (fun b9 => ?_)
        have k9 := kk b9
        rw [b1, Bool.true_and] at k9
        rw [sb_bl_z h2] at k9
        rw [Bool.true_and]
        exact k9
      · skip
        rw [i32_eq (by omega) (by omega)] at h2
        refine wp_st 2 (f' := (49, [some (.ref (b)), some (.int (w)), some (.int (x)), some (.int (z3)), some (.int (sb_i g)), some (.int (Int32.ofNat (8 * k))), some (.int (Int32.ofNat (sb_by x (8 * k))))], [.int (Int32.ofNat 32), .int (Int32.ofNat (sb_by x (8 * k)))], A)) rfl ?_
        refine wp_if rfl rfl rfl (fun (h3 : (Int32.ofNat (sb_by x (8 * k))) < (Int32.ofNat 32)) => ?_) (fun (h3 : ¬ ((Int32.ofNat (sb_by x (8 * k))) < (Int32.ofNat 32))) => ?_)
        · skip
          rw [i32_lt (by omega) (by omega)] at h3
          refine wp_st 4 (f' := (20, [some (.ref (b)), some (.int (w)), some (.int (x)), some (.int (z3)), some (.int (Int32.ofNat 0)), some (.int ((Int32.ofNat (8 * k)) + (-8))), some (.int (Int32.ofNat (sb_by x (8 * k))))], [], A)) rfl ?_
          rw [show Int32.ofNat (8 * k) + (-8) = sb_sh k from rfl]
          refine ih false _ (by omega) (fun b9 => ?_)
          have k9 := kk b9
          rw [b1, Bool.true_and] at k9
          rw [sb_bl_s h2, sb_all_c, show (decide (32 ≤ sb_by x (8 * k)) && decide (sb_by x (8 * k) ≤ 126)) = false by simp; omega] at k9
          exact k9
        · skip
          rw [i32_lt (by omega) (by omega)] at h3
          refine wp_st 2 (f' := (56, [some (.ref (b)), some (.int (w)), some (.int (x)), some (.int (z3)), some (.int (sb_i g)), some (.int (Int32.ofNat (8 * k))), some (.int (Int32.ofNat (sb_by x (8 * k))))], [.int (Int32.ofNat 126), .int (Int32.ofNat (sb_by x (8 * k)))], A)) rfl ?_
          refine wp_if rfl rfl rfl (fun (h4 : (Int32.ofNat 126) < (Int32.ofNat (sb_by x (8 * k)))) => ?_) (fun (h4 : ¬ ((Int32.ofNat 126) < (Int32.ofNat (sb_by x (8 * k))))) => ?_)
          · skip
            rw [i32_lt (by omega) (by omega)] at h4
            refine wp_st 4 (f' := (20, [some (.ref (b)), some (.int (w)), some (.int (x)), some (.int (z3)), some (.int (Int32.ofNat 0)), some (.int ((Int32.ofNat (8 * k)) + (-8))), some (.int (Int32.ofNat (sb_by x (8 * k))))], [], A)) rfl ?_
            rw [show Int32.ofNat (8 * k) + (-8) = sb_sh k from rfl]
            refine ih false _ (by omega) (fun b9 => ?_)
            have k9 := kk b9
            rw [b1, Bool.true_and] at k9
            rw [sb_bl_s h2, sb_all_c, show (decide (32 ≤ sb_by x (8 * k)) && decide (sb_by x (8 * k) ≤ 126)) = false by simp; omega] at k9
            exact k9
          · skip
            rw [i32_lt (by omega) (by omega)] at h4
            refine wp_st 5 (f' := (20, [some (.ref (b)), some (.int (w)), some (.int (x)), some (.int (z3)), some (.int (Int32.ofNat 1)), some (.int ((Int32.ofNat (8 * k)) + (-8))), some (.int (Int32.ofNat (sb_by x (8 * k))))], [], A)) rfl ?_
            rw [show Int32.ofNat (8 * k) + (-8) = sb_sh k from rfl]
            refine ih true _ (by omega) (fun b9 => ?_)
            have k9 := kk b9
            rw [b1, Bool.true_and] at k9
            rw [sb_bl_s h2, sb_all_c, show (decide (32 ≤ sb_by x (8 * k)) && decide (sb_by x (8 * k) ≤ 126)) = true by simp; omega] at k9
            exact k9
    · skip
      have b1f : g = false := by simpa using b1
      refine wp_izT rfl rfl (show sb_i g = 0 from by rw [b1f]; decide) ?_
      refine wp_st 4 (f' := (20, [some (.ref (b)), some (.int (w)), some (.int (x)), some (.int (z3)), some (.int (Int32.ofNat 0)), some (.int ((Int32.ofNat (8 * k)) + (-8))), some (.int (Int32.ofNat (sb_by x (8 * k))))], [], A)) rfl ?_
      rw [show Int32.ofNat (8 * k) + (-8) = sb_sh k from rfl]
      refine ih false _ (by omega) (fun b9 => ?_)
      have k9 := kk b9
      rw [b1f, Bool.false_and] at k9
      rw [Bool.false_and]
      exact k9
theorem rn_word {d b nv : Nat} {nf cf : Nat → Int32} {bf : Nat → Bool} {lf : Nat → Int64} {s : rf_S} {A : am_H} {w x : Int32} (hd : 2 ≤ d) (hv : rf_vs s nv nf bf lf cf) (h : rf A b s) : rf_go d 165 [.ref b, .int w, .int x] A b none (if rf_nm w = -1 ∨ sb_all 32 126 (sb_bl x 4) = false then rf_u s 0 0 (.int (Int32.ofNat 1)) else rf_pt (rf_u s 0 0 (.int (Int32.ofNat 0))) nv (rf_fd nf (rf_nm w) nv 0) (rf_nm w) true x.toInt64 0) := by
  refine rf_of ?_
  refine wp_st 1 (f' := (1, [some (.ref (b)), some (.int (w)), some (.int (x)), none, none, none, none], [.int (w)], A)) rfl ?_
  by_cases hnm : rf_nm w = -1
  · skip
    refine wp_cs (n := 0) (A' := A) (v := some (.int ((-1)))) rfl rfl rfl (by omega) (by have e := rn_nm (d := d - 1) (w := w) (A := A) (by omega); rw [hnm] at e; exact e) rfl ?_
    show am_wp d 165 (4, [some (.ref (b)), some (.int (w)), some (.int (x)), none, none, none, none], [.int ((-1))], A) _
    refine wp_st 2 (f' := (6, [some (.ref (b)), some (.int (w)), some (.int (x)), some (.int ((-1))), none, none, none], [.int ((-1))], A)) rfl ?_
    refine wp_izT rfl rfl (show (-1 : Int32) < Int32.ofNat 0 from by decide) ?_
    refine wp_st 4 (f' := (20, [some (.ref (b)), some (.int (w)), some (.int (x)), some (.int ((-1))), some (.int (Int32.ofNat 0)), some (.int (Int32.ofNat 24)), none], [], A)) rfl ?_
    refine rn_wd_l true 4 false none (by omega) (fun b9 => ?_)
    rw [Bool.false_and]
    refine wp_st 2 (f' := (75, [some (.ref (b)), some (.int (w)), some (.int (x)), some (.int ((-1))), some (.int (Int32.ofNat 0)), some (.int (sb_sh 0)), b9], [.int (Int32.ofNat 0), .ref (b)], A)) rfl ?_
    refine wp_izT rfl rfl (show (Int32.ofNat 0) = (Int32.ofNat 0) from by decide) ?_
    refine wp_st 1 (f' := (83, [some (.ref (b)), some (.int (w)), some (.int (x)), some (.int ((-1))), some (.int (Int32.ofNat 0)), some (.int (sb_sh 0)), b9], [.int (Int32.ofNat 1), .ref (b)], A)) rfl ?_
    refine rw_pf (v := .int (Int32.ofNat 1)) h rfl rfl rfl rfl rfl rfl (fun A1 h2 f3 => ?_)
    have f4 := (sb_fr.refl A b (b + 38)).trans f3
    refine wp_st 1 (f' := (88, [some (.ref (b)), some (.int (w)), some (.int (x)), some (.int ((-1))), some (.int (Int32.ofNat 0)), some (.int (sb_sh 0)), b9], [.int (Int32.ofNat 0)], A1)) rfl ?_
    refine wp_izT rfl rfl (show (Int32.ofNat 0) = (Int32.ofNat 0) from by decide) ?_
    refine wp_rt rfl rfl rfl ?_
    rw [if_pos (Or.inl hnm)]
    exact ⟨rfl, h2, f4⟩
  · skip
    obtain ⟨N9, hN9, hN9l, hN9p⟩ := rf_nm_nn hnm
    refine wp_cs (n := 0) (A' := A) (v := some (.int (Int32.ofNat N9))) rfl rfl rfl (by omega) (by have e := rn_nm (d := d - 1) (w := w) (A := A) (by omega); rw [hN9] at e; exact e) rfl ?_
    show am_wp d 165 (4, [some (.ref (b)), some (.int (w)), some (.int (x)), none, none, none, none], [.int (Int32.ofNat N9)], A) _
    refine wp_st 2 (f' := (6, [some (.ref (b)), some (.int (w)), some (.int (x)), some (.int (Int32.ofNat N9)), none, none, none], [.int (Int32.ofNat N9)], A)) rfl ?_
    refine wp_izF rfl rfl (Int32.ofNat_not_neg (by omega)) ?_
    refine wp_st 5 (f' := (20, [some (.ref (b)), some (.int (w)), some (.int (x)), some (.int (Int32.ofNat N9)), some (.int (Int32.ofNat 1)), some (.int (Int32.ofNat 24)), none], [], A)) rfl ?_
    refine rn_wd_l true 4 true none (by omega) (fun b9 => ?_)
    rw [Bool.true_and]
    refine wp_st 2 (f' := (75, [some (.ref (b)), some (.int (w)), some (.int (x)), some (.int (Int32.ofNat N9)), some (.int (sb_i (sb_all 32 126 (sb_bl x 4)))), some (.int (sb_sh 0)), b9], [.int (sb_i (sb_all 32 126 (sb_bl x 4))), .ref (b)], A)) rfl ?_
    by_cases b5 : (sb_all 32 126 (sb_bl x 4)) = true
    · skip
      refine wp_izF rfl rfl (show ¬ (sb_i (sb_all 32 126 (sb_bl x 4)) = 0) from by rw [b5]; decide) ?_
      refine wp_st 2 (f' := (83, [some (.ref (b)), some (.int (w)), some (.int (x)), some (.int (Int32.ofNat N9)), some (.int (sb_i (sb_all 32 126 (sb_bl x 4)))), some (.int (sb_sh 0)), b9], [.int (Int32.ofNat 0), .ref (b)], A)) rfl ?_
      refine rw_pf (v := .int (Int32.ofNat 0)) h rfl rfl rfl rfl rfl rfl (fun A6 h7 f8 => ?_)
      have f9 := (sb_fr.refl A b (b + 38)).trans f8
      refine wp_st 1 (f' := (88, [some (.ref (b)), some (.int (w)), some (.int (x)), some (.int (Int32.ofNat N9)), some (.int (sb_i (sb_all 32 126 (sb_bl x 4)))), some (.int (sb_sh 0)), b9], [.int (sb_i (sb_all 32 126 (sb_bl x 4)))], A6)) rfl ?_
      refine wp_izF rfl rfl (show ¬ (sb_i (sb_all 32 126 (sb_bl x 4)) = 0) from by rw [b5]; decide) ?_
      refine wp_st 6 (f' := (97, [some (.ref (b)), some (.int (w)), some (.int (x)), some (.int (Int32.ofNat N9)), some (.int (sb_i (sb_all 32 126 (sb_bl x 4)))), some (.int (sb_sh 0)), b9], [.int (Int32.ofNat 0), .long (x.toInt64), .int (Int32.ofNat 1), .int (Int32.ofNat N9), .ref (b)], A6)) rfl ?_
      obtain ⟨A10, g11, h12, f13⟩ := rn_put (d := d - 1) (x := Int32.ofNat N9) (z := true) (y := x.toInt64) (c := 0) (by omega) (show rf_vs (rf_u s 0 0 (.int (Int32.ofNat 0))) nv nf bf lf cf from hv) h7
      have f14 := f9.trans f13
      refine wp_cv (A' := A10) (v := none) rfl rfl rfl rfl rfl (show _ from h7.1) (by omega) (g11) rfl ?_
      show am_wp d 165 (100, [some (.ref (b)), some (.int (w)), some (.int (x)), some (.int (Int32.ofNat N9)), some (.int (sb_i (sb_all 32 126 (sb_bl x 4)))), some (.int (sb_sh 0)), b9], [], A10) _
      refine wp_rt rfl rfl rfl ?_
      rw [if_neg (fun e => e.elim hnm (fun e2 => by rw [b5] at e2; cases e2)), hN9]
      exact ⟨rfl, h12, f14⟩
    · skip
      have b5f : (sb_all 32 126 (sb_bl x 4)) = false := by simpa using b5
      refine wp_izT rfl rfl (show sb_i (sb_all 32 126 (sb_bl x 4)) = 0 from by rw [b5f]; decide) ?_
      refine wp_st 1 (f' := (83, [some (.ref (b)), some (.int (w)), some (.int (x)), some (.int (Int32.ofNat N9)), some (.int (sb_i (sb_all 32 126 (sb_bl x 4)))), some (.int (sb_sh 0)), b9], [.int (Int32.ofNat 1), .ref (b)], A)) rfl ?_
      refine rw_pf (v := .int (Int32.ofNat 1)) h rfl rfl rfl rfl rfl rfl (fun A15 h16 f17 => ?_)
      have f18 := (sb_fr.refl A b (b + 38)).trans f17
      refine wp_st 1 (f' := (88, [some (.ref (b)), some (.int (w)), some (.int (x)), some (.int (Int32.ofNat N9)), some (.int (sb_i (sb_all 32 126 (sb_bl x 4)))), some (.int (sb_sh 0)), b9], [.int (sb_i (sb_all 32 126 (sb_bl x 4)))], A15)) rfl ?_
      refine wp_izT rfl rfl (show sb_i (sb_all 32 126 (sb_bl x 4)) = 0 from by rw [b5f]; decide) ?_
      refine wp_rt rfl rfl rfl ?_
      rw [if_pos (Or.inr (by simpa using b5))]
      exact ⟨rfl, h16, f18⟩
theorem rn_dr_l {d b nv k : Nat} {nf cf : Nat → Int32} {bf : Nat → Bool} {lf : Nat → Int64} {x : Int32} (hn6 : nv ≤ 6) (hk : k < nv) : ∀ (q j : Nat) (s : rf_S) (A : am_H), nv - 1 - j = q → k ≤ j → j ≤ nv - 1 → rf_vs s (nv - 1) (rf_sh nf k j) (rf_sh bf k j) (rf_sh lf k j) (rf_sh cf k j) → rf A b s → am_wp d 166 (32, [some (.ref b), some (.int x), some (.int (Int32.ofNat k)), some (.int (Int32.ofNat j))], [], A) (fun z => z.1 = .inl (some (.int (Int32.ofNat 1))) ∧ ∃ t, rf z.2 b t ∧ rf_vs t (nv - 1) (rf_sh nf k (nv - 1)) (rf_sh bf k (nv - 1)) (rf_sh lf k (nv - 1)) (rf_sh cf k (nv - 1)) ∧ rf_vk s t ∧ t 0 0 = s 0 0 ∧ sb_fr A z.2 b (b + 38)) := by
  intro q
  induction q with
  | zero =>
    intro j s A hq1 hq2 hq3 hv h
    obtain rfl : j = nv - 1 := by omega
    refine wp_st 2 (f' := (34, [some (.ref (b)), some (.int (x)), some (.int (Int32.ofNat k)), some (.int (Int32.ofNat (nv - 1)))], [.ref (b), .int (Int32.ofNat (nv - 1))], A)) rfl ?_
    refine rw_gf (v := .int (Int32.ofNat (nv - 1))) h rfl rfl rfl rfl (hv.1) rfl ?_
    refine wp_ifT rfl rfl ((i32_le (a := nv - 1) (b := nv - 1) (by omega) (by omega)).mpr (by omega)) ?_
    refine wp_st 1 (f' := (103, [some (.ref (b)), some (.int (x)), some (.int (Int32.ofNat k)), some (.int (Int32.ofNat (nv - 1)))], [.int (Int32.ofNat 1)], A)) rfl ?_
    refine wp_rt rfl rfl rfl ?_
    exact ⟨rfl, s, h, hv, rf_vk.refl s, rfl, sb_fr.refl A b (b + 38)⟩
  | succ q ih =>
    intro j s A hq1 hq2 hq3 hv h
    obtain ⟨v1, v2, v3, v4⟩ := hv.2.2 (j + 1) (by omega)
    refine wp_st 2 (f' := (34, [some (.ref (b)), some (.int (x)), some (.int (Int32.ofNat k)), some (.int (Int32.ofNat j))], [.ref (b), .int (Int32.ofNat j)], A)) rfl ?_
    refine rw_gf (v := .int (Int32.ofNat (nv - 1))) h rfl rfl rfl rfl (hv.1) rfl ?_
    refine wp_ifF rfl rfl (fun q => absurd ((i32_le (a := nv - 1) (b := j) (by omega) (by omega)).mp q) (by omega)) ?_
    refine wp_st 1 (f' := (41, [some (.ref (b)), some (.int (x)), some (.int (Int32.ofNat k)), some (.int (Int32.ofNat j))], [.ref (b)], A)) rfl ?_
    refine rw_gr h rfl rfl rfl rfl rfl rfl ?_
    refine wp_st 2 (f' := (46, [some (.ref (b)), some (.int (x)), some (.int (Int32.ofNat k)), some (.int (Int32.ofNat j))], [.ref (b), .int (Int32.ofNat j), .ref (b + 29)], A)) rfl ?_
    refine rw_gr h rfl rfl rfl rfl rfl rfl ?_
    refine wp_st 3 (f' := (52, [some (.ref (b)), some (.int (x)), some (.int (Int32.ofNat k)), some (.int (Int32.ofNat j))], [.int ((Int32.ofNat j) + (Int32.ofNat 1)), .ref (b + 29), .int (Int32.ofNat j), .ref (b + 29)], A)) rfl ?_
    rw [i32_add (j) (1)]
    refine rw_al (j := 43) (n := j + 1) (v := .int (rf_sh nf k j (j + 1))) h rfl rfl rfl (Or.inl ⟨rfl, rfl⟩) rfl (show _ < 6 from by omega) (v1) rfl ?_
    refine rw_as (j := 43) (n := j) (v := .int (rf_sh nf k j (j + 1))) h rfl rfl rfl (Or.inl ⟨rfl, rfl, rfl⟩) (show _ < 6 from by omega) rfl rfl (fun A1 h2 f3 => ?_)
    have f4 := (sb_fr.refl A b (b + 38)).trans f3
    refine wp_st 1 (f' := (55, [some (.ref (b)), some (.int (x)), some (.int (Int32.ofNat k)), some (.int (Int32.ofNat j))], [.ref (b)], A1)) rfl ?_
    refine rw_gr h2 rfl rfl rfl rfl rfl rfl ?_
    refine wp_st 2 (f' := (60, [some (.ref (b)), some (.int (x)), some (.int (Int32.ofNat k)), some (.int (Int32.ofNat j))], [.ref (b), .int (Int32.ofNat j), .ref (b + 30)], A1)) rfl ?_
    refine rw_gr h2 rfl rfl rfl rfl rfl rfl ?_
    refine wp_st 3 (f' := (66, [some (.ref (b)), some (.int (x)), some (.int (Int32.ofNat k)), some (.int (Int32.ofNat j))], [.int ((Int32.ofNat j) + (Int32.ofNat 1)), .ref (b + 30), .int (Int32.ofNat j), .ref (b + 30)], A1)) rfl ?_
    rw [i32_add (j) (1)]
    refine rw_al (j := 44) (n := j + 1) (v := .int (sb_i (rf_sh bf k j (j + 1)))) h2 rfl rfl rfl (Or.inr (Or.inr (Or.inr (Or.inl ⟨rfl, rfl⟩)))) rfl (show _ < 6 from by omega) (v2) rfl ?_
    refine rw_as (j := 44) (n := j) (v := .int (sb_i (rf_sh bf k j (j + 1)))) h2 rfl rfl rfl (Or.inr (Or.inr ⟨rfl, rfl, rfl⟩)) (show _ < 6 from by omega) (sb_narrow_z _) rfl (fun A5 h6 f7 => ?_)
    have f8 := f4.trans f7
    refine wp_st 1 (f' := (69, [some (.ref (b)), some (.int (x)), some (.int (Int32.ofNat k)), some (.int (Int32.ofNat j))], [.ref (b)], A5)) rfl ?_
    refine rw_gr h6 rfl rfl rfl rfl rfl rfl ?_
    refine wp_st 2 (f' := (74, [some (.ref (b)), some (.int (x)), some (.int (Int32.ofNat k)), some (.int (Int32.ofNat j))], [.ref (b), .int (Int32.ofNat j), .ref (b + 31)], A5)) rfl ?_
    refine rw_gr h6 rfl rfl rfl rfl rfl rfl ?_
    refine wp_st 3 (f' := (80, [some (.ref (b)), some (.int (x)), some (.int (Int32.ofNat k)), some (.int (Int32.ofNat j))], [.int ((Int32.ofNat j) + (Int32.ofNat 1)), .ref (b + 31), .int (Int32.ofNat j), .ref (b + 31)], A5)) rfl ?_
    rw [i32_add (j) (1)]
    refine rw_al (j := 45) (n := j + 1) (v := .long (rf_sh lf k j (j + 1))) h6 rfl rfl rfl (Or.inr (Or.inl ⟨rfl, rfl⟩)) rfl (show _ < 6 from by omega) (v3) rfl ?_
    refine rw_ls (j := 45) (n := j) h6 rfl rfl rfl rfl (show _ < 6 from by omega) rfl (fun A9 h10 f11 => ?_)
    have f12 := f8.trans f11
    refine wp_st 1 (f' := (83, [some (.ref (b)), some (.int (x)), some (.int (Int32.ofNat k)), some (.int (Int32.ofNat j))], [.ref (b)], A9)) rfl ?_
    refine rw_gr h10 rfl rfl rfl rfl rfl rfl ?_
    refine wp_st 2 (f' := (88, [some (.ref (b)), some (.int (x)), some (.int (Int32.ofNat k)), some (.int (Int32.ofNat j))], [.ref (b), .int (Int32.ofNat j), .ref (b + 32)], A9)) rfl ?_
    refine rw_gr h10 rfl rfl rfl rfl rfl rfl ?_
    refine wp_st 3 (f' := (94, [some (.ref (b)), some (.int (x)), some (.int (Int32.ofNat k)), some (.int (Int32.ofNat j))], [.int ((Int32.ofNat j) + (Int32.ofNat 1)), .ref (b + 32), .int (Int32.ofNat j), .ref (b + 32)], A9)) rfl ?_
    rw [i32_add (j) (1)]
    refine rw_al (j := 46) (n := j + 1) (v := .int (rf_sh cf k j (j + 1))) h10 rfl rfl rfl (Or.inl ⟨rfl, rfl⟩) rfl (show _ < 6 from by omega) (v4) rfl ?_
    refine rw_as (j := 46) (n := j) (v := .int (rf_sh cf k j (j + 1))) h10 rfl rfl rfl (Or.inl ⟨rfl, rfl, rfl⟩) (show _ < 6 from by omega) rfl rfl (fun A13 h14 f15 => ?_)
    have f16 := f12.trans f15
    refine wp_st 1 (f' := (99, [some (.ref (b)), some (.int (x)), some (.int (Int32.ofNat k)), some (.int ((Int32.ofNat j) + (Int32.ofNat 1)))], [], A13)) rfl ?_
    rw [i32_add (j) (1)]
    refine wp_st 1 (f' := (32, [some (.ref (b)), some (.int (x)), some (.int (Int32.ofNat k)), some (.int (Int32.ofNat (j + 1)))], [], A13)) rfl ?_
    have hset := rf_vs.set (k := j) (nv' := nv - 1) (x := rf_sh nf k j (j + 1)) (c := rf_sh cf k j (j + 1)) (b := rf_sh bf k j (j + 1)) (y := rf_sh lf k j (j + 1)) hv hv.1 (by omega) (fun _ _ _ _ => rfl)
    rw [rf_sh_s hq2, rf_sh_s hq2, rf_sh_s hq2, rf_sh_s hq2] at hset
    obtain ⟨z, z1, z2, t, z3, z4, z5, z6, z7⟩ := ih (j + 1) _ _ (by omega) (by omega) (by omega) hset h14
    exact ⟨z, z1, z2, t, z3, z4, (rf_vk.pv (rf_vk.refl s)).trans z5, z6, f16.trans z7⟩
theorem rn_drop {d b nv : Nat} {nf cf : Nat → Int32} {bf : Nat → Bool} {lf : Nat → Int64} {s : rf_S} {A : am_H} {w : Int32} (hd : 2 ≤ d) (hv : rf_vs s nv nf bf lf cf) (h : rf A b s) : am_wp d 166 (0, am_ent 166 [.ref b, .int w], [], A) (fun z => ∃ ok : Bool, z.1 = .inl (some (.int (sb_i ok))) ∧ ((ok = false ∧ rf_fd nf (rf_nm w) nv 0 = none ∧ rf z.2 b (rf_u s 0 0 (.int (Int32.ofNat 0))) ∧ sb_fr A z.2 b (b + 38)) ∨ (ok = true ∧ ∃ k, rf_fd nf (rf_nm w) nv 0 = some k ∧ ∃ t, rf z.2 b t ∧ rf_vs t (nv - 1) (rf_sh nf k (nv - 1)) (rf_sh bf k (nv - 1)) (rf_sh lf k (nv - 1)) (rf_sh cf k (nv - 1)) ∧ rf_vk s t ∧ t 0 0 = .int (Int32.ofNat 0) ∧ sb_fr A z.2 b (b + 38)))) := by
  have hn6 := hv.2.1
  refine wp_st 2 (f' := (2, [some (.ref (b)), some (.int (w)), none, none], [.int (Int32.ofNat 0), .ref (b)], A)) rfl ?_
  refine rw_pf (v := .int (Int32.ofNat 0)) h rfl rfl rfl rfl rfl rfl (fun A1 h2 f3 => ?_)
  have f4 := (sb_fr.refl A b (b + 38)).trans f3
  refine wp_st 2 (f' := (7, [some (.ref (b)), some (.int (w)), none, none], [.int (w), .ref (b)], A1)) rfl ?_
  refine wp_cs (n := 0) (A' := A1) (v := some (.int (rf_nm w))) rfl rfl rfl (by omega) (rn_nm (by omega)) rfl ?_
  show am_wp d 166 (10, [some (.ref (b)), some (.int (w)), none, none], [.int (rf_nm w), .ref (b)], A1) _
  rcases hfd : rf_fd nf (rf_nm w) nv 0 with _ | k
  · skip
    refine wp_cv (A' := A1) (v := some (.int ((-1)))) rfl rfl rfl rfl rfl (show _ from h2.1) (by omega) (by have e := rn_fd (d := d - 1) (x := rf_nm w) (show rf_vs (rf_u s 0 0 (.int (Int32.ofNat 0))) nv nf bf lf cf from hv) h2; rw [hfd] at e; exact e) rfl ?_
    show am_wp d 166 (13, [some (.ref (b)), some (.int (w)), none, none], [.int ((-1))], A1) _
    refine wp_st 2 (f' := (15, [some (.ref (b)), some (.int (w)), some (.int ((-1))), none], [.int ((-1))], A1)) rfl ?_
    refine wp_izF rfl rfl (show ¬ (Int32.ofNat 0 ≤ (-1 : Int32)) from by decide) ?_
    refine wp_st 1 (f' := (19, [some (.ref (b)), some (.int (w)), some (.int ((-1))), none], [.int (Int32.ofNat 0)], A1)) rfl ?_
    refine wp_rt rfl rfl rfl ?_
    exact ⟨false, rfl, Or.inl ⟨rfl, rfl, h2, f4⟩⟩
  · skip
    have hfl := rf_fd_lt hfd
    refine wp_cv (A' := A1) (v := some (.int (Int32.ofNat k))) rfl rfl rfl rfl rfl (show _ from h2.1) (by omega) (by have e := rn_fd (d := d - 1) (x := rf_nm w) (show rf_vs (rf_u s 0 0 (.int (Int32.ofNat 0))) nv nf bf lf cf from hv) h2; rw [hfd] at e; exact e) rfl ?_
    show am_wp d 166 (13, [some (.ref (b)), some (.int (w)), none, none], [.int (Int32.ofNat k)], A1) _
    refine wp_st 2 (f' := (15, [some (.ref (b)), some (.int (w)), some (.int (Int32.ofNat k)), none], [.int (Int32.ofNat k)], A1)) rfl ?_
    refine wp_izT rfl rfl ((i32_le (a := 0) (b := k) (by omega) (by omega)).mpr (by omega)) ?_
    refine wp_st 2 (f' := (22, [some (.ref (b)), some (.int (w)), some (.int (Int32.ofNat k)), none], [.ref (b), .ref (b)], A1)) rfl ?_
    refine rw_gf (v := .int (Int32.ofNat nv)) h2 rfl rfl rfl rfl (hv.1) rfl ?_
    refine wp_st 2 (f' := (27, [some (.ref (b)), some (.int (w)), some (.int (Int32.ofNat k)), none], [.int ((Int32.ofNat nv) - (Int32.ofNat 1)), .ref (b)], A1)) rfl ?_
    rw [i32_sub (a := nv) (b := 1) (by omega)]
    refine rw_pf (v := .int (Int32.ofNat (nv - 1))) h2 rfl rfl rfl rfl rfl rfl (fun A5 h6 f7 => ?_)
    have f8 := f4.trans f7
    refine wp_st 2 (f' := (32, [some (.ref (b)), some (.int (w)), some (.int (Int32.ofNat k)), some (.int (Int32.ofNat k))], [], A5)) rfl ?_
    have hv2 : rf_vs (rf_u (rf_u s 0 0 (.int (Int32.ofNat 0))) 42 0 (.int (Int32.ofNat (nv - 1)))) (nv - 1) (rf_sh nf k k) (rf_sh bf k k) (rf_sh lf k k) (rf_sh cf k k) := by rw [rf_sh_0, rf_sh_0, rf_sh_0, rf_sh_0]; exact ⟨rfl, by omega, hv.2.2⟩
    obtain ⟨z, z1, z2, t, z3, z4, z5, z6, z7⟩ := rn_dr_l (x := w) (by omega) (by omega) _ k _ _ rfl (by omega) (by omega) hv2 h6
    exact ⟨z, z1, true, z2, Or.inr ⟨rfl, k, rfl, t, z3, z4, ((rf_vk.refl s).u (by unfold rf_vj; omega)).u (by unfold rf_vj; omega) |>.trans z5, z6, f8.trans z7⟩⟩
