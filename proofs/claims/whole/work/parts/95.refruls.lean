/-! The reference: rules. -/
theorem rq_rul_l {d b n : Nat} {o : Bool} {cs : List Nat} (hd : 5 ≤ d) (hc128 : ∀ j, cs.getD j 0 < 128) : ∀ (k p g : Nat) (r : Int64) (S : rg) (s : rf_S) (A : am_H), n < p + 2 * k → p ≤ n → 3 * rg_R S ≤ p → 2 * rg_G S ≤ p → rf_tx s cs n → rs_S s S → s 0 0 = .int (Int32.ofNat 0) → rf A b (rf_c s p (-1) r g) → am_wp d 148 (69, [some (.ref b), some (.int (sb_i o)), some (.int (Int32.ofNat 1))], [], A) (rq_V A b s (if o = true then 1 else 0) (ru_loop cs n k p S)) := by
  intro k
  induction k with
  | zero =>
    intro p g r S s A h1 h2
    omega
  | succ k ih =>
    intro p g r S s A hk hp hR hG hx hs h00 h
    have hn1 := hx.2.2.1
    have hlk : ∀ k, sb_lk cs n k < 128 := by
      intro k
      unfold sb_lk
      split
      · have := hx.2.2.2 k (by omega)
        omega
      · omega
    refine wp_st 1 (f' := (70, [some (.ref (b)), some (.int (sb_i o)), some (.int (Int32.ofNat 1))], [.int (Int32.ofNat 1)], A)) rfl ?_
    refine wp_izF rfl rfl (show ¬ ((Int32.ofNat 1) = (Int32.ofNat 0)) from by decide) ?_
    refine wp_st 1 (f' := (74, [some (.ref (b)), some (.int (sb_i o)), some (.int (Int32.ofNat 1))], [.ref (b)], A)) rfl ?_
    refine rw_gf (v := .int ((-1))) h rfl rfl rfl rfl (rfl) rfl ?_
    refine wp_izF rfl rfl (show ¬ ((Int32.ofNat 0) ≤ (-1 : Int32)) from by decide) ?_
    refine wp_st 1 (f' := (81, [some (.ref (b)), some (.int (sb_i o)), some (.int (Int32.ofNat 1))], [.ref (b)], A)) rfl ?_
    obtain ⟨⟨o9, A9⟩, g9, q9⟩ := rq_rule (d := d - 1) (p := p) (S := S) (by omega) (by omega) (by omega) (by omega) hc128 (show rf_tx (s) cs n from hx) hs h
    rcases hrl : ru_rule cs n p S with e9 | ⟨a9, S9⟩
    · skip
      rw [hrl] at q9
      obtain ⟨q0, t9, p9, r9, g0, q1, q3, q4, q5⟩ := q9
      dsimp only at q0
      subst q0
      have hx9 := q4.tx (show rf_tx (s) cs n from hx)
      have her := ru_rule_er (by omega) hrl
      have hF9 := (sb_fr.refl A b (b + 38)).trans q5
      refine wp_cv (A' := A9) (v := none) rfl rfl rfl rfl rfl (show _ from h.1) (by omega) (g9) rfl ?_
      show am_wp d 148 (84, [some (.ref (b)), some (.int (sb_i o)), some (.int (Int32.ofNat 1))], [], A9) _
      refine wp_st 2 (f' := (86, [some (.ref (b)), some (.int (sb_i o)), some (.int (Int32.ofNat 1))], [.ref (b), .ref (b)], A9)) rfl ?_
      refine rw_gf (v := .int (Int32.ofNat p9)) q1 rfl rfl rfl rfl (rfl) rfl ?_
      have l1 := hlk (p9)
      refine wp_cv (A' := A9) (v := some (.int (Int32.ofNat (sb_lk cs n p9)))) rfl rfl rfl rfl rfl (show _ from q1.1) (by omega) (rr_look (by omega) (show rf_tx (t9) cs n from hx9) q1) rfl ?_
      show am_wp d 148 (92, [some (.ref (b)), some (.int (sb_i o)), some (.int (Int32.ofNat 1))], [.int (Int32.ofNat (sb_lk cs n p9))], A9) _
      refine wp_st 1 (f' := (94, [some (.ref (b)), some (.int (sb_i o)), some (.int (Int32.ofNat 1))], [.int (Int32.ofNat 59), .int (Int32.ofNat (sb_lk cs n p9))], A9)) rfl ?_
      refine wp_if rfl rfl rfl (fun (h2 : (Int32.ofNat (sb_lk cs n p9)) ≠ (Int32.ofNat 59)) => ?_) (fun (h2 : ¬ ((Int32.ofNat (sb_lk cs n p9)) ≠ (Int32.ofNat 59))) => ?_)
      · skip
        rw [ne_eq, i32_eq (by omega) (by omega)] at h2
        refine wp_st 3 (f' := (104, [some (.ref (b)), some (.int (sb_i o)), some (.int (Int32.ofNat 0))], [.int (Int32.ofNat 0)], A9)) rfl ?_
        refine wp_izF rfl rfl (show ¬ ((Int32.ofNat 0) ≠ (Int32.ofNat 0)) from by decide) ?_
        refine wp_st 1 (f' := (108, [some (.ref (b)), some (.int (sb_i o)), some (.int (Int32.ofNat 0))], [.ref (b)], A9)) rfl ?_
        refine rw_gf (v := .int (Int32.ofNat p9)) q1 rfl rfl rfl rfl (rfl) rfl ?_
        refine wp_st 1 (f' := (112, [some (.ref (b)), some (.int (sb_i o)), some (.int (Int32.ofNat 0))], [.ref (b), .int (Int32.ofNat p9)], A9)) rfl ?_
        refine rw_gf (v := .int (Int32.ofNat n)) q1 rfl rfl rfl rfl (hx9.1) rfl ?_
        refine wp_if rfl rfl rfl (fun (h3 : (Int32.ofNat n) ≤ (Int32.ofNat p9)) => ?_) (fun (h3 : ¬ ((Int32.ofNat n) ≤ (Int32.ofNat p9))) => ?_)
        · skip
          rw [i32_le (by omega) (by omega)] at h3
          refine wp_st 2 (f' := (128, [some (.ref (b)), some (.int (sb_i o)), some (.int (Int32.ofNat 0))], [.ref (b), .ref (b)], A9)) rfl ?_
          refine rw_gf (v := .int (Int32.ofNat p9)) q1 rfl rfl rfl rfl (rfl) rfl ?_
          refine wp_st 2 (f' := (133, [some (.ref (b)), some (.int (sb_i o)), some (.int (Int32.ofNat 0))], [.int ((Int32.ofNat p9) + (Int32.ofNat 1)), .ref (b)], A9)) rfl ?_
          rw [i32_add (p9) (1)]
          refine rw_pf (v := .int (Int32.ofNat (p9 + 1))) q1 rfl rfl rfl rfl rfl rfl (fun A4 h5 f6 => ?_)
          have f7 := hF9.trans f6
          rw [rf_c17] at h5
          refine wp_st 1 (f' := (69, [some (.ref (b)), some (.int (sb_i o)), some (.int (Int32.ofNat 0))], [], A4)) rfl ?_
          refine wp_st 1 (f' := (70, [some (.ref (b)), some (.int (sb_i o)), some (.int (Int32.ofNat 0))], [.int (Int32.ofNat 0)], A4)) rfl ?_
          refine wp_izT rfl rfl (show (Int32.ofNat 0) = (Int32.ofNat 0) from by decide) ?_
          refine wp_st 2 (f' := (141, [some (.ref (b)), some (.int (sb_i o)), some (.int (Int32.ofNat 0))], [.ref (b), .ref (b)], A4)) rfl ?_
          refine rw_gf (v := .int (Int32.ofNat e9)) h5 rfl rfl rfl rfl (rfl) rfl ?_
          refine rw_pf (v := .int (Int32.ofNat e9)) h5 rfl rfl rfl rfl rfl rfl (fun A8 h9 f10 => ?_)
          have f11 := f7.trans f10
          rw [rf_c_u (by decide)] at h9
          refine wp_st 1 (f' := (148, [some (.ref (b)), some (.int (sb_i o)), some (.int (Int32.ofNat 0))], [.ref (b)], A8)) rfl ?_
          refine rw_gf (v := .int (Int32.ofNat e9)) h9 rfl rfl rfl rfl (rfl) rfl ?_
          refine wp_izF rfl rfl (show ¬ ((Int32.ofNat e9) < Int32.ofNat 0) from Int32.ofNat_not_neg (by omega)) ?_
          refine wp_st 2 (f' := (156, [some (.ref (b)), some (.int (sb_i o)), some (.int (Int32.ofNat 0))], [.int (Int32.ofNat 1), .ref (b)], A8)) rfl ?_
          refine rw_pf (v := .int (Int32.ofNat 1)) h9 rfl rfl rfl rfl rfl rfl (fun A12 h13 f14 => ?_)
          have f15 := f11.trans f14
          rw [rf_c_u (by decide)] at h13
          refine wp_rt rfl rfl rfl ?_
          have hres : ru_loop cs n (k + 1) p S = .error e9 := by rw [ru_loop, hrl]
          rw [hres]
          exact rq_V_er h13 q4 f15
        · skip
          rw [i32_le (by omega) (by omega)] at h3
          refine wp_st 2 (f' := (120, [some (.ref (b)), some (.int (sb_i o)), some (.int (Int32.ofNat 0))], [.ref (b), .ref (b)], A9)) rfl ?_
          refine rw_gf (v := .int (Int32.ofNat p9)) q1 rfl rfl rfl rfl (rfl) rfl ?_
          obtain ⟨A16, g17, h18, f19⟩ := (show rf_go _ _ _ _ _ _ (rf_c t9 p9 (Int32.ofNat e9) r9 g0) from by have e := rr_fail (d := d - 1) (x := p9) q1; rw [rf_w_n (by omega)] at e; exact e)
          have f20 := hF9.trans f19
          refine wp_cv (A' := A16) (v := none) rfl rfl rfl rfl rfl (show _ from q1.1) (by omega) (g17) rfl ?_
          show am_wp d 148 (126, [some (.ref (b)), some (.int (sb_i o)), some (.int (Int32.ofNat 0))], [], A16) _
          refine wp_st 2 (f' := (128, [some (.ref (b)), some (.int (sb_i o)), some (.int (Int32.ofNat 0))], [.ref (b), .ref (b)], A16)) rfl ?_
          refine rw_gf (v := .int (Int32.ofNat p9)) h18 rfl rfl rfl rfl (rfl) rfl ?_
          refine wp_st 2 (f' := (133, [some (.ref (b)), some (.int (sb_i o)), some (.int (Int32.ofNat 0))], [.int ((Int32.ofNat p9) + (Int32.ofNat 1)), .ref (b)], A16)) rfl ?_
          rw [i32_add (p9) (1)]
          refine rw_pf (v := .int (Int32.ofNat (p9 + 1))) h18 rfl rfl rfl rfl rfl rfl (fun A21 h22 f23 => ?_)
          have f24 := f20.trans f23
          rw [rf_c17] at h22
          refine wp_st 1 (f' := (69, [some (.ref (b)), some (.int (sb_i o)), some (.int (Int32.ofNat 0))], [], A21)) rfl ?_
          refine wp_st 1 (f' := (70, [some (.ref (b)), some (.int (sb_i o)), some (.int (Int32.ofNat 0))], [.int (Int32.ofNat 0)], A21)) rfl ?_
          refine wp_izT rfl rfl (show (Int32.ofNat 0) = (Int32.ofNat 0) from by decide) ?_
          refine wp_st 2 (f' := (141, [some (.ref (b)), some (.int (sb_i o)), some (.int (Int32.ofNat 0))], [.ref (b), .ref (b)], A21)) rfl ?_
          refine rw_gf (v := .int (Int32.ofNat e9)) h22 rfl rfl rfl rfl (rfl) rfl ?_
          refine rw_pf (v := .int (Int32.ofNat e9)) h22 rfl rfl rfl rfl rfl rfl (fun A25 h26 f27 => ?_)
          have f28 := f24.trans f27
          rw [rf_c_u (by decide)] at h26
          refine wp_st 1 (f' := (148, [some (.ref (b)), some (.int (sb_i o)), some (.int (Int32.ofNat 0))], [.ref (b)], A25)) rfl ?_
          refine rw_gf (v := .int (Int32.ofNat e9)) h26 rfl rfl rfl rfl (rfl) rfl ?_
          refine wp_izF rfl rfl (show ¬ ((Int32.ofNat e9) < Int32.ofNat 0) from Int32.ofNat_not_neg (by omega)) ?_
          refine wp_st 2 (f' := (156, [some (.ref (b)), some (.int (sb_i o)), some (.int (Int32.ofNat 0))], [.int (Int32.ofNat 1), .ref (b)], A25)) rfl ?_
          refine rw_pf (v := .int (Int32.ofNat 1)) h26 rfl rfl rfl rfl rfl rfl (fun A29 h30 f31 => ?_)
          have f32 := f28.trans f31
          rw [rf_c_u (by decide)] at h30
          refine wp_rt rfl rfl rfl ?_
          have hres : ru_loop cs n (k + 1) p S = .error e9 := by rw [ru_loop, hrl]
          rw [hres]
          exact rq_V_er h30 q4 f32
      · skip
        rw [ne_eq, i32_eq (by omega) (by omega)] at h2
        replace h2 := Decidable.not_not.mp h2
        refine wp_st 4 (f' := (104, [some (.ref (b)), some (.int (sb_i o)), some (.int (Int32.ofNat 1))], [.int (Int32.ofNat 1)], A9)) rfl ?_
        refine wp_izT rfl rfl (show (Int32.ofNat 1) ≠ (Int32.ofNat 0) from by decide) ?_
        refine wp_st 2 (f' := (128, [some (.ref (b)), some (.int (sb_i o)), some (.int (Int32.ofNat 1))], [.ref (b), .ref (b)], A9)) rfl ?_
        refine rw_gf (v := .int (Int32.ofNat p9)) q1 rfl rfl rfl rfl (rfl) rfl ?_
        refine wp_st 2 (f' := (133, [some (.ref (b)), some (.int (sb_i o)), some (.int (Int32.ofNat 1))], [.int ((Int32.ofNat p9) + (Int32.ofNat 1)), .ref (b)], A9)) rfl ?_
        rw [i32_add (p9) (1)]
        refine rw_pf (v := .int (Int32.ofNat (p9 + 1))) q1 rfl rfl rfl rfl rfl rfl (fun A33 h34 f35 => ?_)
        have f36 := hF9.trans f35
        rw [rf_c17] at h34
        refine wp_st 1 (f' := (69, [some (.ref (b)), some (.int (sb_i o)), some (.int (Int32.ofNat 1))], [], A33)) rfl ?_
        refine wp_st 1 (f' := (70, [some (.ref (b)), some (.int (sb_i o)), some (.int (Int32.ofNat 1))], [.int (Int32.ofNat 1)], A33)) rfl ?_
        refine wp_izF rfl rfl (show ¬ ((Int32.ofNat 1) = (Int32.ofNat 0)) from by decide) ?_
        refine wp_st 1 (f' := (74, [some (.ref (b)), some (.int (sb_i o)), some (.int (Int32.ofNat 1))], [.ref (b)], A33)) rfl ?_
        refine rw_gf (v := .int (Int32.ofNat e9)) h34 rfl rfl rfl rfl (rfl) rfl ?_
        refine wp_izT rfl rfl (show Int32.ofNat 0 ≤ (Int32.ofNat e9) from Int32.not_lt.mp (Int32.ofNat_not_neg (by omega))) ?_
        refine wp_st 2 (f' := (141, [some (.ref (b)), some (.int (sb_i o)), some (.int (Int32.ofNat 1))], [.ref (b), .ref (b)], A33)) rfl ?_
        refine rw_gf (v := .int (Int32.ofNat e9)) h34 rfl rfl rfl rfl (rfl) rfl ?_
        refine rw_pf (v := .int (Int32.ofNat e9)) h34 rfl rfl rfl rfl rfl rfl (fun A37 h38 f39 => ?_)
        have f40 := f36.trans f39
        rw [rf_c_u (by decide)] at h38
        refine wp_st 1 (f' := (148, [some (.ref (b)), some (.int (sb_i o)), some (.int (Int32.ofNat 1))], [.ref (b)], A37)) rfl ?_
        refine rw_gf (v := .int (Int32.ofNat e9)) h38 rfl rfl rfl rfl (rfl) rfl ?_
        refine wp_izF rfl rfl (show ¬ ((Int32.ofNat e9) < Int32.ofNat 0) from Int32.ofNat_not_neg (by omega)) ?_
        refine wp_st 2 (f' := (156, [some (.ref (b)), some (.int (sb_i o)), some (.int (Int32.ofNat 1))], [.int (Int32.ofNat 1), .ref (b)], A37)) rfl ?_
        refine rw_pf (v := .int (Int32.ofNat 1)) h38 rfl rfl rfl rfl rfl rfl (fun A41 h42 f43 => ?_)
        have f44 := f40.trans f43
        rw [rf_c_u (by decide)] at h42
        refine wp_rt rfl rfl rfl ?_
        have hres : ru_loop cs n (k + 1) p S = .error e9 := by rw [ru_loop, hrl]
        rw [hres]
        exact rq_V_er h42 q4 f44
    · skip
      rw [hrl] at q9
      obtain ⟨q0, t9, r9, g0, q1, q2, q4, q5⟩ := q9
      dsimp only at q0 q1 q2
      subst q0
      have hx9 := q4.tx (show rf_tx (s) cs n from hx)
      have hle := ru_rule_le (by omega) hrl
      have hle1 := hle.1
      unfold ru_le at hle1
      have hF9 := (sb_fr.refl A b (b + 38)).trans q5
      refine wp_cv (A' := A9) (v := none) rfl rfl rfl rfl rfl (show _ from h.1) (by omega) (g9) rfl ?_
      show am_wp d 148 (84, [some (.ref (b)), some (.int (sb_i o)), some (.int (Int32.ofNat 1))], [], A9) _
      refine wp_st 2 (f' := (86, [some (.ref (b)), some (.int (sb_i o)), some (.int (Int32.ofNat 1))], [.ref (b), .ref (b)], A9)) rfl ?_
      refine rw_gf (v := .int (Int32.ofNat a9)) q1 rfl rfl rfl rfl (rfl) rfl ?_
      have l45 := hlk (a9)
      refine wp_cv (A' := A9) (v := some (.int (Int32.ofNat (sb_lk cs n a9)))) rfl rfl rfl rfl rfl (show _ from q1.1) (by omega) (rr_look (by omega) (show rf_tx (t9) cs n from hx9) q1) rfl ?_
      show am_wp d 148 (92, [some (.ref (b)), some (.int (sb_i o)), some (.int (Int32.ofNat 1))], [.int (Int32.ofNat (sb_lk cs n a9))], A9) _
      refine wp_st 1 (f' := (94, [some (.ref (b)), some (.int (sb_i o)), some (.int (Int32.ofNat 1))], [.int (Int32.ofNat 59), .int (Int32.ofNat (sb_lk cs n a9))], A9)) rfl ?_
      refine wp_if rfl rfl rfl (fun (h46 : (Int32.ofNat (sb_lk cs n a9)) ≠ (Int32.ofNat 59)) => ?_) (fun (h46 : ¬ ((Int32.ofNat (sb_lk cs n a9)) ≠ (Int32.ofNat 59))) => ?_)
      · skip
        rw [ne_eq, i32_eq (by omega) (by omega)] at h46
        refine wp_st 3 (f' := (104, [some (.ref (b)), some (.int (sb_i o)), some (.int (Int32.ofNat 0))], [.int (Int32.ofNat 0)], A9)) rfl ?_
        refine wp_izF rfl rfl (show ¬ ((Int32.ofNat 0) ≠ (Int32.ofNat 0)) from by decide) ?_
        refine wp_st 1 (f' := (108, [some (.ref (b)), some (.int (sb_i o)), some (.int (Int32.ofNat 0))], [.ref (b)], A9)) rfl ?_
        refine rw_gf (v := .int (Int32.ofNat a9)) q1 rfl rfl rfl rfl (rfl) rfl ?_
        refine wp_st 1 (f' := (112, [some (.ref (b)), some (.int (sb_i o)), some (.int (Int32.ofNat 0))], [.ref (b), .int (Int32.ofNat a9)], A9)) rfl ?_
        refine rw_gf (v := .int (Int32.ofNat n)) q1 rfl rfl rfl rfl (hx9.1) rfl ?_
        refine wp_if rfl rfl rfl (fun (h47 : (Int32.ofNat n) ≤ (Int32.ofNat a9)) => ?_) (fun (h47 : ¬ ((Int32.ofNat n) ≤ (Int32.ofNat a9))) => ?_)
        · skip
          rw [i32_le (by omega) (by omega)] at h47
          refine wp_st 2 (f' := (128, [some (.ref (b)), some (.int (sb_i o)), some (.int (Int32.ofNat 0))], [.ref (b), .ref (b)], A9)) rfl ?_
          refine rw_gf (v := .int (Int32.ofNat a9)) q1 rfl rfl rfl rfl (rfl) rfl ?_
          refine wp_st 2 (f' := (133, [some (.ref (b)), some (.int (sb_i o)), some (.int (Int32.ofNat 0))], [.int ((Int32.ofNat a9) + (Int32.ofNat 1)), .ref (b)], A9)) rfl ?_
          rw [i32_add (a9) (1)]
          refine rw_pf (v := .int (Int32.ofNat (a9 + 1))) q1 rfl rfl rfl rfl rfl rfl (fun A48 h49 f50 => ?_)
          have f51 := hF9.trans f50
          rw [rf_c17] at h49
          refine wp_st 1 (f' := (69, [some (.ref (b)), some (.int (sb_i o)), some (.int (Int32.ofNat 0))], [], A48)) rfl ?_
          refine wp_st 1 (f' := (70, [some (.ref (b)), some (.int (sb_i o)), some (.int (Int32.ofNat 0))], [.int (Int32.ofNat 0)], A48)) rfl ?_
          refine wp_izT rfl rfl (show (Int32.ofNat 0) = (Int32.ofNat 0) from by decide) ?_
          refine wp_st 2 (f' := (141, [some (.ref (b)), some (.int (sb_i o)), some (.int (Int32.ofNat 0))], [.ref (b), .ref (b)], A48)) rfl ?_
          refine rw_gf (v := .int ((-1))) h49 rfl rfl rfl rfl (rfl) rfl ?_
          refine rw_pf (v := .int ((-1))) h49 rfl rfl rfl rfl rfl rfl (fun A52 h53 f54 => ?_)
          have f55 := f51.trans f54
          rw [rf_c_u (by decide)] at h53
          refine wp_st 1 (f' := (148, [some (.ref (b)), some (.int (sb_i o)), some (.int (Int32.ofNat 0))], [.ref (b)], A52)) rfl ?_
          refine rw_gf (v := .int ((-1))) h53 rfl rfl rfl rfl (rfl) rfl ?_
          refine wp_izT rfl rfl (show (-1 : Int32) < (Int32.ofNat 0) from by decide) ?_
          refine wp_st 2 (f' := (162, [some (.ref (b)), some (.int (sb_i o)), some (.int (Int32.ofNat 0))], [.int (sb_i o), .ref (b)], A52)) rfl ?_
          by_cases b56 : o = true
          · skip
            refine wp_izF rfl rfl (show ¬ (sb_i o = 0) from by rw [b56]; decide) ?_
            refine wp_st 2 (f' := (170, [some (.ref (b)), some (.int (sb_i o)), some (.int (Int32.ofNat 0))], [.int (Int32.ofNat 1), .ref (b)], A52)) rfl ?_
            obtain ⟨A57, g58, h59, f60⟩ := (show rf_go _ _ _ _ _ _ (rf_c (rk_all (rf_u t9 1 0 (.int ((-1)))) S9 1) (a9 + 1) (-1) r9 g0) from rq_keep (d := d - 1) (by omega) (by omega) (by omega) q2.at1 h53)
            have f61 := f55.trans f60
            refine wp_cv (A' := A57) (v := none) rfl rfl rfl rfl rfl (show _ from h53.1) (by omega) (g58) rfl ?_
            show am_wp d 148 (173, [some (.ref (b)), some (.int (sb_i o)), some (.int (Int32.ofNat 0))], [], A57) _
            refine wp_rt rfl rfl rfl ?_
            have hres : ru_loop cs n (k + 1) p S = .ok (a9, S9) := by rw [ru_loop, hrl]; dsimp only; rw [if_pos (by omega)]
            rw [hres, if_pos b56]
            exact rq_V_ok h59 (by omega) (by omega) ((q4 0 0 (by unfold rs_su rs_sc; omega)).trans h00) q2 q4 f61
          · skip
            have b56f : o = false := by simpa using b56
            refine wp_izT rfl rfl (show sb_i o = 0 from by rw [b56f]; decide) ?_
            refine wp_st 1 (f' := (170, [some (.ref (b)), some (.int (sb_i o)), some (.int (Int32.ofNat 0))], [.int (Int32.ofNat 0), .ref (b)], A52)) rfl ?_
            obtain ⟨A62, g63, h64, f65⟩ := (show rf_go _ _ _ _ _ _ (rf_c (rk_all (rf_u t9 1 0 (.int ((-1)))) S9 0) (a9 + 1) (-1) r9 g0) from rq_keep (d := d - 1) (by omega) (by omega) (by omega) q2.at1 h53)
            have f66 := f55.trans f65
            refine wp_cv (A' := A62) (v := none) rfl rfl rfl rfl rfl (show _ from h53.1) (by omega) (g63) rfl ?_
            show am_wp d 148 (173, [some (.ref (b)), some (.int (sb_i o)), some (.int (Int32.ofNat 0))], [], A62) _
            refine wp_rt rfl rfl rfl ?_
            have hres : ru_loop cs n (k + 1) p S = .ok (a9, S9) := by rw [ru_loop, hrl]; dsimp only; rw [if_pos (by omega)]
            rw [hres, if_neg b56]
            exact rq_V_ok h64 (by omega) (by omega) ((q4 0 0 (by unfold rs_su rs_sc; omega)).trans h00) q2 q4 f66
        · skip
          rw [i32_le (by omega) (by omega)] at h47
          refine wp_st 2 (f' := (120, [some (.ref (b)), some (.int (sb_i o)), some (.int (Int32.ofNat 0))], [.ref (b), .ref (b)], A9)) rfl ?_
          refine rw_gf (v := .int (Int32.ofNat a9)) q1 rfl rfl rfl rfl (rfl) rfl ?_
          obtain ⟨A67, g68, h69, f70⟩ := (show rf_go _ _ _ _ _ _ (rf_c t9 a9 (Int32.ofNat a9) r9 g0) from by have e := rr_fail (d := d - 1) (x := a9) q1; rw [rf_w_m] at e; exact e)
          have f71 := hF9.trans f70
          refine wp_cv (A' := A67) (v := none) rfl rfl rfl rfl rfl (show _ from q1.1) (by omega) (g68) rfl ?_
          show am_wp d 148 (126, [some (.ref (b)), some (.int (sb_i o)), some (.int (Int32.ofNat 0))], [], A67) _
          refine wp_st 2 (f' := (128, [some (.ref (b)), some (.int (sb_i o)), some (.int (Int32.ofNat 0))], [.ref (b), .ref (b)], A67)) rfl ?_
          refine rw_gf (v := .int (Int32.ofNat a9)) h69 rfl rfl rfl rfl (rfl) rfl ?_
          refine wp_st 2 (f' := (133, [some (.ref (b)), some (.int (sb_i o)), some (.int (Int32.ofNat 0))], [.int ((Int32.ofNat a9) + (Int32.ofNat 1)), .ref (b)], A67)) rfl ?_
          rw [i32_add (a9) (1)]
          refine rw_pf (v := .int (Int32.ofNat (a9 + 1))) h69 rfl rfl rfl rfl rfl rfl (fun A72 h73 f74 => ?_)
          have f75 := f71.trans f74
          rw [rf_c17] at h73
          refine wp_st 1 (f' := (69, [some (.ref (b)), some (.int (sb_i o)), some (.int (Int32.ofNat 0))], [], A72)) rfl ?_
          refine wp_st 1 (f' := (70, [some (.ref (b)), some (.int (sb_i o)), some (.int (Int32.ofNat 0))], [.int (Int32.ofNat 0)], A72)) rfl ?_
          refine wp_izT rfl rfl (show (Int32.ofNat 0) = (Int32.ofNat 0) from by decide) ?_
          refine wp_st 2 (f' := (141, [some (.ref (b)), some (.int (sb_i o)), some (.int (Int32.ofNat 0))], [.ref (b), .ref (b)], A72)) rfl ?_
          refine rw_gf (v := .int (Int32.ofNat a9)) h73 rfl rfl rfl rfl (rfl) rfl ?_
          refine rw_pf (v := .int (Int32.ofNat a9)) h73 rfl rfl rfl rfl rfl rfl (fun A76 h77 f78 => ?_)
          have f79 := f75.trans f78
          rw [rf_c_u (by decide)] at h77
          refine wp_st 1 (f' := (148, [some (.ref (b)), some (.int (sb_i o)), some (.int (Int32.ofNat 0))], [.ref (b)], A76)) rfl ?_
          refine rw_gf (v := .int (Int32.ofNat a9)) h77 rfl rfl rfl rfl (rfl) rfl ?_
          refine wp_izF rfl rfl (show ¬ ((Int32.ofNat a9) < Int32.ofNat 0) from Int32.ofNat_not_neg (by omega)) ?_
          refine wp_st 2 (f' := (156, [some (.ref (b)), some (.int (sb_i o)), some (.int (Int32.ofNat 0))], [.int (Int32.ofNat 1), .ref (b)], A76)) rfl ?_
          refine rw_pf (v := .int (Int32.ofNat 1)) h77 rfl rfl rfl rfl rfl rfl (fun A80 h81 f82 => ?_)
          have f83 := f79.trans f82
          rw [rf_c_u (by decide)] at h81
          refine wp_rt rfl rfl rfl ?_
          have hres : ru_loop cs n (k + 1) p S = .error a9 := by rw [ru_loop, hrl]; dsimp only; rw [if_neg (by omega), if_neg (by omega)]
          rw [hres]
          exact rq_V_er h81 q4 f83
      · skip
        rw [ne_eq, i32_eq (by omega) (by omega)] at h46
        replace h46 := Decidable.not_not.mp h46
        refine wp_st 4 (f' := (104, [some (.ref (b)), some (.int (sb_i o)), some (.int (Int32.ofNat 1))], [.int (Int32.ofNat 1)], A9)) rfl ?_
        refine wp_izT rfl rfl (show (Int32.ofNat 1) ≠ (Int32.ofNat 0) from by decide) ?_
        refine wp_st 2 (f' := (128, [some (.ref (b)), some (.int (sb_i o)), some (.int (Int32.ofNat 1))], [.ref (b), .ref (b)], A9)) rfl ?_
        refine rw_gf (v := .int (Int32.ofNat a9)) q1 rfl rfl rfl rfl (rfl) rfl ?_
        refine wp_st 2 (f' := (133, [some (.ref (b)), some (.int (sb_i o)), some (.int (Int32.ofNat 1))], [.int ((Int32.ofNat a9) + (Int32.ofNat 1)), .ref (b)], A9)) rfl ?_
        rw [i32_add (a9) (1)]
        refine rw_pf (v := .int (Int32.ofNat (a9 + 1))) q1 rfl rfl rfl rfl rfl rfl (fun A84 h85 f86 => ?_)
        have f87 := hF9.trans f86
        rw [rf_c17] at h85
        refine wp_st 1 (f' := (69, [some (.ref (b)), some (.int (sb_i o)), some (.int (Int32.ofNat 1))], [], A84)) rfl ?_
        have hpos : a9 < n := sb_lk_pos (cs := cs) (by omega)
        have hres : ru_loop cs n (k + 1) p S = ru_loop cs n k (a9 + 1) S9 := by rw [ru_loop, hrl]; dsimp only; rw [if_neg (by omega), if_pos h46]
        rw [hres]
        obtain ⟨z, z1, z2⟩ := ih (a9 + 1) _ _ S9 _ _ (by omega) (by omega) (by omega) (by omega) hx9 q2 ((q4 0 0 (by unfold rs_su rs_sc; omega)).trans h00) h85
        exact ⟨z, z1, z2.tr q4.E f87⟩
theorem rq_rules {d b n p g : Nat} {w : Int32} {r : Int64} {o : Bool} {cs : List Nat} {S : rg} {s : rf_S} {A : am_H} (hd : 5 ≤ d) (hc128 : ∀ j, cs.getD j 0 < 128) (hx : rf_tx s cs n) (h : rf A b (rf_c s p w r g)) : am_wp d 148 (0, am_ent 148 [.ref b, .int (sb_i o)], [], A) (rq_V A b s (if o = true then 1 else 0) (ru_all cs n (rg_clr S))) := by
  have hn1 := hx.2.2.1
  have hlk : ∀ k, sb_lk cs n k < 128 := by
    intro k
    unfold sb_lk
    split
    · have := hx.2.2.2 k (by omega)
      omega
    · omega
  refine wp_st 2 (f' := (2, [some (.ref (b)), some (.int (sb_i o)), none], [.int (Int32.ofNat 0), .ref (b)], A)) rfl ?_
  refine rw_pf (v := .int (Int32.ofNat 0)) h rfl rfl rfl rfl rfl rfl (fun A1 h2 f3 => ?_)
  have f4 := (sb_fr.refl A b (b + 38)).trans f3
  rw [rf_c_u (by decide)] at h2
  refine wp_st 2 (f' := (7, [some (.ref (b)), some (.int (sb_i o)), none], [.int (Int32.ofNat 0), .ref (b)], A1)) rfl ?_
  refine rw_pf (v := .int (Int32.ofNat 0)) h2 rfl rfl rfl rfl rfl rfl (fun A5 h6 f7 => ?_)
  have f8 := f4.trans f7
  rw [rf_c17] at h6
  refine wp_st 2 (f' := (12, [some (.ref (b)), some (.int (sb_i o)), none], [.int ((-1)), .ref (b)], A5)) rfl ?_
  refine rw_pf (v := .int ((-1))) h6 rfl rfl rfl rfl rfl rfl (fun A9 h10 f11 => ?_)
  have f12 := f8.trans f11
  rw [rf_c18] at h10
  refine wp_st 2 (f' := (17, [some (.ref (b)), some (.int (sb_i o)), none], [.int (Int32.ofNat 0), .ref (b)], A9)) rfl ?_
  refine rw_pf (v := .int (Int32.ofNat 0)) h10 rfl rfl rfl rfl rfl rfl (fun A13 h14 f15 => ?_)
  have f16 := f12.trans f15
  rw [rf_c_u (by decide)] at h14
  refine wp_st 2 (f' := (22, [some (.ref (b)), some (.int (sb_i o)), none], [.int (Int32.ofNat 0), .ref (b)], A13)) rfl ?_
  refine rw_pf (v := .int (Int32.ofNat 0)) h14 rfl rfl rfl rfl rfl rfl (fun A17 h18 f19 => ?_)
  have f20 := f16.trans f19
  rw [rf_c_u (by decide)] at h18
  refine wp_st 4 (f' := (29, [some (.ref (b)), some (.int (sb_i o)), some (.int (Int32.ofNat 0))], [.int (Int32.ofNat 5), .int (Int32.ofNat 0)], A17)) rfl ?_
  refine wp_ifF rfl rfl (show ¬ (Int32.ofNat 5 ≤ Int32.ofNat 0) from by decide) ?_
  refine wp_st 1 (f' := (33, [some (.ref (b)), some (.int (sb_i o)), some (.int (Int32.ofNat 0))], [.ref (b)], A17)) rfl ?_
  refine rw_gr h18 rfl rfl rfl rfl rfl rfl ?_
  refine wp_st 4 (f' := (41, [some (.ref (b)), some (.int (sb_i o)), some (.int (Int32.ofNat 0))], [.int (Int32.ofNat 0), .int (Int32.ofNat (16 + 0)), .ref (b + 20)], A17)) rfl ?_
  refine rw_as (j := 31) (n := 16 + 0) (v := .int (Int32.ofNat 0)) h18 rfl rfl rfl (Or.inl ⟨rfl, rfl, rfl⟩) (show _ < 24 from by omega) rfl rfl (fun A21 h22 f23 => ?_)
  have f24 := f20.trans f23
  rw [rf_c_u (by decide)] at h22
  refine wp_st 4 (f' := (29, [some (.ref (b)), some (.int (sb_i o)), some (.int (Int32.ofNat 1))], [.int (Int32.ofNat 5), .int (Int32.ofNat 1)], A21)) rfl ?_
  refine wp_ifF rfl rfl (show ¬ (Int32.ofNat 5 ≤ Int32.ofNat 1) from by decide) ?_
  refine wp_st 1 (f' := (33, [some (.ref (b)), some (.int (sb_i o)), some (.int (Int32.ofNat 1))], [.ref (b)], A21)) rfl ?_
  refine rw_gr h22 rfl rfl rfl rfl rfl rfl ?_
  refine wp_st 4 (f' := (41, [some (.ref (b)), some (.int (sb_i o)), some (.int (Int32.ofNat 1))], [.int (Int32.ofNat 0), .int (Int32.ofNat (16 + 1)), .ref (b + 20)], A21)) rfl ?_
  refine rw_as (j := 31) (n := 16 + 1) (v := .int (Int32.ofNat 0)) h22 rfl rfl rfl (Or.inl ⟨rfl, rfl, rfl⟩) (show _ < 24 from by omega) rfl rfl (fun A25 h26 f27 => ?_)
  have f28 := f24.trans f27
  rw [rf_c_u (by decide)] at h26
  refine wp_st 4 (f' := (29, [some (.ref (b)), some (.int (sb_i o)), some (.int (Int32.ofNat 2))], [.int (Int32.ofNat 5), .int (Int32.ofNat 2)], A25)) rfl ?_
  refine wp_ifF rfl rfl (show ¬ (Int32.ofNat 5 ≤ Int32.ofNat 2) from by decide) ?_
  refine wp_st 1 (f' := (33, [some (.ref (b)), some (.int (sb_i o)), some (.int (Int32.ofNat 2))], [.ref (b)], A25)) rfl ?_
  refine rw_gr h26 rfl rfl rfl rfl rfl rfl ?_
  refine wp_st 4 (f' := (41, [some (.ref (b)), some (.int (sb_i o)), some (.int (Int32.ofNat 2))], [.int (Int32.ofNat 0), .int (Int32.ofNat (16 + 2)), .ref (b + 20)], A25)) rfl ?_
  refine rw_as (j := 31) (n := 16 + 2) (v := .int (Int32.ofNat 0)) h26 rfl rfl rfl (Or.inl ⟨rfl, rfl, rfl⟩) (show _ < 24 from by omega) rfl rfl (fun A29 h30 f31 => ?_)
  have f32 := f28.trans f31
  rw [rf_c_u (by decide)] at h30
  refine wp_st 4 (f' := (29, [some (.ref (b)), some (.int (sb_i o)), some (.int (Int32.ofNat 3))], [.int (Int32.ofNat 5), .int (Int32.ofNat 3)], A29)) rfl ?_
  refine wp_ifF rfl rfl (show ¬ (Int32.ofNat 5 ≤ Int32.ofNat 3) from by decide) ?_
  refine wp_st 1 (f' := (33, [some (.ref (b)), some (.int (sb_i o)), some (.int (Int32.ofNat 3))], [.ref (b)], A29)) rfl ?_
  refine rw_gr h30 rfl rfl rfl rfl rfl rfl ?_
  refine wp_st 4 (f' := (41, [some (.ref (b)), some (.int (sb_i o)), some (.int (Int32.ofNat 3))], [.int (Int32.ofNat 0), .int (Int32.ofNat (16 + 3)), .ref (b + 20)], A29)) rfl ?_
  refine rw_as (j := 31) (n := 16 + 3) (v := .int (Int32.ofNat 0)) h30 rfl rfl rfl (Or.inl ⟨rfl, rfl, rfl⟩) (show _ < 24 from by omega) rfl rfl (fun A33 h34 f35 => ?_)
  have f36 := f32.trans f35
  rw [rf_c_u (by decide)] at h34
  refine wp_st 4 (f' := (29, [some (.ref (b)), some (.int (sb_i o)), some (.int (Int32.ofNat 4))], [.int (Int32.ofNat 5), .int (Int32.ofNat 4)], A33)) rfl ?_
  refine wp_ifF rfl rfl (show ¬ (Int32.ofNat 5 ≤ Int32.ofNat 4) from by decide) ?_
  refine wp_st 1 (f' := (33, [some (.ref (b)), some (.int (sb_i o)), some (.int (Int32.ofNat 4))], [.ref (b)], A33)) rfl ?_
  refine rw_gr h34 rfl rfl rfl rfl rfl rfl ?_
  refine wp_st 4 (f' := (41, [some (.ref (b)), some (.int (sb_i o)), some (.int (Int32.ofNat 4))], [.int (Int32.ofNat 0), .int (Int32.ofNat (16 + 4)), .ref (b + 20)], A33)) rfl ?_
  refine rw_as (j := 31) (n := 16 + 4) (v := .int (Int32.ofNat 0)) h34 rfl rfl rfl (Or.inl ⟨rfl, rfl, rfl⟩) (show _ < 24 from by omega) rfl rfl (fun A37 h38 f39 => ?_)
  have f40 := f36.trans f39
  rw [rf_c_u (by decide)] at h38
  refine wp_st 4 (f' := (29, [some (.ref (b)), some (.int (sb_i o)), some (.int (Int32.ofNat 5))], [.int (Int32.ofNat 5), .int (Int32.ofNat 5)], A37)) rfl ?_
  refine wp_ifT rfl rfl (show Int32.ofNat 5 ≤ Int32.ofNat 5 from by decide) ?_
  refine wp_st 1 (f' := (49, [some (.ref (b)), some (.int (sb_i o)), some (.int (Int32.ofNat 5))], [.ref (b)], A37)) rfl ?_
  have hs9 : rs_S (rf_u (rf_u (rf_u (rf_u (rf_u (rf_u (rf_u (rf_u s 0 0 (.int (Int32.ofNat 0))) 40 0 (.int (Int32.ofNat 0))) 41 0 (.int (Int32.ofNat 0))) 31 (16 + 0) (.int (Int32.ofNat 0))) 31 (16 + 1) (.int (Int32.ofNat 0))) 31 (16 + 2) (.int (Int32.ofNat 0))) 31 (16 + 3) (.int (Int32.ofNat 0))) 31 (16 + 4) (.int (Int32.ofNat 0))) (rg_clr S) := rs_S_0 (by simp only [rf_u_if]; simp) (by simp only [rf_u_if]; simp) (fun c hc => by rcases (show c = 0 ∨ c = 1 ∨ c = 2 ∨ c = 3 ∨ c = 4 by omega) with e | e | e | e | e <;> subst e <;> simp only [rf_u_if] <;> simp)
  have hx9 : rf_tx (rf_u (rf_u (rf_u (rf_u (rf_u (rf_u (rf_u (rf_u s 0 0 (.int (Int32.ofNat 0))) 40 0 (.int (Int32.ofNat 0))) 41 0 (.int (Int32.ofNat 0))) 31 (16 + 0) (.int (Int32.ofNat 0))) 31 (16 + 1) (.int (Int32.ofNat 0))) 31 (16 + 2) (.int (Int32.ofNat 0))) 31 (16 + 3) (.int (Int32.ofNat 0))) 31 (16 + 4) (.int (Int32.ofNat 0))) cs n := ⟨by simp only [rf_u_if]; simp; exact hx.1, fun i hi => by simp only [rf_u_if]; simp; exact hx.2.1 i hi, hx.2.2⟩
  have hZ : rs_ZE s (rf_u (rf_u (rf_u (rf_u (rf_u (rf_u (rf_u (rf_u s 0 0 (.int (Int32.ofNat 0))) 40 0 (.int (Int32.ofNat 0))) 41 0 (.int (Int32.ofNat 0))) 31 (16 + 0) (.int (Int32.ofNat 0))) 31 (16 + 1) (.int (Int32.ofNat 0))) 31 (16 + 2) (.int (Int32.ofNat 0))) 31 (16 + 3) (.int (Int32.ofNat 0))) 31 (16 + 4) (.int (Int32.ofNat 0))) := fun j i q1 q2 q3 => by unfold rs_su rs_sc at q3; simp only [rf_u_if]; repeat (rw [if_neg (by omega)])
  have k41 := rd_sk_gt (cs := cs) (n := n) (a := 0)
  obtain ⟨A42, g43, h44, f45⟩ := (show rf_go (d - 1) 129 [.ref b] A37 b none (rf_c (rf_u (rf_u (rf_u (rf_u (rf_u (rf_u (rf_u (rf_u s 0 0 (.int (Int32.ofNat 0))) 40 0 (.int (Int32.ofNat 0))) 41 0 (.int (Int32.ofNat 0))) 31 (16 + 0) (.int (Int32.ofNat 0))) 31 (16 + 1) (.int (Int32.ofNat 0))) 31 (16 + 2) (.int (Int32.ofNat 0))) 31 (16 + 3) (.int (Int32.ofNat 0))) 31 (16 + 4) (.int (Int32.ofNat 0))) (rd_sk cs n 0) (-1) r g) from rr_spaces (d := d - 1) (by omega) (by omega) (show rf_tx (rf_u (rf_u (rf_u (rf_u (rf_u (rf_u (rf_u (rf_u s 0 0 (.int (Int32.ofNat 0))) 40 0 (.int (Int32.ofNat 0))) 41 0 (.int (Int32.ofNat 0))) 31 (16 + 0) (.int (Int32.ofNat 0))) 31 (16 + 1) (.int (Int32.ofNat 0))) 31 (16 + 2) (.int (Int32.ofNat 0))) 31 (16 + 3) (.int (Int32.ofNat 0))) 31 (16 + 4) (.int (Int32.ofNat 0))) cs n from hx9) h38)
  have f46 := f40.trans f45
  refine wp_cv (A' := A42) (v := none) rfl rfl rfl rfl rfl (show _ from h38.1) (by omega) (g43) rfl ?_
  show am_wp d 148 (52, [some (.ref (b)), some (.int (sb_i o)), some (.int (Int32.ofNat 5))], [], A42) _
  refine wp_st 1 (f' := (53, [some (.ref (b)), some (.int (sb_i o)), some (.int (Int32.ofNat 5))], [.ref (b)], A42)) rfl ?_
  refine rw_gf (v := .int (Int32.ofNat (rd_sk cs n 0))) h44 rfl rfl rfl rfl (rfl) rfl ?_
  refine wp_st 1 (f' := (57, [some (.ref (b)), some (.int (sb_i o)), some (.int (Int32.ofNat 5))], [.ref (b), .int (Int32.ofNat (rd_sk cs n 0))], A42)) rfl ?_
  refine rw_gf (v := .int (Int32.ofNat n)) h44 rfl rfl rfl rfl (hx9.1) rfl ?_
  refine wp_if rfl rfl rfl (fun (h47 : (Int32.ofNat n) ≤ (Int32.ofNat (rd_sk cs n 0))) => ?_) (fun (h47 : ¬ ((Int32.ofNat n) ≤ (Int32.ofNat (rd_sk cs n 0)))) => ?_)
  · skip
    rw [i32_le (by omega) (by omega)] at h47
    refine wp_st 2 (f' := (69, [some (.ref (b)), some (.int (sb_i o)), some (.int (Int32.ofNat 0))], [], A42)) rfl ?_
    refine wp_st 1 (f' := (70, [some (.ref (b)), some (.int (sb_i o)), some (.int (Int32.ofNat 0))], [.int (Int32.ofNat 0)], A42)) rfl ?_
    refine wp_izT rfl rfl (show (Int32.ofNat 0) = (Int32.ofNat 0) from by decide) ?_
    refine wp_st 2 (f' := (141, [some (.ref (b)), some (.int (sb_i o)), some (.int (Int32.ofNat 0))], [.ref (b), .ref (b)], A42)) rfl ?_
    refine rw_gf (v := .int ((-1))) h44 rfl rfl rfl rfl (rfl) rfl ?_
    refine rw_pf (v := .int ((-1))) h44 rfl rfl rfl rfl rfl rfl (fun A48 h49 f50 => ?_)
    have f51 := f46.trans f50
    rw [rf_c_u (by decide)] at h49
    refine wp_st 1 (f' := (148, [some (.ref (b)), some (.int (sb_i o)), some (.int (Int32.ofNat 0))], [.ref (b)], A48)) rfl ?_
    refine rw_gf (v := .int ((-1))) h49 rfl rfl rfl rfl (rfl) rfl ?_
    refine wp_izT rfl rfl (show (-1 : Int32) < (Int32.ofNat 0) from by decide) ?_
    refine wp_st 2 (f' := (162, [some (.ref (b)), some (.int (sb_i o)), some (.int (Int32.ofNat 0))], [.int (sb_i o), .ref (b)], A48)) rfl ?_
    by_cases b52 : o = true
    · skip
      refine wp_izF rfl rfl (show ¬ (sb_i o = 0) from by rw [b52]; decide) ?_
      refine wp_st 2 (f' := (170, [some (.ref (b)), some (.int (sb_i o)), some (.int (Int32.ofNat 0))], [.int (Int32.ofNat 1), .ref (b)], A48)) rfl ?_
      obtain ⟨A53, g54, h55, f56⟩ := (show rf_go _ _ _ _ _ _ (rf_c (rk_all (rf_u (rf_u (rf_u (rf_u (rf_u (rf_u (rf_u (rf_u (rf_u s 0 0 (.int (Int32.ofNat 0))) 40 0 (.int (Int32.ofNat 0))) 41 0 (.int (Int32.ofNat 0))) 31 (16 + 0) (.int (Int32.ofNat 0))) 31 (16 + 1) (.int (Int32.ofNat 0))) 31 (16 + 2) (.int (Int32.ofNat 0))) 31 (16 + 3) (.int (Int32.ofNat 0))) 31 (16 + 4) (.int (Int32.ofNat 0))) 1 0 (.int ((-1)))) (rg_clr S) 1) (rd_sk cs n 0) (-1) r g) from rq_keep (d := d - 1) (by omega) (Nat.zero_le _) (Nat.zero_le _) hs9.at1 h49)
      have f57 := f51.trans f56
      refine wp_cv (A' := A53) (v := none) rfl rfl rfl rfl rfl (show _ from h49.1) (by omega) (g54) rfl ?_
      show am_wp d 148 (173, [some (.ref (b)), some (.int (sb_i o)), some (.int (Int32.ofNat 0))], [], A53) _
      refine wp_rt rfl rfl rfl ?_
      rw [ru_all, if_pos (show n ≤ rd_sk cs n 0 by omega), if_pos b52]
      have z2 := rq_V_ok (s := rf_u (rf_u (rf_u (rf_u (rf_u (rf_u (rf_u (rf_u s 0 0 (.int (Int32.ofNat 0))) 40 0 (.int (Int32.ofNat 0))) 41 0 (.int (Int32.ofNat 0))) 31 (16 + 0) (.int (Int32.ofNat 0))) 31 (16 + 1) (.int (Int32.ofNat 0))) 31 (16 + 2) (.int (Int32.ofNat 0))) 31 (16 + 3) (.int (Int32.ofNat 0))) 31 (16 + 4) (.int (Int32.ofNat 0))) (u := rf_u (rf_u (rf_u (rf_u (rf_u (rf_u (rf_u (rf_u s 0 0 (.int (Int32.ofNat 0))) 40 0 (.int (Int32.ofNat 0))) 41 0 (.int (Int32.ofNat 0))) 31 (16 + 0) (.int (Int32.ofNat 0))) 31 (16 + 1) (.int (Int32.ofNat 0))) 31 (16 + 2) (.int (Int32.ofNat 0))) 31 (16 + 3) (.int (Int32.ofNat 0))) 31 (16 + 4) (.int (Int32.ofNat 0))) (a := rd_sk cs n 0) h55 (Nat.zero_le _) (Nat.zero_le _) (by simp only [rf_u_if]; simp) hs9 (rs_Y.refl _) f57
      exact z2.tr hZ (sb_fr.refl ..)
    · skip
      have b52f : o = false := by simpa using b52
      refine wp_izT rfl rfl (show sb_i o = 0 from by rw [b52f]; decide) ?_
      refine wp_st 1 (f' := (170, [some (.ref (b)), some (.int (sb_i o)), some (.int (Int32.ofNat 0))], [.int (Int32.ofNat 0), .ref (b)], A48)) rfl ?_
      obtain ⟨A58, g59, h60, f61⟩ := (show rf_go _ _ _ _ _ _ (rf_c (rk_all (rf_u (rf_u (rf_u (rf_u (rf_u (rf_u (rf_u (rf_u (rf_u s 0 0 (.int (Int32.ofNat 0))) 40 0 (.int (Int32.ofNat 0))) 41 0 (.int (Int32.ofNat 0))) 31 (16 + 0) (.int (Int32.ofNat 0))) 31 (16 + 1) (.int (Int32.ofNat 0))) 31 (16 + 2) (.int (Int32.ofNat 0))) 31 (16 + 3) (.int (Int32.ofNat 0))) 31 (16 + 4) (.int (Int32.ofNat 0))) 1 0 (.int ((-1)))) (rg_clr S) 0) (rd_sk cs n 0) (-1) r g) from rq_keep (d := d - 1) (by omega) (Nat.zero_le _) (Nat.zero_le _) hs9.at1 h49)
      have f62 := f51.trans f61
      refine wp_cv (A' := A58) (v := none) rfl rfl rfl rfl rfl (show _ from h49.1) (by omega) (g59) rfl ?_
      show am_wp d 148 (173, [some (.ref (b)), some (.int (sb_i o)), some (.int (Int32.ofNat 0))], [], A58) _
      refine wp_rt rfl rfl rfl ?_
      rw [ru_all, if_pos (show n ≤ rd_sk cs n 0 by omega), if_neg b52]
      have z2 := rq_V_ok (s := rf_u (rf_u (rf_u (rf_u (rf_u (rf_u (rf_u (rf_u s 0 0 (.int (Int32.ofNat 0))) 40 0 (.int (Int32.ofNat 0))) 41 0 (.int (Int32.ofNat 0))) 31 (16 + 0) (.int (Int32.ofNat 0))) 31 (16 + 1) (.int (Int32.ofNat 0))) 31 (16 + 2) (.int (Int32.ofNat 0))) 31 (16 + 3) (.int (Int32.ofNat 0))) 31 (16 + 4) (.int (Int32.ofNat 0))) (u := rf_u (rf_u (rf_u (rf_u (rf_u (rf_u (rf_u (rf_u s 0 0 (.int (Int32.ofNat 0))) 40 0 (.int (Int32.ofNat 0))) 41 0 (.int (Int32.ofNat 0))) 31 (16 + 0) (.int (Int32.ofNat 0))) 31 (16 + 1) (.int (Int32.ofNat 0))) 31 (16 + 2) (.int (Int32.ofNat 0))) 31 (16 + 3) (.int (Int32.ofNat 0))) 31 (16 + 4) (.int (Int32.ofNat 0))) (a := rd_sk cs n 0) h60 (Nat.zero_le _) (Nat.zero_le _) (by simp only [rf_u_if]; simp) hs9 (rs_Y.refl _) f62
      exact z2.tr hZ (sb_fr.refl ..)
  · skip
    rw [i32_le (by omega) (by omega)] at h47
    refine wp_st 3 (f' := (69, [some (.ref (b)), some (.int (sb_i o)), some (.int (Int32.ofNat 1))], [], A42)) rfl ?_
    rw [ru_all, if_neg (show ¬ n ≤ rd_sk cs n 0 by omega)]
    obtain ⟨z, z1, z2⟩ := rq_rul_l (o := o) (by omega) hc128 120 (rd_sk cs n 0) _ _ (rg_clr S) _ _ (by omega) (by omega) (Nat.zero_le _) (Nat.zero_le _) hx9 hs9 (by simp only [rf_u_if]; simp) h44
    exact ⟨z, z1, z2.tr hZ f46⟩
