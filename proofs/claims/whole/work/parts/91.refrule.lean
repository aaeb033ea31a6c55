/-! The reference: readRule. -/
theorem rq_cl {d b n c f : Nat} {cs : List Nat} (hd : 4 ≤ d) (hc : c < 5) : ∀ (k p g : Nat) (r : Int64) (S : rg) (s : rf_S) (A : am_H) (v4 : Option Value), n < p + 2 * k → p ≤ n → 3 * rg_R S ≤ p → 2 * rg_G S ≤ p → rf_tx s cs n → rs_S s S → s 30 (16 + c) = .int (Int32.ofNat (96 + f)) → f < rg_R S → rg_hr S c = false → ¬ sb_re 97 122 cs n p = p → rf A b (rf_c s p (-1) r g) → am_wp d 149 (111, [some (.ref b), some (.int (Int32.ofNat c)), some (.int (Int32.ofNat f)), some (.int (Int32.ofNat 1)), v4], [], A) (rq_U A b s n (ru_cl c f (ru_ct cs n k p S))) := by
  intro k
  induction k with
  | zero =>
    intro p g r S s A v4 h1 h2
    omega
  | succ k ih =>
    intro p g r S s A v4 hk hp hR hG hx hs h30 hf hhr hnl h
    have hn1 := hx.2.2.1
    have hlk : ∀ k, sb_lk cs n k < 128 := by
      intro k
      unfold sb_lk
      split
      · have := hx.2.2.2 k (by omega)
        omega
      · omega
    refine wp_st 1 (f' := (112, [some (.ref (b)), some (.int (Int32.ofNat c)), some (.int (Int32.ofNat f)), some (.int (Int32.ofNat 1)), v4], [.int (Int32.ofNat 1)], A)) rfl ?_
    refine wp_izF rfl rfl (show ¬ ((Int32.ofNat 1) = (Int32.ofNat 0)) from by decide) ?_
    refine wp_st 2 (f' := (118, [some (.ref (b)), some (.int (Int32.ofNat c)), some (.int (Int32.ofNat f)), some (.int (Int32.ofNat 1)), v4], [.int (Int32.ofNat 120), .ref (b)], A)) rfl ?_
    have huk := sb_re_le (lo := 97) (hi := 122) (cs := cs) (n := n) (a := p)
    have huj := huk.2.1 (by omega)
    have hao := rf_andor (sb_ltr_re cs n p) (by omega)
    obtain ⟨A1, g2, h3, f4⟩ := (show rf_go _ _ _ _ _ _ (rf_c s (sb_re 97 122 cs n p) (-1) (rf_rw cs p (sb_re 97 122 cs n p - p)) p) from by have q := rr_let (d := d - 1) (many := 120) (by omega) (by omega) (by omega) (show rf_tx (s) cs n from hx) h; rw [rf_let_ok (by omega) (by omega) hnl] at q; exact q)
    have f5 := (sb_fr.refl A b (b + 38)).trans f4
    refine wp_cv (A' := A1) (v := none) rfl rfl rfl rfl rfl (show _ from h.1) (by omega) (g2) rfl ?_
    show am_wp d 149 (121, [some (.ref (b)), some (.int (Int32.ofNat c)), some (.int (Int32.ofNat f)), some (.int (Int32.ofNat 1)), v4], [], A1) _
    refine wp_st 1 (f' := (122, [some (.ref (b)), some (.int (Int32.ofNat c)), some (.int (Int32.ofNat f)), some (.int (Int32.ofNat 1)), v4], [.ref (b)], A1)) rfl ?_
    refine rw_gf (v := .long (rf_rw cs p (sb_re 97 122 cs n p - p))) h3 rfl rfl rfl rfl (rfl) rfl ?_
    refine wp_st 3 (f' := (131, [some (.ref (b)), some (.int (Int32.ofNat c)), some (.int (Int32.ofNat f)), some (.int (Int32.ofNat 1)), v4], [.int (Int32.ofNat 100), .int (Int32.ofNat 110), .int (Int32.ofNat 97), .long (rf_rw cs p (sb_re 97 122 cs n p - p))], A1)) rfl ?_
    refine wp_cs (n := 0) (A' := A1) (v := some (.long (Int64.ofNat 1476))) rfl rfl rfl (by omega) ((show am_go (d - 1) 137 [.int (Int32.ofNat 97), .int (Int32.ofNat 110), .int (Int32.ofNat 100)] A1 (.inl (some (.long (Int64.ofNat 1476))), A1) from rn_three (by omega) (by omega) (by omega) (by omega))) rfl ?_
    show am_wp d 149 (134, [some (.ref (b)), some (.int (Int32.ofNat c)), some (.int (Int32.ofNat f)), some (.int (Int32.ofNat 1)), v4], [.long (Int64.ofNat 1476), .long (rf_rw cs p (sb_re 97 122 cs n p - p))], A1) _
    refine wp_st 1 (f' := (135, [some (.ref (b)), some (.int (Int32.ofNat c)), some (.int (Int32.ofNat f)), some (.int (Int32.ofNat 1)), v4], [.int (lg_cmp (rf_rw cs p (sb_re 97 122 cs n p - p)) (Int64.ofNat 1476))], A1)) rfl ?_
    refine wp_iz rfl rfl rfl (fun (h6 : (lg_cmp (rf_rw cs p (sb_re 97 122 cs n p - p)) (Int64.ofNat 1476)) ≠ (Int32.ofNat 0)) => ?_) (fun (h6 : ¬ ((lg_cmp (rf_rw cs p (sb_re 97 122 cs n p - p)) (Int64.ofNat 1476)) ≠ (Int32.ofNat 0))) => ?_)
    · skip
      have h6e : ¬ rd_is cs rd_WA p (sb_re 97 122 cs n p) = true := fun e => h6 ((lg_cmp_eq _ _).mpr (hao.1.mpr (rd_is_and.mp e)))
      refine wp_st 3 (f' := (147, [some (.ref (b)), some (.int (Int32.ofNat c)), some (.int (Int32.ofNat f)), some (.int (Int32.ofNat 1)), some (.int (Int32.ofNat 0))], [.int (Int32.ofNat 0)], A1)) rfl ?_
      refine wp_izF rfl rfl (show ¬ ((Int32.ofNat 0) ≠ (Int32.ofNat 0)) from by decide) ?_
      refine wp_st 1 (f' := (151, [some (.ref (b)), some (.int (Int32.ofNat c)), some (.int (Int32.ofNat f)), some (.int (Int32.ofNat 1)), some (.int (Int32.ofNat 0))], [.ref (b)], A1)) rfl ?_
      refine rw_gf (v := .long (rf_rw cs p (sb_re 97 122 cs n p - p))) h3 rfl rfl rfl rfl (rfl) rfl ?_
      refine wp_st 2 (f' := (158, [some (.ref (b)), some (.int (Int32.ofNat c)), some (.int (Int32.ofNat f)), some (.int (Int32.ofNat 1)), some (.int (Int32.ofNat 0))], [.int (lg_cmp (rf_rw cs p (sb_re 97 122 cs n p - p)) (498))], A1)) rfl ?_
      refine wp_iz rfl rfl rfl (fun (h7 : (lg_cmp (rf_rw cs p (sb_re 97 122 cs n p - p)) (498)) = (Int32.ofNat 0)) => ?_) (fun (h7 : ¬ ((lg_cmp (rf_rw cs p (sb_re 97 122 cs n p - p)) (498)) = (Int32.ofNat 0))) => ?_)
      · skip
        have h7e : rd_is cs rd_WO p (sb_re 97 122 cs n p) = true := rd_is_or.mpr (hao.2.mp ((lg_cmp_eq _ _).mp h7))
        refine wp_st 2 (f' := (175, [some (.ref (b)), some (.int (Int32.ofNat c)), some (.int (Int32.ofNat f)), some (.int (Int32.ofNat 1)), some (.int (Int32.ofNat 0))], [.int (Int32.ofNat 0), .ref (b)], A1)) rfl ?_
        obtain ⟨⟨o9, A9⟩, g9, q9⟩ := rq_rel (d := d - 1) (jn := false) (p := sb_re 97 122 cs n p) (S := S) (by omega) (by omega) (by omega) (by omega) (show rf_tx (s) cs n from hx) hs h3
        replace q9 : rq_Q A1 b (s) n (ru_rel cs n true (sb_re 97 122 cs n p) S) (o9, A9) := q9
        rcases hrl : ru_rel cs n true (sb_re 97 122 cs n p) S with e9 | ⟨a9, S9⟩
        · skip
          rw [hrl] at q9
          obtain ⟨q0, t9, p9, r9, g0, k9, q1, q2, q2b, q3, q4, q5⟩ := q9
          dsimp only at q0
          subst q0
          have hx9 := q4.tx (show rf_tx (s) cs n from hx)
          have her := ru_rel_er (by omega) hrl
          have hF9 := f5.trans q5
          refine wp_cv (A' := A9) (v := none) rfl rfl rfl rfl rfl (show _ from h3.1) (by omega) (g9) rfl ?_
          show am_wp d 149 (178, [some (.ref (b)), some (.int (Int32.ofNat c)), some (.int (Int32.ofNat f)), some (.int (Int32.ofNat 1)), some (.int (Int32.ofNat 0))], [], A9) _
          refine wp_st 1 (f' := (179, [some (.ref (b)), some (.int (Int32.ofNat c)), some (.int (Int32.ofNat f)), some (.int (Int32.ofNat 1)), some (.int (Int32.ofNat 0))], [.ref (b)], A9)) rfl ?_
          refine rw_gf (v := .int (Int32.ofNat e9)) q1 rfl rfl rfl rfl (rfl) rfl ?_
          refine wp_izT rfl rfl (show Int32.ofNat 0 ≤ (Int32.ofNat e9) from Int32.not_lt.mp (Int32.ofNat_not_neg (by omega))) ?_
          refine wp_st 2 (f' := (205, [some (.ref (b)), some (.int (Int32.ofNat c)), some (.int (Int32.ofNat f)), some (.int (Int32.ofNat 0)), some (.int (Int32.ofNat 0))], [], A9)) rfl ?_
          refine wp_gt rfl (show am_tgt 205 (-94) = 111 by decide +kernel) ?_
          refine wp_st 1 (f' := (112, [some (.ref (b)), some (.int (Int32.ofNat c)), some (.int (Int32.ofNat f)), some (.int (Int32.ofNat 0)), some (.int (Int32.ofNat 0))], [.int (Int32.ofNat 0)], A9)) rfl ?_
          refine wp_izT rfl (show am_tgt 112 (96) = 208 by decide +kernel) (show (Int32.ofNat 0) = (Int32.ofNat 0) from by decide) ?_
          refine wp_st 1 (f' := (209, [some (.ref (b)), some (.int (Int32.ofNat c)), some (.int (Int32.ofNat f)), some (.int (Int32.ofNat 0)), some (.int (Int32.ofNat 0))], [.ref (b)], A9)) rfl ?_
          refine rw_gr q1 rfl rfl rfl rfl rfl rfl ?_
          refine wp_st 3 (f' := (216, [some (.ref (b)), some (.int (Int32.ofNat c)), some (.int (Int32.ofNat f)), some (.int (Int32.ofNat 0)), some (.int (Int32.ofNat 0))], [.int ((Int32.ofNat 16) + (Int32.ofNat c)), .ref (b + 20)], A9)) rfl ?_
          rw [i32_add (16) (c)]
          refine wp_st 1 (f' := (217, [some (.ref (b)), some (.int (Int32.ofNat c)), some (.int (Int32.ofNat f)), some (.int (Int32.ofNat 0)), some (.int (Int32.ofNat 0))], [.ref (b), .int (Int32.ofNat (16 + c)), .ref (b + 20)], A9)) rfl ?_
          refine rw_gf (v := .int (Int32.ofNat k9)) q1 rfl rfl rfl rfl (q2) rfl ?_
          refine wp_st 2 (f' := (222, [some (.ref (b)), some (.int (Int32.ofNat c)), some (.int (Int32.ofNat f)), some (.int (Int32.ofNat 0)), some (.int (Int32.ofNat 0))], [.int ((Int32.ofNat k9) - (Int32.ofNat f)), .int (Int32.ofNat (16 + c)), .ref (b + 20)], A9)) rfl ?_
          refine rw_as (j := 31) (n := 16 + c) (v := .int ((Int32.ofNat k9) - (Int32.ofNat f))) q1 rfl rfl rfl (Or.inl ⟨rfl, rfl, rfl⟩) (show _ < 24 from by omega) rfl rfl (fun A8 h9 f10 => ?_)
          have f11 := hF9.trans f10
          rw [rf_c_u (by decide)] at h9
          refine wp_rt rfl rfl rfl ?_
          have hres : ru_ct cs n (k + 1) p S = .error e9 := by rw [ru_ct, if_neg hnl]; simp only [h6e, h7e, Bool.false_eq_true, ↓reduceIte, ru_cond_ct, hrl]
          rw [hres]
          exact rq_U_er h9 (by omega) (q4.Y.u (by unfold rs_su rs_sc; omega)) f11
        · skip
          rw [hrl] at q9
          obtain ⟨q0, t9, r9, g0, q1, q2, q4, q5⟩ := q9
          dsimp only at q0 q1 q2
          subst q0
          have hx9 := q4.tx (show rf_tx (s) cs n from hx)
          have hle := ru_rel_le (by omega) hrl
          have hle1 := hle.1
          unfold ru_le at hle1
          have hfe := ru_rel_fe hrl
          have hF9 := f5.trans q5
          refine wp_cv (A' := A9) (v := none) rfl rfl rfl rfl rfl (show _ from h3.1) (by omega) (g9) rfl ?_
          show am_wp d 149 (178, [some (.ref (b)), some (.int (Int32.ofNat c)), some (.int (Int32.ofNat f)), some (.int (Int32.ofNat 1)), some (.int (Int32.ofNat 0))], [], A9) _
          refine wp_st 1 (f' := (179, [some (.ref (b)), some (.int (Int32.ofNat c)), some (.int (Int32.ofNat f)), some (.int (Int32.ofNat 1)), some (.int (Int32.ofNat 0))], [.ref (b)], A9)) rfl ?_
          refine rw_gf (v := .int ((-1))) q1 rfl rfl rfl rfl (rfl) rfl ?_
          refine wp_izF rfl rfl (show ¬ ((Int32.ofNat 0) ≤ (-1 : Int32)) from by decide) ?_
          refine wp_st 2 (f' := (187, [some (.ref (b)), some (.int (Int32.ofNat c)), some (.int (Int32.ofNat f)), some (.int (Int32.ofNat 1)), some (.int (Int32.ofNat 0))], [.ref (b), .ref (b)], A9)) rfl ?_
          refine rw_gf (v := .int (Int32.ofNat a9)) q1 rfl rfl rfl rfl (rfl) rfl ?_
          have l12 := hlk (a9)
          refine wp_cv (A' := A9) (v := some (.int (Int32.ofNat (sb_lk cs n a9)))) rfl rfl rfl rfl rfl (show _ from q1.1) (by omega) (rr_look (by omega) (show rf_tx (t9) cs n from hx9) q1) rfl ?_
          show am_wp d 149 (193, [some (.ref (b)), some (.int (Int32.ofNat c)), some (.int (Int32.ofNat f)), some (.int (Int32.ofNat 1)), some (.int (Int32.ofNat 0))], [.int (Int32.ofNat (sb_lk cs n a9))], A9) _
          by_cases q13 : sb_re 97 122 cs n a9 = a9
          · skip
            refine wp_cs (n := 0) (A' := A9) (v := some (.int (Int32.ofNat 0))) rfl rfl rfl (by omega) ((show am_go (d - 1) 131 [.int (Int32.ofNat (sb_lk cs n a9))] A9 (.inl (some (.int (Int32.ofNat 0))), A9) from by have e := lt_go (d := d - 1) (x := Int32.ofNat (sb_lk cs n a9)) (A := A9); rw [sb_lt_f (by omega) (by omega) (by omega) q13 (hlk _)] at e; exact e)) rfl ?_
            show am_wp d 149 (196, [some (.ref (b)), some (.int (Int32.ofNat c)), some (.int (Int32.ofNat f)), some (.int (Int32.ofNat 1)), some (.int (Int32.ofNat 0))], [.int (Int32.ofNat 0)], A9) _
            refine wp_izT rfl rfl (show (Int32.ofNat 0) = (Int32.ofNat 0) from by decide) ?_
            refine wp_st 2 (f' := (205, [some (.ref (b)), some (.int (Int32.ofNat c)), some (.int (Int32.ofNat f)), some (.int (Int32.ofNat 0)), some (.int (Int32.ofNat 0))], [], A9)) rfl ?_
            refine wp_gt rfl (show am_tgt 205 (-94) = 111 by decide +kernel) ?_
            refine wp_st 1 (f' := (112, [some (.ref (b)), some (.int (Int32.ofNat c)), some (.int (Int32.ofNat f)), some (.int (Int32.ofNat 0)), some (.int (Int32.ofNat 0))], [.int (Int32.ofNat 0)], A9)) rfl ?_
            refine wp_izT rfl (show am_tgt 112 (96) = 208 by decide +kernel) (show (Int32.ofNat 0) = (Int32.ofNat 0) from by decide) ?_
            refine wp_st 1 (f' := (209, [some (.ref (b)), some (.int (Int32.ofNat c)), some (.int (Int32.ofNat f)), some (.int (Int32.ofNat 0)), some (.int (Int32.ofNat 0))], [.ref (b)], A9)) rfl ?_
            refine rw_gr q1 rfl rfl rfl rfl rfl rfl ?_
            refine wp_st 3 (f' := (216, [some (.ref (b)), some (.int (Int32.ofNat c)), some (.int (Int32.ofNat f)), some (.int (Int32.ofNat 0)), some (.int (Int32.ofNat 0))], [.int ((Int32.ofNat 16) + (Int32.ofNat c)), .ref (b + 20)], A9)) rfl ?_
            rw [i32_add (16) (c)]
            refine wp_st 1 (f' := (217, [some (.ref (b)), some (.int (Int32.ofNat c)), some (.int (Int32.ofNat f)), some (.int (Int32.ofNat 0)), some (.int (Int32.ofNat 0))], [.ref (b), .int (Int32.ofNat (16 + c)), .ref (b + 20)], A9)) rfl ?_
            refine rw_gf (v := .int (Int32.ofNat (rg_R S9))) q1 rfl rfl rfl rfl (q2.1) rfl ?_
            refine wp_st 2 (f' := (222, [some (.ref (b)), some (.int (Int32.ofNat c)), some (.int (Int32.ofNat f)), some (.int (Int32.ofNat 0)), some (.int (Int32.ofNat 0))], [.int ((Int32.ofNat (rg_R S9)) - (Int32.ofNat f)), .int (Int32.ofNat (16 + c)), .ref (b + 20)], A9)) rfl ?_
            rw [i32_sub (a := rg_R S9) (b := f) (by omega)]
            refine rw_as (j := 31) (n := 16 + c) (v := .int (Int32.ofNat ((rg_R S9) - f))) q1 rfl rfl rfl (Or.inl ⟨rfl, rfl, rfl⟩) (show _ < 24 from by omega) rfl rfl (fun A14 h15 f16 => ?_)
            have f17 := hF9.trans f16
            rw [rf_c_u (by decide)] at h15
            refine wp_rt rfl rfl rfl ?_
            have hres : ru_ct cs n (k + 1) p S = .ok (a9, S9) := by rw [ru_ct, if_neg hnl]; simp only [h6e, h7e, Bool.false_eq_true, ↓reduceIte, ru_cond_ct, hrl]; rw [ru_ct, if_pos q13]
            rw [hres]
            exact rq_U_ok h15 (q2.close ((q4 30 (16 + c) (by unfold rs_sc; omega)).trans h30) (by omega)) (q4.Y.u (by unfold rs_su rs_sc; omega)) f17
          · skip
            refine wp_cs (n := 0) (A' := A9) (v := some (.int (Int32.ofNat 1))) rfl rfl rfl (by omega) ((show am_go (d - 1) 131 [.int (Int32.ofNat (sb_lk cs n a9))] A9 (.inl (some (.int (Int32.ofNat 1))), A9) from by have e := lt_go (d := d - 1) (x := Int32.ofNat (sb_lk cs n a9)) (A := A9); rw [sb_lt_t (by omega) q13] at e; exact e)) rfl ?_
            show am_wp d 149 (196, [some (.ref (b)), some (.int (Int32.ofNat c)), some (.int (Int32.ofNat f)), some (.int (Int32.ofNat 1)), some (.int (Int32.ofNat 0))], [.int (Int32.ofNat 1)], A9) _
            refine wp_izF rfl rfl (show ¬ ((Int32.ofNat 1) = (Int32.ofNat 0)) from by decide) ?_
            refine wp_st 3 (f' := (205, [some (.ref (b)), some (.int (Int32.ofNat c)), some (.int (Int32.ofNat f)), some (.int (Int32.ofNat 1)), some (.int (Int32.ofNat 0))], [], A9)) rfl ?_
            refine wp_gt rfl (show am_tgt 205 (-94) = 111 by decide +kernel) ?_
            have hres : ru_ct cs n (k + 1) p S = ru_ct cs n k a9 S9 := by rw [ru_ct, if_neg hnl]; simp only [h6e, h7e, Bool.false_eq_true, ↓reduceIte, ru_cond_ct, hrl]
            rw [hres]
            obtain ⟨z, z1, z2⟩ := ih a9 _ _ S9 _ _ (some (.int (Int32.ofNat 0))) (by omega) (by omega) (by omega) (by omega) hx9 q2 ((q4 30 (16 + c) (by unfold rs_sc; omega)).trans h30) (by omega) ((rg_hr_fe hfe).trans hhr) q13 q1
            exact ⟨z, z1, z2.tr q4.Y hF9⟩
      · skip
        have h7e : ¬ rd_is cs rd_WO p (sb_re 97 122 cs n p) = true := fun e => h7 ((lg_cmp_eq _ _).mpr (hao.2.mpr (rd_is_or.mp e)))
        refine wp_st 2 (f' := (163, [some (.ref (b)), some (.int (Int32.ofNat c)), some (.int (Int32.ofNat f)), some (.int (Int32.ofNat 1)), some (.int (Int32.ofNat 0))], [.ref (b), .ref (b)], A1)) rfl ?_
        refine rw_gf (v := .int (Int32.ofNat p)) h3 rfl rfl rfl rfl (rfl) rfl ?_
        obtain ⟨A18, g19, h20, f21⟩ := (show rf_go _ _ _ _ _ _ (rf_c s (sb_re 97 122 cs n p) (Int32.ofNat p) (rf_rw cs p (sb_re 97 122 cs n p - p)) p) from by have e := rr_fail (d := d - 1) (x := p) h3; rw [rf_w_m] at e; exact e)
        have f22 := f5.trans f21
        refine wp_cv (A' := A18) (v := none) rfl rfl rfl rfl rfl (show _ from h3.1) (by omega) (g19) rfl ?_
        show am_wp d 149 (169, [some (.ref (b)), some (.int (Int32.ofNat c)), some (.int (Int32.ofNat f)), some (.int (Int32.ofNat 1)), some (.int (Int32.ofNat 0))], [], A18) _
        refine wp_st 2 (f' := (179, [some (.ref (b)), some (.int (Int32.ofNat c)), some (.int (Int32.ofNat f)), some (.int (Int32.ofNat 1)), some (.int (Int32.ofNat 0))], [.ref (b)], A18)) rfl ?_
        refine rw_gf (v := .int (Int32.ofNat p)) h20 rfl rfl rfl rfl (rfl) rfl ?_
        refine wp_izT rfl rfl (show Int32.ofNat 0 ≤ (Int32.ofNat p) from Int32.not_lt.mp (Int32.ofNat_not_neg (by omega))) ?_
        refine wp_st 2 (f' := (205, [some (.ref (b)), some (.int (Int32.ofNat c)), some (.int (Int32.ofNat f)), some (.int (Int32.ofNat 0)), some (.int (Int32.ofNat 0))], [], A18)) rfl ?_
        refine wp_gt rfl (show am_tgt 205 (-94) = 111 by decide +kernel) ?_
        refine wp_st 1 (f' := (112, [some (.ref (b)), some (.int (Int32.ofNat c)), some (.int (Int32.ofNat f)), some (.int (Int32.ofNat 0)), some (.int (Int32.ofNat 0))], [.int (Int32.ofNat 0)], A18)) rfl ?_
        refine wp_izT rfl (show am_tgt 112 (96) = 208 by decide +kernel) (show (Int32.ofNat 0) = (Int32.ofNat 0) from by decide) ?_
        refine wp_st 1 (f' := (209, [some (.ref (b)), some (.int (Int32.ofNat c)), some (.int (Int32.ofNat f)), some (.int (Int32.ofNat 0)), some (.int (Int32.ofNat 0))], [.ref (b)], A18)) rfl ?_
        refine rw_gr h20 rfl rfl rfl rfl rfl rfl ?_
        refine wp_st 3 (f' := (216, [some (.ref (b)), some (.int (Int32.ofNat c)), some (.int (Int32.ofNat f)), some (.int (Int32.ofNat 0)), some (.int (Int32.ofNat 0))], [.int ((Int32.ofNat 16) + (Int32.ofNat c)), .ref (b + 20)], A18)) rfl ?_
        rw [i32_add (16) (c)]
        refine wp_st 1 (f' := (217, [some (.ref (b)), some (.int (Int32.ofNat c)), some (.int (Int32.ofNat f)), some (.int (Int32.ofNat 0)), some (.int (Int32.ofNat 0))], [.ref (b), .int (Int32.ofNat (16 + c)), .ref (b + 20)], A18)) rfl ?_
        refine rw_gf (v := .int (Int32.ofNat (rg_R S))) h20 rfl rfl rfl rfl (hs.1) rfl ?_
        refine wp_st 2 (f' := (222, [some (.ref (b)), some (.int (Int32.ofNat c)), some (.int (Int32.ofNat f)), some (.int (Int32.ofNat 0)), some (.int (Int32.ofNat 0))], [.int ((Int32.ofNat (rg_R S)) - (Int32.ofNat f)), .int (Int32.ofNat (16 + c)), .ref (b + 20)], A18)) rfl ?_
        refine rw_as (j := 31) (n := 16 + c) (v := .int ((Int32.ofNat (rg_R S)) - (Int32.ofNat f))) h20 rfl rfl rfl (Or.inl ⟨rfl, rfl, rfl⟩) (show _ < 24 from by omega) rfl rfl (fun A23 h24 f25 => ?_)
        have f26 := f22.trans f25
        rw [rf_c_u (by decide)] at h24
        refine wp_rt rfl rfl rfl ?_
        have hres : ru_ct cs n (k + 1) p S = .error p := by rw [ru_ct, if_neg hnl]; simp only [h6e, h7e, Bool.false_eq_true, ↓reduceIte]; try rfl
        rw [hres]
        exact rq_U_er h24 (by omega) ((rs_Y.refl s).u (by unfold rs_su rs_sc; omega)) f26
    · skip
      replace h6 := Decidable.not_not.mp h6
      have h6e : rd_is cs rd_WA p (sb_re 97 122 cs n p) = true := rd_is_and.mpr (hao.1.mp ((lg_cmp_eq _ _).mp h6))
      have h6o : ¬ rd_is cs rd_WO p (sb_re 97 122 cs n p) = true := fun e => by have e1 := rd_is_or.mp e; have e2 := rd_is_and.mp h6e; omega
      refine wp_st 4 (f' := (147, [some (.ref (b)), some (.int (Int32.ofNat c)), some (.int (Int32.ofNat f)), some (.int (Int32.ofNat 1)), some (.int (Int32.ofNat 1))], [.int (Int32.ofNat 1)], A1)) rfl ?_
      refine wp_izT rfl rfl (show (Int32.ofNat 1) ≠ (Int32.ofNat 0) from by decide) ?_
      refine wp_st 2 (f' := (175, [some (.ref (b)), some (.int (Int32.ofNat c)), some (.int (Int32.ofNat f)), some (.int (Int32.ofNat 1)), some (.int (Int32.ofNat 1))], [.int (Int32.ofNat 1), .ref (b)], A1)) rfl ?_
      obtain ⟨⟨o9, A9⟩, g9, q9⟩ := rq_rel (d := d - 1) (jn := true) (p := sb_re 97 122 cs n p) (S := S) (by omega) (by omega) (by omega) (by omega) (show rf_tx (s) cs n from hx) hs h3
      replace q9 : rq_Q A1 b (s) n (ru_rel cs n false (sb_re 97 122 cs n p) S) (o9, A9) := q9
      rcases hrl : ru_rel cs n false (sb_re 97 122 cs n p) S with e9 | ⟨a9, S9⟩
      · skip
        rw [hrl] at q9
        obtain ⟨q0, t9, p9, r9, g0, k9, q1, q2, q2b, q3, q4, q5⟩ := q9
        dsimp only at q0
        subst q0
        have hx9 := q4.tx (show rf_tx (s) cs n from hx)
        have her := ru_rel_er (by omega) hrl
        have hF9 := f5.trans q5
        refine wp_cv (A' := A9) (v := none) rfl rfl rfl rfl rfl (show _ from h3.1) (by omega) (g9) rfl ?_
        show am_wp d 149 (178, [some (.ref (b)), some (.int (Int32.ofNat c)), some (.int (Int32.ofNat f)), some (.int (Int32.ofNat 1)), some (.int (Int32.ofNat 1))], [], A9) _
        refine wp_st 1 (f' := (179, [some (.ref (b)), some (.int (Int32.ofNat c)), some (.int (Int32.ofNat f)), some (.int (Int32.ofNat 1)), some (.int (Int32.ofNat 1))], [.ref (b)], A9)) rfl ?_
        refine rw_gf (v := .int (Int32.ofNat e9)) q1 rfl rfl rfl rfl (rfl) rfl ?_
        refine wp_izT rfl rfl (show Int32.ofNat 0 ≤ (Int32.ofNat e9) from Int32.not_lt.mp (Int32.ofNat_not_neg (by omega))) ?_
        refine wp_st 2 (f' := (205, [some (.ref (b)), some (.int (Int32.ofNat c)), some (.int (Int32.ofNat f)), some (.int (Int32.ofNat 0)), some (.int (Int32.ofNat 1))], [], A9)) rfl ?_
        refine wp_gt rfl (show am_tgt 205 (-94) = 111 by decide +kernel) ?_
        refine wp_st 1 (f' := (112, [some (.ref (b)), some (.int (Int32.ofNat c)), some (.int (Int32.ofNat f)), some (.int (Int32.ofNat 0)), some (.int (Int32.ofNat 1))], [.int (Int32.ofNat 0)], A9)) rfl ?_
        refine wp_izT rfl (show am_tgt 112 (96) = 208 by decide +kernel) (show (Int32.ofNat 0) = (Int32.ofNat 0) from by decide) ?_
        refine wp_st 1 (f' := (209, [some (.ref (b)), some (.int (Int32.ofNat c)), some (.int (Int32.ofNat f)), some (.int (Int32.ofNat 0)), some (.int (Int32.ofNat 1))], [.ref (b)], A9)) rfl ?_
        refine rw_gr q1 rfl rfl rfl rfl rfl rfl ?_
        refine wp_st 3 (f' := (216, [some (.ref (b)), some (.int (Int32.ofNat c)), some (.int (Int32.ofNat f)), some (.int (Int32.ofNat 0)), some (.int (Int32.ofNat 1))], [.int ((Int32.ofNat 16) + (Int32.ofNat c)), .ref (b + 20)], A9)) rfl ?_
        rw [i32_add (16) (c)]
        refine wp_st 1 (f' := (217, [some (.ref (b)), some (.int (Int32.ofNat c)), some (.int (Int32.ofNat f)), some (.int (Int32.ofNat 0)), some (.int (Int32.ofNat 1))], [.ref (b), .int (Int32.ofNat (16 + c)), .ref (b + 20)], A9)) rfl ?_
        refine rw_gf (v := .int (Int32.ofNat k9)) q1 rfl rfl rfl rfl (q2) rfl ?_
        refine wp_st 2 (f' := (222, [some (.ref (b)), some (.int (Int32.ofNat c)), some (.int (Int32.ofNat f)), some (.int (Int32.ofNat 0)), some (.int (Int32.ofNat 1))], [.int ((Int32.ofNat k9) - (Int32.ofNat f)), .int (Int32.ofNat (16 + c)), .ref (b + 20)], A9)) rfl ?_
        refine rw_as (j := 31) (n := 16 + c) (v := .int ((Int32.ofNat k9) - (Int32.ofNat f))) q1 rfl rfl rfl (Or.inl ⟨rfl, rfl, rfl⟩) (show _ < 24 from by omega) rfl rfl (fun A27 h28 f29 => ?_)
        have f30 := hF9.trans f29
        rw [rf_c_u (by decide)] at h28
        refine wp_rt rfl rfl rfl ?_
        have hres : ru_ct cs n (k + 1) p S = .error e9 := by rw [ru_ct, if_neg hnl]; simp only [h6e, h6o, Bool.false_eq_true, ↓reduceIte, ru_cond_ct, hrl]
        rw [hres]
        exact rq_U_er h28 (by omega) (q4.Y.u (by unfold rs_su rs_sc; omega)) f30
      · skip
        rw [hrl] at q9
        obtain ⟨q0, t9, r9, g0, q1, q2, q4, q5⟩ := q9
        dsimp only at q0 q1 q2
        subst q0
        have hx9 := q4.tx (show rf_tx (s) cs n from hx)
        have hle := ru_rel_le (by omega) hrl
        have hle1 := hle.1
        unfold ru_le at hle1
        have hfe := ru_rel_fe hrl
        have hF9 := f5.trans q5
        refine wp_cv (A' := A9) (v := none) rfl rfl rfl rfl rfl (show _ from h3.1) (by omega) (g9) rfl ?_
        show am_wp d 149 (178, [some (.ref (b)), some (.int (Int32.ofNat c)), some (.int (Int32.ofNat f)), some (.int (Int32.ofNat 1)), some (.int (Int32.ofNat 1))], [], A9) _
        refine wp_st 1 (f' := (179, [some (.ref (b)), some (.int (Int32.ofNat c)), some (.int (Int32.ofNat f)), some (.int (Int32.ofNat 1)), some (.int (Int32.ofNat 1))], [.ref (b)], A9)) rfl ?_
        refine rw_gf (v := .int ((-1))) q1 rfl rfl rfl rfl (rfl) rfl ?_
        refine wp_izF rfl rfl (show ¬ ((Int32.ofNat 0) ≤ (-1 : Int32)) from by decide) ?_
        refine wp_st 2 (f' := (187, [some (.ref (b)), some (.int (Int32.ofNat c)), some (.int (Int32.ofNat f)), some (.int (Int32.ofNat 1)), some (.int (Int32.ofNat 1))], [.ref (b), .ref (b)], A9)) rfl ?_
        refine rw_gf (v := .int (Int32.ofNat a9)) q1 rfl rfl rfl rfl (rfl) rfl ?_
        have l31 := hlk (a9)
        refine wp_cv (A' := A9) (v := some (.int (Int32.ofNat (sb_lk cs n a9)))) rfl rfl rfl rfl rfl (show _ from q1.1) (by omega) (rr_look (by omega) (show rf_tx (t9) cs n from hx9) q1) rfl ?_
        show am_wp d 149 (193, [some (.ref (b)), some (.int (Int32.ofNat c)), some (.int (Int32.ofNat f)), some (.int (Int32.ofNat 1)), some (.int (Int32.ofNat 1))], [.int (Int32.ofNat (sb_lk cs n a9))], A9) _
        by_cases q32 : sb_re 97 122 cs n a9 = a9
        · skip
          refine wp_cs (n := 0) (A' := A9) (v := some (.int (Int32.ofNat 0))) rfl rfl rfl (by omega) ((show am_go (d - 1) 131 [.int (Int32.ofNat (sb_lk cs n a9))] A9 (.inl (some (.int (Int32.ofNat 0))), A9) from by have e := lt_go (d := d - 1) (x := Int32.ofNat (sb_lk cs n a9)) (A := A9); rw [sb_lt_f (by omega) (by omega) (by omega) q32 (hlk _)] at e; exact e)) rfl ?_
          show am_wp d 149 (196, [some (.ref (b)), some (.int (Int32.ofNat c)), some (.int (Int32.ofNat f)), some (.int (Int32.ofNat 1)), some (.int (Int32.ofNat 1))], [.int (Int32.ofNat 0)], A9) _
          refine wp_izT rfl rfl (show (Int32.ofNat 0) = (Int32.ofNat 0) from by decide) ?_
          refine wp_st 2 (f' := (205, [some (.ref (b)), some (.int (Int32.ofNat c)), some (.int (Int32.ofNat f)), some (.int (Int32.ofNat 0)), some (.int (Int32.ofNat 1))], [], A9)) rfl ?_
          refine wp_gt rfl (show am_tgt 205 (-94) = 111 by decide +kernel) ?_
          refine wp_st 1 (f' := (112, [some (.ref (b)), some (.int (Int32.ofNat c)), some (.int (Int32.ofNat f)), some (.int (Int32.ofNat 0)), some (.int (Int32.ofNat 1))], [.int (Int32.ofNat 0)], A9)) rfl ?_
          refine wp_izT rfl (show am_tgt 112 (96) = 208 by decide +kernel) (show (Int32.ofNat 0) = (Int32.ofNat 0) from by decide) ?_
          refine wp_st 1 (f' := (209, [some (.ref (b)), some (.int (Int32.ofNat c)), some (.int (Int32.ofNat f)), some (.int (Int32.ofNat 0)), some (.int (Int32.ofNat 1))], [.ref (b)], A9)) rfl ?_
          refine rw_gr q1 rfl rfl rfl rfl rfl rfl ?_
          refine wp_st 3 (f' := (216, [some (.ref (b)), some (.int (Int32.ofNat c)), some (.int (Int32.ofNat f)), some (.int (Int32.ofNat 0)), some (.int (Int32.ofNat 1))], [.int ((Int32.ofNat 16) + (Int32.ofNat c)), .ref (b + 20)], A9)) rfl ?_
          rw [i32_add (16) (c)]
          refine wp_st 1 (f' := (217, [some (.ref (b)), some (.int (Int32.ofNat c)), some (.int (Int32.ofNat f)), some (.int (Int32.ofNat 0)), some (.int (Int32.ofNat 1))], [.ref (b), .int (Int32.ofNat (16 + c)), .ref (b + 20)], A9)) rfl ?_
          refine rw_gf (v := .int (Int32.ofNat (rg_R S9))) q1 rfl rfl rfl rfl (q2.1) rfl ?_
          refine wp_st 2 (f' := (222, [some (.ref (b)), some (.int (Int32.ofNat c)), some (.int (Int32.ofNat f)), some (.int (Int32.ofNat 0)), some (.int (Int32.ofNat 1))], [.int ((Int32.ofNat (rg_R S9)) - (Int32.ofNat f)), .int (Int32.ofNat (16 + c)), .ref (b + 20)], A9)) rfl ?_
          rw [i32_sub (a := rg_R S9) (b := f) (by omega)]
          refine rw_as (j := 31) (n := 16 + c) (v := .int (Int32.ofNat ((rg_R S9) - f))) q1 rfl rfl rfl (Or.inl ⟨rfl, rfl, rfl⟩) (show _ < 24 from by omega) rfl rfl (fun A33 h34 f35 => ?_)
          have f36 := hF9.trans f35
          rw [rf_c_u (by decide)] at h34
          refine wp_rt rfl rfl rfl ?_
          have hres : ru_ct cs n (k + 1) p S = .ok (a9, S9) := by rw [ru_ct, if_neg hnl]; simp only [h6e, h6o, Bool.false_eq_true, ↓reduceIte, ru_cond_ct, hrl]; rw [ru_ct, if_pos q32]
          rw [hres]
          exact rq_U_ok h34 (q2.close ((q4 30 (16 + c) (by unfold rs_sc; omega)).trans h30) (by omega)) (q4.Y.u (by unfold rs_su rs_sc; omega)) f36
        · skip
          refine wp_cs (n := 0) (A' := A9) (v := some (.int (Int32.ofNat 1))) rfl rfl rfl (by omega) ((show am_go (d - 1) 131 [.int (Int32.ofNat (sb_lk cs n a9))] A9 (.inl (some (.int (Int32.ofNat 1))), A9) from by have e := lt_go (d := d - 1) (x := Int32.ofNat (sb_lk cs n a9)) (A := A9); rw [sb_lt_t (by omega) q32] at e; exact e)) rfl ?_
          show am_wp d 149 (196, [some (.ref (b)), some (.int (Int32.ofNat c)), some (.int (Int32.ofNat f)), some (.int (Int32.ofNat 1)), some (.int (Int32.ofNat 1))], [.int (Int32.ofNat 1)], A9) _
          refine wp_izF rfl rfl (show ¬ ((Int32.ofNat 1) = (Int32.ofNat 0)) from by decide) ?_
          refine wp_st 3 (f' := (205, [some (.ref (b)), some (.int (Int32.ofNat c)), some (.int (Int32.ofNat f)), some (.int (Int32.ofNat 1)), some (.int (Int32.ofNat 1))], [], A9)) rfl ?_
          refine wp_gt rfl (show am_tgt 205 (-94) = 111 by decide +kernel) ?_
          have hres : ru_ct cs n (k + 1) p S = ru_ct cs n k a9 S9 := by rw [ru_ct, if_neg hnl]; simp only [h6e, h6o, Bool.false_eq_true, ↓reduceIte, ru_cond_ct, hrl]
          rw [hres]
          obtain ⟨z, z1, z2⟩ := ih a9 _ _ S9 _ _ (some (.int (Int32.ofNat 1))) (by omega) (by omega) (by omega) (by omega) hx9 q2 ((q4 30 (16 + c) (by unfold rs_sc; omega)).trans h30) (by omega) ((rg_hr_fe hfe).trans hhr) q32 q1
          exact ⟨z, z1, z2.tr q4.Y hF9⟩
theorem rq_rule {d b n p g : Nat} {r : Int64} {cs : List Nat} {S : rg} {s : rf_S} {A : am_H} (hd : 4 ≤ d) (hp : p ≤ n) (hR : 3 * rg_R S ≤ p) (hG : 2 * rg_G S ≤ p) (hc128 : ∀ j, cs.getD j 0 < 128) (hx : rf_tx s cs n) (hs : rs_S s S) (h : rf A b (rf_c s p (-1) r g)) : am_wp d 149 (0, am_ent 149 [.ref b], [], A) (rq_U A b s n (ru_rule cs n p S)) := by
  have hn1 := hx.2.2.1
  have hlk : ∀ k, sb_lk cs n k < 128 := by
    intro k
    unfold sb_lk
    split
    · have := hx.2.2.2 k (by omega)
      omega
    · omega
  refine wp_st 1 (f' := (1, [some (.ref (b)), none, none, none, none], [.ref (b)], A)) rfl ?_
  have k1 := rd_sk_gt (cs := cs) (n := n) (a := p)
  obtain ⟨A2, g3, h4, f5⟩ := (show rf_go (d - 1) 129 [.ref b] A b none (rf_c s (rd_sk cs n p) (-1) r g) from rr_spaces (d := d - 1) (by omega) (by omega) (show rf_tx (s) cs n from hx) h)
  have f6 := (sb_fr.refl A b (b + 38)).trans f5
  refine wp_cv (A' := A2) (v := none) rfl rfl rfl rfl rfl (show _ from h.1) (by omega) (g3) rfl ?_
  show am_wp d 149 (4, [some (.ref (b)), none, none, none, none], [], A2) _
  refine wp_st 2 (f' := (7, [some (.ref (b)), none, none, none, none], [.int (Int32.ofNat 120), .ref (b)], A2)) rfl ?_
  have huk := sb_re_le (lo := 97) (hi := 122) (cs := cs) (n := n) (a := rd_sk cs n p)
  have huj := huk.2.1 (by omega)
  obtain ⟨a1, ha1⟩ : ∃ a, a = rd_sk cs n p := ⟨_, rfl⟩
  obtain ⟨k9, hk9⟩ : ∃ k, k = sb_re 97 122 cs n (rd_sk cs n p) - (rd_sk cs n p) := ⟨_, rfl⟩
  by_cases hu : sb_re 97 122 cs n (rd_sk cs n p) = rd_sk cs n p
  · skip
    have hcat : ru_cat cs n (rd_sk cs n p) S = .error (rd_sk cs n p) := ru_cat_0 hu
    obtain ⟨A7, g8, h9, f10⟩ := (show rf_go _ _ _ _ _ _ (rf_c s (sb_re 97 122 cs n (rd_sk cs n p)) (Int32.ofNat (rd_sk cs n p)) (rf_rw cs (rd_sk cs n p) (sb_re 97 122 cs n (rd_sk cs n p) - (rd_sk cs n p))) (rd_sk cs n p)) from by have q := rr_let (d := d - 1) (many := 120) (by omega) (by omega) (by omega) (show rf_tx (s) cs n from hx) h4; rw [rf_let_er hu] at q; exact q)
    have f11 := f6.trans f10
    refine wp_cv (A' := A7) (v := none) rfl rfl rfl rfl rfl (show _ from h4.1) (by omega) (g8) rfl ?_
    show am_wp d 149 (10, [some (.ref (b)), none, none, none, none], [], A7) _
    refine wp_st 1 (f' := (11, [some (.ref (b)), none, none, none, none], [.ref (b)], A7)) rfl ?_
    have hrh : rf_rh (rf_rw cs (rd_sk cs n p) (sb_re 97 122 cs n (rd_sk cs n p) - (rd_sk cs n p))) = none := by rw [hu, Nat.sub_self, rf_rw_0]; decide
    refine wp_cv (A' := A7) (v := some (.int ((-1)))) rfl rfl rfl rfl rfl (show _ from h9.1) (by omega) (by have e := rn_rh (d := d - 1) (by omega) h9; rw [hrh] at e; exact e) rfl ?_
    show am_wp d 149 (14, [some (.ref (b)), none, none, none, none], [.int ((-1))], A7) _
    refine wp_st 2 (f' := (16, [some (.ref (b)), some (.int ((-1))), none, none, none], [.int ((-1))], A7)) rfl ?_
    refine wp_izT rfl rfl (show (-1 : Int32) < Int32.ofNat 0 from by decide) ?_
    refine wp_st 2 (f' := (33, [some (.ref (b)), some (.int ((-1))), none, none, none], [.ref (b), .ref (b)], A7)) rfl ?_
    refine rw_gf (v := .int (Int32.ofNat (rd_sk cs n p))) h9 rfl rfl rfl rfl (rfl) rfl ?_
    obtain ⟨A12, g13, h14, f15⟩ := (show rf_go _ _ _ _ _ _ (rf_c s (sb_re 97 122 cs n (rd_sk cs n p)) (Int32.ofNat (rd_sk cs n p)) (rf_rw cs (rd_sk cs n p) (sb_re 97 122 cs n (rd_sk cs n p) - (rd_sk cs n p))) (rd_sk cs n p)) from by have e := rr_fail (d := d - 1) (x := rd_sk cs n p) h9; rw [rf_w_n (by omega)] at e; exact e)
    have f16 := f11.trans f15
    refine wp_cv (A' := A12) (v := none) rfl rfl rfl rfl rfl (show _ from h9.1) (by omega) (g13) rfl ?_
    show am_wp d 149 (39, [some (.ref (b)), some (.int ((-1))), none, none, none], [], A12) _
    refine wp_rt rfl rfl rfl ?_
    have hres : ru_rule cs n p S = .error (rd_sk cs n p) := by rw [ru_rule]; simp only [hcat, Bool.false_eq_true, ↓reduceIte, ru_cond_ct]
    rw [hres]
    exact rq_U_er h14 (by omega) (rs_Y.refl s) f16
  · skip
    have hfc := rf_fc (S := S) (sb_ltr_re cs n (rd_sk cs n p)) hc128 (by omega)
    obtain ⟨A17, g18, h19, f20⟩ := (show rf_go _ _ _ _ _ _ (rf_c s (sb_re 97 122 cs n (rd_sk cs n p)) (-1) (rf_rw cs (rd_sk cs n p) (sb_re 97 122 cs n (rd_sk cs n p) - (rd_sk cs n p))) (rd_sk cs n p)) from by have q := rr_let (d := d - 1) (many := 120) (by omega) (by omega) (by omega) (show rf_tx (s) cs n from hx) h4; rw [rf_let_ok (by omega) (by omega) hu] at q; exact q)
    have f21 := f6.trans f20
    refine wp_cv (A' := A17) (v := none) rfl rfl rfl rfl rfl (show _ from h4.1) (by omega) (g18) rfl ?_
    show am_wp d 149 (10, [some (.ref (b)), none, none, none, none], [], A17) _
    refine wp_st 1 (f' := (11, [some (.ref (b)), none, none, none, none], [.ref (b)], A17)) rfl ?_
    rcases hrh : rf_rh (rf_rw cs (rd_sk cs n p) (sb_re 97 122 cs n (rd_sk cs n p) - (rd_sk cs n p))) with _ | c9
    · skip
      have hcat : ru_cat cs n (rd_sk cs n p) S = .error (rd_sk cs n p) := ru_cat_n (hfc.1 hrh)
      refine wp_cv (A' := A17) (v := some (.int ((-1)))) rfl rfl rfl rfl rfl (show _ from h19.1) (by omega) (by have e := rn_rh (d := d - 1) (by omega) h19; rw [hrh] at e; exact e) rfl ?_
      show am_wp d 149 (14, [some (.ref (b)), none, none, none, none], [.int ((-1))], A17) _
      refine wp_st 2 (f' := (16, [some (.ref (b)), some (.int ((-1))), none, none, none], [.int ((-1))], A17)) rfl ?_
      refine wp_izT rfl rfl (show (-1 : Int32) < Int32.ofNat 0 from by decide) ?_
      refine wp_st 2 (f' := (33, [some (.ref (b)), some (.int ((-1))), none, none, none], [.ref (b), .ref (b)], A17)) rfl ?_
      refine rw_gf (v := .int (Int32.ofNat (rd_sk cs n p))) h19 rfl rfl rfl rfl (rfl) rfl ?_
      obtain ⟨A22, g23, h24, f25⟩ := (show rf_go _ _ _ _ _ _ (rf_c s (sb_re 97 122 cs n (rd_sk cs n p)) (Int32.ofNat (rd_sk cs n p)) (rf_rw cs (rd_sk cs n p) (sb_re 97 122 cs n (rd_sk cs n p) - (rd_sk cs n p))) (rd_sk cs n p)) from by have e := rr_fail (d := d - 1) (x := rd_sk cs n p) h19; rw [rf_w_m] at e; exact e)
      have f26 := f21.trans f25
      refine wp_cv (A' := A22) (v := none) rfl rfl rfl rfl rfl (show _ from h19.1) (by omega) (g23) rfl ?_
      show am_wp d 149 (39, [some (.ref (b)), some (.int ((-1))), none, none, none], [], A22) _
      refine wp_rt rfl rfl rfl ?_
      have hres : ru_rule cs n p S = .error (rd_sk cs n p) := by rw [ru_rule]; simp only [hcat, Bool.false_eq_true, ↓reduceIte, ru_cond_ct]
      rw [hres]
      exact rq_U_er h24 (by omega) (rs_Y.refl s) f26
    · skip
      have hc9 := hfc.2 c9 hrh
      have hc95 : c9 < 5 := hc9.2.1
      refine wp_cv (A' := A17) (v := some (.int (Int32.ofNat c9))) rfl rfl rfl rfl rfl (show _ from h19.1) (by omega) (by have e := rn_rh (d := d - 1) (by omega) h19; rw [hrh] at e; exact e) rfl ?_
      show am_wp d 149 (14, [some (.ref (b)), none, none, none, none], [.int (Int32.ofNat c9)], A17) _
      refine wp_st 2 (f' := (16, [some (.ref (b)), some (.int (Int32.ofNat c9)), none, none, none], [.int (Int32.ofNat c9)], A17)) rfl ?_
      refine wp_izF rfl rfl (fun q => absurd ((i32_lt (a := c9) (b := 0) (by omega) (by omega)).mp q) (by omega)) ?_
      refine wp_st 1 (f' := (20, [some (.ref (b)), some (.int (Int32.ofNat c9)), none, none, none], [.ref (b)], A17)) rfl ?_
      refine rw_gr h19 rfl rfl rfl rfl rfl rfl ?_
      refine wp_st 3 (f' := (27, [some (.ref (b)), some (.int (Int32.ofNat c9)), none, none, none], [.int ((Int32.ofNat 16) + (Int32.ofNat c9)), .ref (b + 20)], A17)) rfl ?_
      rw [i32_add (16) (c9)]
      by_cases hq : rg_hr S c9 = false
      · skip
        have hcat : ru_cat cs n (rd_sk cs n p) S = .ok (sb_re 97 122 cs n (rd_sk cs n p), c9) := ru_cat_y hc9 hq
        refine rw_al (j := 31) (n := 16 + c9) (v := .int (Int32.ofNat 0)) h19 rfl rfl rfl (Or.inl ⟨rfl, rfl⟩) rfl (show _ < 24 from by omega) (by rw [rf_c_ne (by decide)]; exact (hs.2.2.2.1 c9 hc95).2 hq) rfl ?_
        refine wp_izT rfl rfl ((i32_le (a := 0) (b := 0) (by omega) (by omega)).mpr (by omega)) ?_
        refine wp_st 1 (f' := (41, [some (.ref (b)), some (.int (Int32.ofNat c9)), none, none, none], [.ref (b)], A17)) rfl ?_
        have k27 := rd_sk_gt (cs := cs) (n := n) (a := sb_re 97 122 cs n (rd_sk cs n p))
        obtain ⟨A28, g29, h30, f31⟩ := (show rf_go (d - 1) 129 [.ref b] A17 b none (rf_c s (rd_sk cs n (sb_re 97 122 cs n (rd_sk cs n p))) (-1) (rf_rw cs (rd_sk cs n p) (sb_re 97 122 cs n (rd_sk cs n p) - (rd_sk cs n p))) (rd_sk cs n p)) from rr_spaces (d := d - 1) (by omega) (by omega) (show rf_tx (s) cs n from hx) h19)
        have f32 := f21.trans f31
        refine wp_cv (A' := A28) (v := none) rfl rfl rfl rfl rfl (show _ from h19.1) (by omega) (g29) rfl ?_
        show am_wp d 149 (44, [some (.ref (b)), some (.int (Int32.ofNat c9)), none, none, none], [], A28) _
        refine wp_st 2 (f' := (47, [some (.ref (b)), some (.int (Int32.ofNat c9)), none, none, none], [.int (Int32.ofNat 58), .ref (b)], A28)) rfl ?_
        by_cases c33 : sb_lk cs n (rd_sk cs n (sb_re 97 122 cs n (rd_sk cs n p))) = 58
        · skip
          have c33p : rd_sk cs n (sb_re 97 122 cs n (rd_sk cs n p)) < n := sb_lk_pos (cs := cs) (by omega)
          obtain ⟨A34, g35, h36, f37⟩ := (show rf_go _ _ _ _ _ _ (rf_c s (rd_sk cs n (sb_re 97 122 cs n (rd_sk cs n p)) + 1) (-1) (rf_rw cs (rd_sk cs n p) (sb_re 97 122 cs n (rd_sk cs n p) - (rd_sk cs n p))) (rd_sk cs n p)) from by have e := rr_need (d := d - 1) (c := 58) (by omega) (by omega) (by omega) (show rf_tx (s) cs n from hx) h30; rw [if_pos c33] at e; exact e)
          have f38 := f32.trans f37
          refine wp_cv (A' := A34) (v := none) rfl rfl rfl rfl rfl (show _ from h30.1) (by omega) (g35) rfl ?_
          show am_wp d 149 (50, [some (.ref (b)), some (.int (Int32.ofNat c9)), none, none, none], [], A34) _
          refine wp_st 1 (f' := (51, [some (.ref (b)), some (.int (Int32.ofNat c9)), none, none, none], [.ref (b)], A34)) rfl ?_
          refine rw_gf (v := .int ((-1))) h36 rfl rfl rfl rfl (rfl) rfl ?_
          refine wp_izT rfl rfl (show (-1 : Int32) < (Int32.ofNat 0) from by decide) ?_
          refine wp_st 1 (f' := (59, [some (.ref (b)), some (.int (Int32.ofNat c9)), none, none, none], [.ref (b)], A34)) rfl ?_
          refine rw_gr h36 rfl rfl rfl rfl rfl rfl ?_
          refine wp_st 3 (f' := (66, [some (.ref (b)), some (.int (Int32.ofNat c9)), none, none, none], [.int ((Int32.ofNat 16) + (Int32.ofNat c9)), .ref (b + 19)], A34)) rfl ?_
          rw [i32_add (16) (c9)]
          refine wp_st 2 (f' := (69, [some (.ref (b)), some (.int (Int32.ofNat c9)), none, none, none], [.ref (b), .int (Int32.ofNat 96), .int (Int32.ofNat (16 + c9)), .ref (b + 19)], A34)) rfl ?_
          refine rw_gf (v := .int (Int32.ofNat (rg_R S))) h36 rfl rfl rfl rfl (hs.1) rfl ?_
          refine wp_st 1 (f' := (73, [some (.ref (b)), some (.int (Int32.ofNat c9)), none, none, none], [.int ((Int32.ofNat 96) + (Int32.ofNat (rg_R S))), .int (Int32.ofNat (16 + c9)), .ref (b + 19)], A34)) rfl ?_
          rw [i32_add (96) (rg_R S)]
          refine rw_as (j := 30) (n := 16 + c9) (v := .int (Int32.ofNat (96 + (rg_R S)))) h36 rfl rfl rfl (Or.inl ⟨rfl, rfl, rfl⟩) (show _ < 24 from by omega) rfl rfl (fun A39 h40 f41 => ?_)
          have f42 := f38.trans f41
          rw [rf_c_u (by decide)] at h40
          refine wp_st 1 (f' := (75, [some (.ref (b)), some (.int (Int32.ofNat c9)), none, none, none], [.ref (b)], A39)) rfl ?_
          refine rw_gf (v := .int (Int32.ofNat (rg_R S))) h40 rfl rfl rfl rfl (hs.1) rfl ?_
          refine wp_st 3 (f' := (81, [some (.ref (b)), some (.int (Int32.ofNat c9)), some (.int (Int32.ofNat (rg_R S))), none, none], [.int (Int32.ofNat 0), .ref (b)], A39)) rfl ?_
          obtain ⟨⟨o9, A9⟩, g9, q9⟩ := rq_rel (d := d - 1) (jn := false) (p := rd_sk cs n (sb_re 97 122 cs n (rd_sk cs n p)) + 1) (S := S) (by omega) (by omega) (by omega) (by omega) (show rf_tx (rf_u s 30 (16 + c9) (.int (Int32.ofNat (96 + (rg_R S))))) cs n from hx) (hs.at30 hq) h40
          replace q9 : rq_Q A39 b (rf_u s 30 (16 + c9) (.int (Int32.ofNat (96 + (rg_R S))))) n (ru_rel cs n true (rd_sk cs n (sb_re 97 122 cs n (rd_sk cs n p)) + 1) S) (o9, A9) := q9
          rcases hrl : ru_rel cs n true (rd_sk cs n (sb_re 97 122 cs n (rd_sk cs n p)) + 1) S with e9 | ⟨a9, S9⟩
          · skip
            rw [hrl] at q9
            obtain ⟨q0, t9, p9, r9, g0, k9, q1, q2, q2b, q3, q4, q5⟩ := q9
            dsimp only at q0
            subst q0
            have hx9 := q4.tx (show rf_tx (rf_u s 30 (16 + c9) (.int (Int32.ofNat (96 + (rg_R S))))) cs n from hx)
            have her := ru_rel_er (by omega) hrl
            have hF9 := f42.trans q5
            refine wp_cv (A' := A9) (v := none) rfl rfl rfl rfl rfl (show _ from h40.1) (by omega) (g9) rfl ?_
            show am_wp d 149 (84, [some (.ref (b)), some (.int (Int32.ofNat c9)), some (.int (Int32.ofNat (rg_R S))), none, none], [], A9) _
            refine wp_st 1 (f' := (85, [some (.ref (b)), some (.int (Int32.ofNat c9)), some (.int (Int32.ofNat (rg_R S))), none, none], [.ref (b)], A9)) rfl ?_
            refine rw_gf (v := .int (Int32.ofNat e9)) q1 rfl rfl rfl rfl (rfl) rfl ?_
            refine wp_izT rfl rfl (show Int32.ofNat 0 ≤ (Int32.ofNat e9) from Int32.not_lt.mp (Int32.ofNat_not_neg (by omega))) ?_
            refine wp_st 2 (f' := (111, [some (.ref (b)), some (.int (Int32.ofNat c9)), some (.int (Int32.ofNat (rg_R S))), some (.int (Int32.ofNat 0)), none], [], A9)) rfl ?_
            refine wp_st 1 (f' := (112, [some (.ref (b)), some (.int (Int32.ofNat c9)), some (.int (Int32.ofNat (rg_R S))), some (.int (Int32.ofNat 0)), none], [.int (Int32.ofNat 0)], A9)) rfl ?_
            refine wp_izT rfl (show am_tgt 112 (96) = 208 by decide +kernel) (show (Int32.ofNat 0) = (Int32.ofNat 0) from by decide) ?_
            refine wp_st 1 (f' := (209, [some (.ref (b)), some (.int (Int32.ofNat c9)), some (.int (Int32.ofNat (rg_R S))), some (.int (Int32.ofNat 0)), none], [.ref (b)], A9)) rfl ?_
            refine rw_gr q1 rfl rfl rfl rfl rfl rfl ?_
            refine wp_st 3 (f' := (216, [some (.ref (b)), some (.int (Int32.ofNat c9)), some (.int (Int32.ofNat (rg_R S))), some (.int (Int32.ofNat 0)), none], [.int ((Int32.ofNat 16) + (Int32.ofNat c9)), .ref (b + 20)], A9)) rfl ?_
            rw [i32_add (16) (c9)]
            refine wp_st 1 (f' := (217, [some (.ref (b)), some (.int (Int32.ofNat c9)), some (.int (Int32.ofNat (rg_R S))), some (.int (Int32.ofNat 0)), none], [.ref (b), .int (Int32.ofNat (16 + c9)), .ref (b + 20)], A9)) rfl ?_
            refine rw_gf (v := .int (Int32.ofNat k9)) q1 rfl rfl rfl rfl (q2) rfl ?_
            refine wp_st 2 (f' := (222, [some (.ref (b)), some (.int (Int32.ofNat c9)), some (.int (Int32.ofNat (rg_R S))), some (.int (Int32.ofNat 0)), none], [.int ((Int32.ofNat k9) - (Int32.ofNat (rg_R S))), .int (Int32.ofNat (16 + c9)), .ref (b + 20)], A9)) rfl ?_
            refine rw_as (j := 31) (n := 16 + c9) (v := .int ((Int32.ofNat k9) - (Int32.ofNat (rg_R S)))) q1 rfl rfl rfl (Or.inl ⟨rfl, rfl, rfl⟩) (show _ < 24 from by omega) rfl rfl (fun A43 h44 f45 => ?_)
            have f46 := hF9.trans f45
            rw [rf_c_u (by decide)] at h44
            refine wp_rt rfl rfl rfl ?_
            have hres : ru_rule cs n p S = .error (e9) := by rw [ru_rule]; simp only [hcat, c33, hrl, Bool.false_eq_true, ↓reduceIte, ru_cond_ct]
            rw [hres]
            exact rq_U_er h44 (by omega) ((((rs_Y.refl s).u (by unfold rs_su rs_sc; omega)).trans q4.Y).u (by unfold rs_su rs_sc; omega)) f46
          · skip
            rw [hrl] at q9
            obtain ⟨q0, t9, r9, g0, q1, q2, q4, q5⟩ := q9
            dsimp only at q0 q1 q2
            subst q0
            have hx9 := q4.tx (show rf_tx (rf_u s 30 (16 + c9) (.int (Int32.ofNat (96 + (rg_R S))))) cs n from hx)
            have hle := ru_rel_le (by omega) hrl
            have hle1 := hle.1
            unfold ru_le at hle1
            have hfe := ru_rel_fe hrl
            have hF9 := f42.trans q5
            refine wp_cv (A' := A9) (v := none) rfl rfl rfl rfl rfl (show _ from h40.1) (by omega) (g9) rfl ?_
            show am_wp d 149 (84, [some (.ref (b)), some (.int (Int32.ofNat c9)), some (.int (Int32.ofNat (rg_R S))), none, none], [], A9) _
            refine wp_st 1 (f' := (85, [some (.ref (b)), some (.int (Int32.ofNat c9)), some (.int (Int32.ofNat (rg_R S))), none, none], [.ref (b)], A9)) rfl ?_
            refine rw_gf (v := .int ((-1))) q1 rfl rfl rfl rfl (rfl) rfl ?_
            refine wp_izF rfl rfl (show ¬ ((Int32.ofNat 0) ≤ (-1 : Int32)) from by decide) ?_
            refine wp_st 2 (f' := (93, [some (.ref (b)), some (.int (Int32.ofNat c9)), some (.int (Int32.ofNat (rg_R S))), none, none], [.ref (b), .ref (b)], A9)) rfl ?_
            refine rw_gf (v := .int (Int32.ofNat a9)) q1 rfl rfl rfl rfl (rfl) rfl ?_
            have l47 := hlk (a9)
            refine wp_cv (A' := A9) (v := some (.int (Int32.ofNat (sb_lk cs n a9)))) rfl rfl rfl rfl rfl (show _ from q1.1) (by omega) (rr_look (by omega) (show rf_tx (t9) cs n from hx9) q1) rfl ?_
            show am_wp d 149 (99, [some (.ref (b)), some (.int (Int32.ofNat c9)), some (.int (Int32.ofNat (rg_R S))), none, none], [.int (Int32.ofNat (sb_lk cs n a9))], A9) _
            by_cases q48 : sb_re 97 122 cs n a9 = a9
            · skip
              refine wp_cs (n := 0) (A' := A9) (v := some (.int (Int32.ofNat 0))) rfl rfl rfl (by omega) ((show am_go (d - 1) 131 [.int (Int32.ofNat (sb_lk cs n a9))] A9 (.inl (some (.int (Int32.ofNat 0))), A9) from by have e := lt_go (d := d - 1) (x := Int32.ofNat (sb_lk cs n a9)) (A := A9); rw [sb_lt_f (by omega) (by omega) (by omega) q48 (hlk _)] at e; exact e)) rfl ?_
              show am_wp d 149 (102, [some (.ref (b)), some (.int (Int32.ofNat c9)), some (.int (Int32.ofNat (rg_R S))), none, none], [.int (Int32.ofNat 0)], A9) _
              refine wp_izT rfl rfl (show (Int32.ofNat 0) = (Int32.ofNat 0) from by decide) ?_
              refine wp_st 2 (f' := (111, [some (.ref (b)), some (.int (Int32.ofNat c9)), some (.int (Int32.ofNat (rg_R S))), some (.int (Int32.ofNat 0)), none], [], A9)) rfl ?_
              refine wp_st 1 (f' := (112, [some (.ref (b)), some (.int (Int32.ofNat c9)), some (.int (Int32.ofNat (rg_R S))), some (.int (Int32.ofNat 0)), none], [.int (Int32.ofNat 0)], A9)) rfl ?_
              refine wp_izT rfl (show am_tgt 112 (96) = 208 by decide +kernel) (show (Int32.ofNat 0) = (Int32.ofNat 0) from by decide) ?_
              refine wp_st 1 (f' := (209, [some (.ref (b)), some (.int (Int32.ofNat c9)), some (.int (Int32.ofNat (rg_R S))), some (.int (Int32.ofNat 0)), none], [.ref (b)], A9)) rfl ?_
              refine rw_gr q1 rfl rfl rfl rfl rfl rfl ?_
              refine wp_st 3 (f' := (216, [some (.ref (b)), some (.int (Int32.ofNat c9)), some (.int (Int32.ofNat (rg_R S))), some (.int (Int32.ofNat 0)), none], [.int ((Int32.ofNat 16) + (Int32.ofNat c9)), .ref (b + 20)], A9)) rfl ?_
              rw [i32_add (16) (c9)]
              refine wp_st 1 (f' := (217, [some (.ref (b)), some (.int (Int32.ofNat c9)), some (.int (Int32.ofNat (rg_R S))), some (.int (Int32.ofNat 0)), none], [.ref (b), .int (Int32.ofNat (16 + c9)), .ref (b + 20)], A9)) rfl ?_
              refine rw_gf (v := .int (Int32.ofNat (rg_R S9))) q1 rfl rfl rfl rfl (q2.1) rfl ?_
              refine wp_st 2 (f' := (222, [some (.ref (b)), some (.int (Int32.ofNat c9)), some (.int (Int32.ofNat (rg_R S))), some (.int (Int32.ofNat 0)), none], [.int ((Int32.ofNat (rg_R S9)) - (Int32.ofNat (rg_R S))), .int (Int32.ofNat (16 + c9)), .ref (b + 20)], A9)) rfl ?_
              rw [i32_sub (a := rg_R S9) (b := rg_R S) (by omega)]
              refine rw_as (j := 31) (n := 16 + c9) (v := .int (Int32.ofNat ((rg_R S9) - (rg_R S)))) q1 rfl rfl rfl (Or.inl ⟨rfl, rfl, rfl⟩) (show _ < 24 from by omega) rfl rfl (fun A49 h50 f51 => ?_)
              have f52 := hF9.trans f51
              rw [rf_c_u (by decide)] at h50
              refine wp_rt rfl rfl rfl ?_
              have hres : ru_rule cs n p S = .ok (a9, rg_close S9 c9 (rg_R S)) := by rw [ru_rule]; simp only [hcat, c33, hrl, Bool.false_eq_true, ↓reduceIte, ru_cond_ct]; rw [ru_ct, if_pos q48]
              rw [hres]
              exact rq_U_ok h50 (q2.close ((q4 30 (16 + c9) (by unfold rs_sc; omega)).trans (rf_u_eq ..)) (by omega)) ((((rs_Y.refl s).u (by unfold rs_su rs_sc; omega)).trans q4.Y).u (by unfold rs_su rs_sc; omega)) f52
            · skip
              refine wp_cs (n := 0) (A' := A9) (v := some (.int (Int32.ofNat 1))) rfl rfl rfl (by omega) ((show am_go (d - 1) 131 [.int (Int32.ofNat (sb_lk cs n a9))] A9 (.inl (some (.int (Int32.ofNat 1))), A9) from by have e := lt_go (d := d - 1) (x := Int32.ofNat (sb_lk cs n a9)) (A := A9); rw [sb_lt_t (by omega) q48] at e; exact e)) rfl ?_
              show am_wp d 149 (102, [some (.ref (b)), some (.int (Int32.ofNat c9)), some (.int (Int32.ofNat (rg_R S))), none, none], [.int (Int32.ofNat 1)], A9) _
              refine wp_izF rfl rfl (show ¬ ((Int32.ofNat 1) = (Int32.ofNat 0)) from by decide) ?_
              refine wp_st 3 (f' := (111, [some (.ref (b)), some (.int (Int32.ofNat c9)), some (.int (Int32.ofNat (rg_R S))), some (.int (Int32.ofNat 1)), none], [], A9)) rfl ?_
              have hres : ru_rule cs n p S = ru_cl c9 (rg_R S) (ru_ct cs n 119 a9 S9) := by rw [ru_rule]; simp only [hcat, c33, hrl, Bool.false_eq_true, ↓reduceIte, ru_cond_ct]; rfl
              rw [hres]
              obtain ⟨z, z1, z2⟩ := rq_cl (f := rg_R S) (by omega) hc95 119 a9 _ _ S9 _ _ none (by omega) (by omega) (by omega) (by omega) hx9 q2 ((q4 30 (16 + c9) (by unfold rs_sc; omega)).trans (rf_u_eq ..)) (by omega) ((rg_hr_fe hfe).trans hq) q48 q1
              exact ⟨z, z1, z2.tr (((rs_Y.refl s).u (by unfold rs_su rs_sc; omega)).trans q4.Y) hF9⟩
        · skip
          obtain ⟨A53, g54, h55, f56⟩ := (show rf_go _ _ _ _ _ _ (rf_c s (rd_sk cs n (sb_re 97 122 cs n (rd_sk cs n p)) + 1) (Int32.ofNat (rd_sk cs n (sb_re 97 122 cs n (rd_sk cs n p)))) (rf_rw cs (rd_sk cs n p) (sb_re 97 122 cs n (rd_sk cs n p) - (rd_sk cs n p))) (rd_sk cs n p)) from by have e := rr_need (d := d - 1) (c := 58) (by omega) (by omega) (by omega) (show rf_tx (s) cs n from hx) h30; rw [if_neg c33, rf_w_m] at e; exact e)
          have f57 := f32.trans f56
          refine wp_cv (A' := A53) (v := none) rfl rfl rfl rfl rfl (show _ from h30.1) (by omega) (g54) rfl ?_
          show am_wp d 149 (50, [some (.ref (b)), some (.int (Int32.ofNat c9)), none, none, none], [], A53) _
          refine wp_st 1 (f' := (51, [some (.ref (b)), some (.int (Int32.ofNat c9)), none, none, none], [.ref (b)], A53)) rfl ?_
          refine rw_gf (v := .int (Int32.ofNat (rd_sk cs n (sb_re 97 122 cs n (rd_sk cs n p))))) h55 rfl rfl rfl rfl (rfl) rfl ?_
          refine wp_izF rfl rfl (show ¬ ((Int32.ofNat (rd_sk cs n (sb_re 97 122 cs n (rd_sk cs n p)))) < Int32.ofNat 0) from Int32.ofNat_not_neg (by omega)) ?_
          refine wp_rt rfl rfl rfl ?_
          have hres : ru_rule cs n p S = .error (rd_sk cs n (sb_re 97 122 cs n (rd_sk cs n p))) := by rw [ru_rule]; simp only [hcat, c33, Bool.false_eq_true, ↓reduceIte, ru_cond_ct]
          rw [hres]
          exact rq_U_er h55 (by omega) (rs_Y.refl s) f57
      · skip
        have hq2 : rg_hr S c9 = true := by simpa using hq
        have hq3 := (hs.2.2.2.1 c9 hc95).1 hq2
        have hq4 : rg_f S c9 < rg_e S c9 := Decidable.byContradiction (fun q => by unfold rg_hr at hq2; rw [if_neg q] at hq2; cases hq2)
        have hq5 := hs.2.2.2.2.2.2 c9 hc95
        have hcat : ru_cat cs n (rd_sk cs n p) S = .error (rd_sk cs n p) := ru_cat_x hc9 hq
        refine rw_al (j := 31) (n := 16 + c9) (v := .int (Int32.ofNat (rg_e S c9 - rg_f S c9))) h19 rfl rfl rfl (Or.inl ⟨rfl, rfl⟩) rfl (show _ < 24 from by omega) (by rw [rf_c_ne (by decide)]; exact hq3.2) rfl ?_
        refine wp_izF rfl rfl (fun q => absurd ((i32_le (a := rg_e S c9 - rg_f S c9) (b := 0) (by omega) (by omega)).mp q) (by omega)) ?_
        refine wp_st 2 (f' := (33, [some (.ref (b)), some (.int (Int32.ofNat c9)), none, none, none], [.ref (b), .ref (b)], A17)) rfl ?_
        refine rw_gf (v := .int (Int32.ofNat (rd_sk cs n p))) h19 rfl rfl rfl rfl (rfl) rfl ?_
        obtain ⟨A58, g59, h60, f61⟩ := (show rf_go _ _ _ _ _ _ (rf_c s (sb_re 97 122 cs n (rd_sk cs n p)) (Int32.ofNat (rd_sk cs n p)) (rf_rw cs (rd_sk cs n p) (sb_re 97 122 cs n (rd_sk cs n p) - (rd_sk cs n p))) (rd_sk cs n p)) from by have e := rr_fail (d := d - 1) (x := rd_sk cs n p) h19; rw [rf_w_m] at e; exact e)
        have f62 := f21.trans f61
        refine wp_cv (A' := A58) (v := none) rfl rfl rfl rfl rfl (show _ from h19.1) (by omega) (g59) rfl ?_
        show am_wp d 149 (39, [some (.ref (b)), some (.int (Int32.ofNat c9)), none, none, none], [], A58) _
        refine wp_rt rfl rfl rfl ?_
        have hres : ru_rule cs n p S = .error (rd_sk cs n p) := by rw [ru_rule]; simp only [hcat, Bool.false_eq_true, ↓reduceIte, ru_cond_ct]
        rw [hres]
        exact rq_U_er h60 (by omega) (rs_Y.refl s) f62
