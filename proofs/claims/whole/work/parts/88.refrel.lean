/-! The reference: readRelation. -/
theorem rq_rl {d b n : Nat} {z1 : Int32} {cs : List Nat} (hd : 3 ≤ d) : ∀ (k p g : Nat) (r : Int64) (S : rg) (s : rf_S) (A : am_H), n < p + 2 * k → p ≤ n → 0 < rg_R S → rg_R S ≤ 40 → 2 * rg_G S + 2 ≤ p → rf_tx s cs n → rs_S s S → rf A b (rf_c s p (-1) r g) → am_wp d 151 (253, [some (.ref b), some (.int z1), some (.int (Int32.ofNat (96 + (rg_R S - 1)))), some (.int (Int32.ofNat 1))], [], A) (rq_Q A b s n (ru_rngs cs n k p S)) := by
  intro k
  induction k with
  | zero =>
    intro p g r S s A h1 h2
    omega
  | succ k ih =>
    intro p g r S s A hk hp hR hR4 hG hx hs h
    have hn1 := hx.2.2.1
    have hlk : ∀ k, sb_lk cs n k < 128 := by
      intro k
      unfold sb_lk
      split
      · have := hx.2.2.2 k (by omega)
        omega
      · omega
    have h37 := ((hs.2.2.1.1 (rg_R S - 1) (by omega)).2.2.2.2.2)
    have hab := hs.2.2.2.2.1 (rg_R S - 1) (by omega)
    refine wp_st 1 (f' := (254, [some (.ref (b)), some (.int (z1)), some (.int (Int32.ofNat (96 + (rg_R S - 1)))), some (.int (Int32.ofNat 1))], [.int (Int32.ofNat 1)], A)) rfl ?_
    refine wp_izF rfl rfl (show ¬ ((Int32.ofNat 1) = (Int32.ofNat 0)) from by decide) ?_
    refine wp_st 1 (f' := (258, [some (.ref (b)), some (.int (z1)), some (.int (Int32.ofNat (96 + (rg_R S - 1)))), some (.int (Int32.ofNat 1))], [.ref (b)], A)) rfl ?_
    refine rw_gf (v := .int ((-1))) h rfl rfl rfl rfl (rfl) rfl ?_
    refine wp_izF rfl rfl (show ¬ ((Int32.ofNat 0) ≤ (-1 : Int32)) from by decide) ?_
    refine wp_st 1 (f' := (265, [some (.ref (b)), some (.int (z1)), some (.int (Int32.ofNat (96 + (rg_R S - 1)))), some (.int (Int32.ofNat 1))], [.ref (b)], A)) rfl ?_
    obtain ⟨⟨o9, A9⟩, g9, q9⟩ := rq_range (d := d - 1) (G := rg_G S) (by omega) hp hs.2.1 (by omega) hx h
    rcases hrg : ru_rg cs n p with e9 | ⟨a9, l9, h9⟩
    · skip
      rw [hrg] at q9
      obtain ⟨q0, t9, p9, r9, g0, q1, q2, q3, q4⟩ := q9
      dsimp only at q0
      subst q0
      have hx9 := q2.X.tx hx
      have her := ru_range_er hp (ru_rg_er (S := S) hrg)
      refine wp_cv (A' := A9) (v := none) rfl rfl rfl rfl rfl (show _ from h.1) (by omega) (g9) rfl ?_
      show am_wp d 151 (268, [some (.ref (b)), some (.int (z1)), some (.int (Int32.ofNat (96 + (rg_R S - 1)))), some (.int (Int32.ofNat 1))], [], A9) _
      refine wp_st 1 (f' := (269, [some (.ref (b)), some (.int (z1)), some (.int (Int32.ofNat (96 + (rg_R S - 1)))), some (.int (Int32.ofNat 1))], [.ref (b)], A9)) rfl ?_
      refine rw_gr q1 rfl rfl rfl rfl rfl rfl ?_
      refine wp_st 2 (f' := (274, [some (.ref (b)), some (.int (z1)), some (.int (Int32.ofNat (96 + (rg_R S - 1)))), some (.int (Int32.ofNat 1))], [.int (Int32.ofNat (96 + (rg_R S - 1))), .ref (b + 26), .int (Int32.ofNat (96 + (rg_R S - 1))), .ref (b + 26)], A9)) rfl ?_
      refine rw_al (j := 37) (n := 96 + (rg_R S - 1)) (v := .int (Int32.ofNat (rg_b S (rg_R S - 1) - rg_a S (rg_R S - 1)))) q1 rfl rfl rfl (Or.inl ⟨rfl, rfl⟩) rfl (show _ < 144 from by omega) (by rw [rf_c_ne (show 37 ≠ 17 ∧ 37 ≠ 18 ∧ 37 ≠ 28 ∧ 37 ≠ 29 by decide)]; exact (q2.2 37 (96 + (rg_R S - 1)) (by omega) (by omega) (by omega)).trans h37) rfl ?_
      refine wp_st 2 (f' := (277, [some (.ref (b)), some (.int (z1)), some (.int (Int32.ofNat (96 + (rg_R S - 1)))), some (.int (Int32.ofNat 1))], [.int ((Int32.ofNat (rg_b S (rg_R S - 1) - rg_a S (rg_R S - 1))) + (Int32.ofNat 1)), .int (Int32.ofNat (96 + (rg_R S - 1))), .ref (b + 26)], A9)) rfl ?_
      rw [i32_add (rg_b S (rg_R S - 1) - rg_a S (rg_R S - 1)) (1)]
      refine rw_as (j := 37) (n := 96 + (rg_R S - 1)) (v := .int (Int32.ofNat (rg_b S (rg_R S - 1) - rg_a S (rg_R S - 1) + 1))) q1 rfl rfl rfl (Or.inl ⟨rfl, rfl, rfl⟩) (show _ < 144 from by omega) rfl rfl (fun A1 h2 f3 => ?_)
      have f4 := q4.trans f3
      rw [rf_c_u (by decide)] at h2
      refine wp_st 2 (f' := (280, [some (.ref (b)), some (.int (z1)), some (.int (Int32.ofNat (96 + (rg_R S - 1)))), some (.int (Int32.ofNat 1))], [.ref (b), .ref (b)], A1)) rfl ?_
      refine rw_gf (v := .int (Int32.ofNat p9)) h2 rfl rfl rfl rfl (rfl) rfl ?_
      have l5 := hlk (p9)
      refine wp_cv (A' := A1) (v := some (.int (Int32.ofNat (sb_lk cs n p9)))) rfl rfl rfl rfl rfl (show _ from h2.1) (by omega) (rr_look (by omega) (show rf_tx (rf_u t9 37 (96 + (rg_R S - 1)) (.int (Int32.ofNat (rg_b S (rg_R S - 1) - rg_a S (rg_R S - 1) + 1)))) cs n from hx9) h2) rfl ?_
      show am_wp d 151 (286, [some (.ref (b)), some (.int (z1)), some (.int (Int32.ofNat (96 + (rg_R S - 1)))), some (.int (Int32.ofNat 1))], [.int (Int32.ofNat (sb_lk cs n p9))], A1) _
      refine wp_st 1 (f' := (288, [some (.ref (b)), some (.int (z1)), some (.int (Int32.ofNat (96 + (rg_R S - 1)))), some (.int (Int32.ofNat 1))], [.int (Int32.ofNat 44), .int (Int32.ofNat (sb_lk cs n p9))], A1)) rfl ?_
      refine wp_if rfl rfl rfl (fun (h6 : (Int32.ofNat (sb_lk cs n p9)) ≠ (Int32.ofNat 44)) => ?_) (fun (h6 : ¬ ((Int32.ofNat (sb_lk cs n p9)) ≠ (Int32.ofNat 44))) => ?_)
      · skip
        rw [ne_eq, i32_eq (by omega) (by omega)] at h6
        refine wp_st 4 (f' := (299, [some (.ref (b)), some (.int (z1)), some (.int (Int32.ofNat (96 + (rg_R S - 1)))), some (.int (Int32.ofNat 0))], [.int (Int32.ofNat 0), .ref (b)], A1)) rfl ?_
        refine wp_izT rfl rfl (show (Int32.ofNat 0) = (Int32.ofNat 0) from by decide) ?_
        refine wp_st 1 (f' := (312, [some (.ref (b)), some (.int (z1)), some (.int (Int32.ofNat (96 + (rg_R S - 1)))), some (.int (Int32.ofNat 0))], [.ref (b), .ref (b)], A1)) rfl ?_
        refine rw_gf (v := .int (Int32.ofNat p9)) h2 rfl rfl rfl rfl (rfl) rfl ?_
        refine rw_pf (v := .int (Int32.ofNat p9)) h2 rfl rfl rfl rfl rfl rfl (fun A7 h8 f9 => ?_)
        have f10 := f4.trans f9
        rw [rf_c17] at h8
        refine wp_st 1 (f' := (253, [some (.ref (b)), some (.int (z1)), some (.int (Int32.ofNat (96 + (rg_R S - 1)))), some (.int (Int32.ofNat 0))], [], A7)) rfl ?_
        refine wp_st 1 (f' := (254, [some (.ref (b)), some (.int (z1)), some (.int (Int32.ofNat (96 + (rg_R S - 1)))), some (.int (Int32.ofNat 0))], [.int (Int32.ofNat 0)], A7)) rfl ?_
        refine wp_izT rfl rfl (show (Int32.ofNat 0) = (Int32.ofNat 0) from by decide) ?_
        refine wp_rt rfl rfl rfl ?_
        have hres : ru_rngs cs n (k + 1) p S = .error e9 := by rw [ru_rngs, ru_rg_er hrg]
        rw [hres]
        exact rq_Q_er (k := rg_R S) h8 (by rw [rf_u_ne (Or.inl (by omega)), q2.2 _ _ (by omega) (by omega) (by omega)]; exact hs.1) (by omega) (by omega) (q2.X.u (by unfold rs_sc; omega)) f10
      · skip
        rw [ne_eq, i32_eq (by omega) (by omega)] at h6
        replace h6 := Decidable.not_not.mp h6
        refine wp_st 5 (f' := (299, [some (.ref (b)), some (.int (z1)), some (.int (Int32.ofNat (96 + (rg_R S - 1)))), some (.int (Int32.ofNat 1))], [.int (Int32.ofNat 1), .ref (b)], A1)) rfl ?_
        refine wp_izF rfl rfl (show ¬ ((Int32.ofNat 1) = (Int32.ofNat 0)) from by decide) ?_
        refine wp_st 1 (f' := (303, [some (.ref (b)), some (.int (z1)), some (.int (Int32.ofNat (96 + (rg_R S - 1)))), some (.int (Int32.ofNat 1))], [.ref (b), .ref (b)], A1)) rfl ?_
        refine rw_gf (v := .int (Int32.ofNat p9)) h2 rfl rfl rfl rfl (rfl) rfl ?_
        refine wp_st 2 (f' := (308, [some (.ref (b)), some (.int (z1)), some (.int (Int32.ofNat (96 + (rg_R S - 1)))), some (.int (Int32.ofNat 1))], [.int ((Int32.ofNat p9) + (Int32.ofNat 1)), .ref (b)], A1)) rfl ?_
        rw [i32_add (p9) (1)]
        refine wp_st 1 (f' := (315, [some (.ref (b)), some (.int (z1)), some (.int (Int32.ofNat (96 + (rg_R S - 1)))), some (.int (Int32.ofNat 1))], [.int (Int32.ofNat (p9 + 1)), .ref (b)], A1)) rfl ?_
        refine rw_pf (v := .int (Int32.ofNat (p9 + 1))) h2 rfl rfl rfl rfl rfl rfl (fun A11 h12 f13 => ?_)
        have f14 := f4.trans f13
        rw [rf_c17] at h12
        refine wp_st 1 (f' := (253, [some (.ref (b)), some (.int (z1)), some (.int (Int32.ofNat (96 + (rg_R S - 1)))), some (.int (Int32.ofNat 1))], [], A11)) rfl ?_
        refine wp_st 1 (f' := (254, [some (.ref (b)), some (.int (z1)), some (.int (Int32.ofNat (96 + (rg_R S - 1)))), some (.int (Int32.ofNat 1))], [.int (Int32.ofNat 1)], A11)) rfl ?_
        refine wp_izF rfl rfl (show ¬ ((Int32.ofNat 1) = (Int32.ofNat 0)) from by decide) ?_
        refine wp_st 1 (f' := (258, [some (.ref (b)), some (.int (z1)), some (.int (Int32.ofNat (96 + (rg_R S - 1)))), some (.int (Int32.ofNat 1))], [.ref (b)], A11)) rfl ?_
        refine rw_gf (v := .int (Int32.ofNat e9)) h12 rfl rfl rfl rfl (rfl) rfl ?_
        refine wp_izT rfl rfl (show Int32.ofNat 0 ≤ (Int32.ofNat e9) from Int32.not_lt.mp (Int32.ofNat_not_neg (by omega))) ?_
        refine wp_rt rfl rfl rfl ?_
        have hres : ru_rngs cs n (k + 1) p S = .error e9 := by rw [ru_rngs, ru_rg_er hrg]
        rw [hres]
        exact rq_Q_er (k := rg_R S) h12 (by rw [rf_u_ne (Or.inl (by omega)), q2.2 _ _ (by omega) (by omega) (by omega)]; exact hs.1) (by omega) (by omega) (q2.X.u (by unfold rs_sc; omega)) f14
    · skip
      rw [hrg] at q9
      obtain ⟨q0, t9, r9, g0, q1, q2, q4⟩ := q9
      dsimp only at q0 q1 q2
      subst q0
      have hx9 := q2.1.X.tx hx
      have hra := ru_range_le hp (ru_rg_ok (S := S) hrg)
      refine wp_cv (A' := A9) (v := none) rfl rfl rfl rfl rfl (show _ from h.1) (by omega) (g9) rfl ?_
      show am_wp d 151 (268, [some (.ref (b)), some (.int (z1)), some (.int (Int32.ofNat (96 + (rg_R S - 1)))), some (.int (Int32.ofNat 1))], [], A9) _
      refine wp_st 1 (f' := (269, [some (.ref (b)), some (.int (z1)), some (.int (Int32.ofNat (96 + (rg_R S - 1)))), some (.int (Int32.ofNat 1))], [.ref (b)], A9)) rfl ?_
      refine rw_gr q1 rfl rfl rfl rfl rfl rfl ?_
      refine wp_st 2 (f' := (274, [some (.ref (b)), some (.int (z1)), some (.int (Int32.ofNat (96 + (rg_R S - 1)))), some (.int (Int32.ofNat 1))], [.int (Int32.ofNat (96 + (rg_R S - 1))), .ref (b + 26), .int (Int32.ofNat (96 + (rg_R S - 1))), .ref (b + 26)], A9)) rfl ?_
      refine rw_al (j := 37) (n := 96 + (rg_R S - 1)) (v := .int (Int32.ofNat (rg_b S (rg_R S - 1) - rg_a S (rg_R S - 1)))) q1 rfl rfl rfl (Or.inl ⟨rfl, rfl⟩) rfl (show _ < 144 from by omega) (by rw [rf_c_ne (show 37 ≠ 17 ∧ 37 ≠ 18 ∧ 37 ≠ 28 ∧ 37 ≠ 29 by decide)]; exact (q2.1.2 37 (96 + (rg_R S - 1)) (by omega) (by omega) (by omega)).trans h37) rfl ?_
      refine wp_st 2 (f' := (277, [some (.ref (b)), some (.int (z1)), some (.int (Int32.ofNat (96 + (rg_R S - 1)))), some (.int (Int32.ofNat 1))], [.int ((Int32.ofNat (rg_b S (rg_R S - 1) - rg_a S (rg_R S - 1))) + (Int32.ofNat 1)), .int (Int32.ofNat (96 + (rg_R S - 1))), .ref (b + 26)], A9)) rfl ?_
      rw [i32_add (rg_b S (rg_R S - 1) - rg_a S (rg_R S - 1)) (1)]
      refine rw_as (j := 37) (n := 96 + (rg_R S - 1)) (v := .int (Int32.ofNat (rg_b S (rg_R S - 1) - rg_a S (rg_R S - 1) + 1))) q1 rfl rfl rfl (Or.inl ⟨rfl, rfl, rfl⟩) (show _ < 144 from by omega) rfl rfl (fun A15 h16 f17 => ?_)
      have f18 := q4.trans f17
      rw [rf_c_u (by decide)] at h16
      refine wp_st 2 (f' := (280, [some (.ref (b)), some (.int (z1)), some (.int (Int32.ofNat (96 + (rg_R S - 1)))), some (.int (Int32.ofNat 1))], [.ref (b), .ref (b)], A15)) rfl ?_
      refine rw_gf (v := .int (Int32.ofNat a9)) h16 rfl rfl rfl rfl (rfl) rfl ?_
      have l19 := hlk (a9)
      refine wp_cv (A' := A15) (v := some (.int (Int32.ofNat (sb_lk cs n a9)))) rfl rfl rfl rfl rfl (show _ from h16.1) (by omega) (rr_look (by omega) (show rf_tx (rf_u t9 37 (96 + (rg_R S - 1)) (.int (Int32.ofNat (rg_b S (rg_R S - 1) - rg_a S (rg_R S - 1) + 1)))) cs n from hx9) h16) rfl ?_
      show am_wp d 151 (286, [some (.ref (b)), some (.int (z1)), some (.int (Int32.ofNat (96 + (rg_R S - 1)))), some (.int (Int32.ofNat 1))], [.int (Int32.ofNat (sb_lk cs n a9))], A15) _
      refine wp_st 1 (f' := (288, [some (.ref (b)), some (.int (z1)), some (.int (Int32.ofNat (96 + (rg_R S - 1)))), some (.int (Int32.ofNat 1))], [.int (Int32.ofNat 44), .int (Int32.ofNat (sb_lk cs n a9))], A15)) rfl ?_
      refine wp_if rfl rfl rfl (fun (h20 : (Int32.ofNat (sb_lk cs n a9)) ≠ (Int32.ofNat 44)) => ?_) (fun (h20 : ¬ ((Int32.ofNat (sb_lk cs n a9)) ≠ (Int32.ofNat 44))) => ?_)
      · skip
        rw [ne_eq, i32_eq (by omega) (by omega)] at h20
        refine wp_st 4 (f' := (299, [some (.ref (b)), some (.int (z1)), some (.int (Int32.ofNat (96 + (rg_R S - 1)))), some (.int (Int32.ofNat 0))], [.int (Int32.ofNat 0), .ref (b)], A15)) rfl ?_
        refine wp_izT rfl rfl (show (Int32.ofNat 0) = (Int32.ofNat 0) from by decide) ?_
        refine wp_st 1 (f' := (312, [some (.ref (b)), some (.int (z1)), some (.int (Int32.ofNat (96 + (rg_R S - 1)))), some (.int (Int32.ofNat 0))], [.ref (b), .ref (b)], A15)) rfl ?_
        refine rw_gf (v := .int (Int32.ofNat a9)) h16 rfl rfl rfl rfl (rfl) rfl ?_
        refine rw_pf (v := .int (Int32.ofNat a9)) h16 rfl rfl rfl rfl rfl rfl (fun A21 h22 f23 => ?_)
        have f24 := f18.trans f23
        rw [rf_c17] at h22
        refine wp_st 1 (f' := (253, [some (.ref (b)), some (.int (z1)), some (.int (Int32.ofNat (96 + (rg_R S - 1)))), some (.int (Int32.ofNat 0))], [], A21)) rfl ?_
        refine wp_st 1 (f' := (254, [some (.ref (b)), some (.int (z1)), some (.int (Int32.ofNat (96 + (rg_R S - 1)))), some (.int (Int32.ofNat 0))], [.int (Int32.ofNat 0)], A21)) rfl ?_
        refine wp_izT rfl rfl (show (Int32.ofNat 0) = (Int32.ofNat 0) from by decide) ?_
        refine wp_rt rfl rfl rfl ?_
        have hres : ru_rngs cs n (k + 1) p S = .ok (a9, rg_addg S l9 h9) := by rw [ru_rngs, ru_rg_ok hrg]; simp only [h20, ↓reduceIte]
        rw [hres]
        exact rq_Q_ok h22 (hs.addg hR q2) (q2.1.X.u (by unfold rs_sc; omega)) f24
      · skip
        rw [ne_eq, i32_eq (by omega) (by omega)] at h20
        replace h20 := Decidable.not_not.mp h20
        refine wp_st 5 (f' := (299, [some (.ref (b)), some (.int (z1)), some (.int (Int32.ofNat (96 + (rg_R S - 1)))), some (.int (Int32.ofNat 1))], [.int (Int32.ofNat 1), .ref (b)], A15)) rfl ?_
        refine wp_izF rfl rfl (show ¬ ((Int32.ofNat 1) = (Int32.ofNat 0)) from by decide) ?_
        refine wp_st 1 (f' := (303, [some (.ref (b)), some (.int (z1)), some (.int (Int32.ofNat (96 + (rg_R S - 1)))), some (.int (Int32.ofNat 1))], [.ref (b), .ref (b)], A15)) rfl ?_
        refine rw_gf (v := .int (Int32.ofNat a9)) h16 rfl rfl rfl rfl (rfl) rfl ?_
        refine wp_st 2 (f' := (308, [some (.ref (b)), some (.int (z1)), some (.int (Int32.ofNat (96 + (rg_R S - 1)))), some (.int (Int32.ofNat 1))], [.int ((Int32.ofNat a9) + (Int32.ofNat 1)), .ref (b)], A15)) rfl ?_
        rw [i32_add (a9) (1)]
        refine wp_st 1 (f' := (315, [some (.ref (b)), some (.int (z1)), some (.int (Int32.ofNat (96 + (rg_R S - 1)))), some (.int (Int32.ofNat 1))], [.int (Int32.ofNat (a9 + 1)), .ref (b)], A15)) rfl ?_
        refine rw_pf (v := .int (Int32.ofNat (a9 + 1))) h16 rfl rfl rfl rfl rfl rfl (fun A25 h26 f27 => ?_)
        have f28 := f18.trans f27
        rw [rf_c17] at h26
        refine wp_st 1 (f' := (253, [some (.ref (b)), some (.int (z1)), some (.int (Int32.ofNat (96 + (rg_R S - 1)))), some (.int (Int32.ofNat 1))], [], A25)) rfl ?_
        have hres : ru_rngs cs n (k + 1) p S = ru_rngs cs n k (a9 + 1) (rg_addg S l9 h9) := by rw [ru_rngs, ru_rg_ok hrg]; simp only [h20, ↓reduceIte]
        rw [hres]
        have hs9 := hs.addg hR q2
        have hpos : a9 < n := sb_lk_pos (cs := cs) (by omega)
        have hx8 : rs_X s (rf_u t9 37 (96 + (rg_R S - 1)) (.int (Int32.ofNat (rg_b S (rg_R S - 1) - rg_a S (rg_R S - 1) + 1)))) := q2.1.X.u (by unfold rs_sc; omega)
        obtain ⟨z, z1, z2⟩ := ih (a9 + 1) _ _ (rg_addg S l9 h9) _ _ (by omega) (by omega) (show 0 < rg_R S from hR) (show rg_R S ≤ 40 from hR4) (by rw [rg_addg_G]; omega) (hx8.tx hx) hs9 h26
        exact ⟨z, z1, z2.tr hx8 f28⟩
theorem rq_rel {d b n p g : Nat} {r : Int64} {jn : Bool} {cs : List Nat} {S : rg} {s : rf_S} {A : am_H} (hd : 3 ≤ d) (hp : p ≤ n) (hR : 3 * rg_R S ≤ p) (hG : 2 * rg_G S ≤ p) (hx : rf_tx s cs n) (hs : rs_S s S) (h : rf A b (rf_c s p (-1) r g)) : am_wp d 151 (0, am_ent 151 [.ref b, .int (sb_i jn)], [], A) (rq_Q A b s n (ru_rel cs n (!jn) p S)) := by
  have hn1 := hx.2.2.1
  have hlk : ∀ k, sb_lk cs n k < 128 := by
    intro k
    unfold sb_lk
    split
    · have := hx.2.2.2 k (by omega)
      omega
    · omega
  refine wp_st 2 (f' := (3, [some (.ref (b)), some (.int (sb_i jn)), none, none], [.ref (b), .int (Int32.ofNat 96)], A)) rfl ?_
  refine rw_gf (v := .int (Int32.ofNat (rg_R S))) h rfl rfl rfl rfl (hs.1) rfl ?_
  refine wp_st 1 (f' := (7, [some (.ref (b)), some (.int (sb_i jn)), none, none], [.int ((Int32.ofNat 96) + (Int32.ofNat (rg_R S)))], A)) rfl ?_
  rw [i32_add (96) (rg_R S)]
  refine wp_st 3 (f' := (10, [some (.ref (b)), some (.int (sb_i jn)), some (.int (Int32.ofNat (96 + (rg_R S)))), none], [.ref (b), .ref (b)], A)) rfl ?_
  refine rw_gf (v := .int (Int32.ofNat (rg_R S))) h rfl rfl rfl rfl (hs.1) rfl ?_
  refine wp_st 2 (f' := (15, [some (.ref (b)), some (.int (sb_i jn)), some (.int (Int32.ofNat (96 + (rg_R S)))), none], [.int ((Int32.ofNat (rg_R S)) + (Int32.ofNat 1)), .ref (b)], A)) rfl ?_
  rw [i32_add (rg_R S) (1)]
  refine rw_pf (v := .int (Int32.ofNat (rg_R S + 1))) h rfl rfl rfl rfl rfl rfl (fun A1 h2 f3 => ?_)
  have f4 := (sb_fr.refl A b (b + 38)).trans f3
  rw [rf_c_u (by decide)] at h2
  refine wp_st 1 (f' := (19, [some (.ref (b)), some (.int (sb_i jn)), some (.int (Int32.ofNat (96 + (rg_R S)))), none], [.ref (b)], A1)) rfl ?_
  refine rw_gr h2 rfl rfl rfl rfl rfl rfl ?_
  refine wp_st 2 (f' := (24, [some (.ref (b)), some (.int (sb_i jn)), some (.int (Int32.ofNat (96 + (rg_R S)))), none], [.int (sb_i jn), .int (Int32.ofNat (96 + (rg_R S))), .ref (b + 24)], A1)) rfl ?_
  refine rw_as (j := 35) (n := 96 + (rg_R S)) (v := .int (sb_i jn)) h2 rfl rfl rfl (Or.inr (Or.inr ⟨rfl, rfl, rfl⟩)) (show _ < 144 from by omega) (sb_narrow_z _) rfl (fun A5 h6 f7 => ?_)
  have f8 := f4.trans f7
  rw [rf_c_u (by decide)] at h6
  refine wp_st 1 (f' := (26, [some (.ref (b)), some (.int (sb_i jn)), some (.int (Int32.ofNat (96 + (rg_R S)))), none], [.ref (b)], A5)) rfl ?_
  have k9 := rd_sk_gt (cs := cs) (n := n) (a := p)
  obtain ⟨A10, g11, h12, f13⟩ := (show rf_go (d - 1) 129 [.ref b] A5 b none (rf_c (rf_u (rf_u s 40 0 (.int (Int32.ofNat (rg_R S + 1)))) 35 (96 + (rg_R S)) (.int (sb_i jn))) (rd_sk cs n p) (-1) r g) from rr_spaces (d := d - 1) (by omega) (by omega) (show rf_tx (rf_u (rf_u s 40 0 (.int (Int32.ofNat (rg_R S + 1)))) 35 (96 + (rg_R S)) (.int (sb_i jn))) cs n from hx) h6)
  have f14 := f8.trans f13
  refine wp_cv (A' := A10) (v := none) rfl rfl rfl rfl rfl (show _ from h6.1) (by omega) (g11) rfl ?_
  show am_wp d 151 (29, [some (.ref (b)), some (.int (sb_i jn)), some (.int (Int32.ofNat (96 + (rg_R S)))), none], [], A10) _
  refine wp_st 2 (f' := (32, [some (.ref (b)), some (.int (sb_i jn)), some (.int (Int32.ofNat (96 + (rg_R S)))), none], [.int (Int32.ofNat 120), .ref (b)], A10)) rfl ?_
  have hlek := sb_re_le (lo := 97) (hi := 122) (cs := cs) (n := n) (a := rd_sk cs n p)
  have hlej := hlek.2.1 (by omega)
  have hltr := sb_ltr_re cs n (rd_sk cs n p)
  obtain ⟨k9, hk9⟩ : ∃ k, k = sb_re 97 122 cs n (rd_sk cs n p) - (rd_sk cs n p) := ⟨_, rfl⟩
  rcases (show k9 = 0 ∨ k9 = 1 ∨ (2 ≤ k9 ∧ k9 ≤ 12) ∨ 12 < k9 by omega) with hk8 | hk8 | hk8 | hk8
  · skip
    have hE : sb_re 97 122 cs n (rd_sk cs n p) = rd_sk cs n p := by omega
    have hop : ru_opnd cs n (rd_sk cs n p) = .error (rd_sk cs n p) := by unfold ru_opnd; rw [if_neg (by omega)]
    have hrz : rf_rw cs (rd_sk cs n p) (sb_re 97 122 cs n (rd_sk cs n p) - (rd_sk cs n p)) = Int64.ofNat 0 := by rw [hE, Nat.sub_self]; rfl
    obtain ⟨A15, g16, h17, f18⟩ := (show rf_go _ _ _ _ _ _ (rf_c (rf_u (rf_u s 40 0 (.int (Int32.ofNat (rg_R S + 1)))) 35 (96 + (rg_R S)) (.int (sb_i jn))) (sb_re 97 122 cs n (rd_sk cs n p)) (Int32.ofNat (rd_sk cs n p)) (Int64.ofNat 0) (rd_sk cs n p)) from by have q := rr_let (d := d - 1) (many := 120) (by omega) (by omega) (by omega) (show rf_tx (rf_u (rf_u s 40 0 (.int (Int32.ofNat (rg_R S + 1)))) 35 (96 + (rg_R S)) (.int (sb_i jn))) cs n from hx) h12; rw [rf_let_er hE, hrz] at q; exact q)
    have f19 := f14.trans f18
    refine wp_cv (A' := A15) (v := none) rfl rfl rfl rfl rfl (show _ from h12.1) (by omega) (g16) rfl ?_
    show am_wp d 151 (35, [some (.ref (b)), some (.int (sb_i jn)), some (.int (Int32.ofNat (96 + (rg_R S)))), none], [], A15) _
    refine wp_st 1 (f' := (36, [some (.ref (b)), some (.int (sb_i jn)), some (.int (Int32.ofNat (96 + (rg_R S)))), none], [.ref (b)], A15)) rfl ?_
    refine rw_gr h17 rfl rfl rfl rfl rfl rfl ?_
    refine wp_st 2 (f' := (41, [some (.ref (b)), some (.int (sb_i jn)), some (.int (Int32.ofNat (96 + (rg_R S)))), none], [.ref (b), .int (Int32.ofNat (96 + (rg_R S))), .ref (b + 21)], A15)) rfl ?_
    refine rw_gf (v := .long (Int64.ofNat 0)) h17 rfl rfl rfl rfl (rfl) rfl ?_
    refine wp_st 2 (f' := (48, [some (.ref (b)), some (.int (sb_i jn)), some (.int (Int32.ofNat (96 + (rg_R S)))), none], [.int (lg_cmp (Int64.ofNat 0) (26)), .int (Int32.ofNat (96 + (rg_R S))), .ref (b + 21)], A15)) rfl ?_
    refine wp_izF rfl rfl (fun q => absurd ((i64_lt (a := 26) (b := 0) (by omega) (by omega)).mp ((lg_cmp_gt _ _).mp q)) (by omega)) ?_
    refine wp_st 1 (f' := (52, [some (.ref (b)), some (.int (sb_i jn)), some (.int (Int32.ofNat (96 + (rg_R S)))), none], [.ref (b), .int (Int32.ofNat (96 + (rg_R S))), .ref (b + 21)], A15)) rfl ?_
    refine rw_gf (v := .long (Int64.ofNat 0)) h17 rfl rfl rfl rfl (rfl) rfl ?_
    refine wp_st 2 (f' := (57, [some (.ref (b)), some (.int (sb_i jn)), some (.int (Int32.ofNat (96 + (rg_R S)))), none], [.int (lg_cmp (Int64.ofNat 0) (Int64.ofNat 0)), .int (Int32.ofNat (96 + (rg_R S))), .ref (b + 21)], A15)) rfl ?_
    refine wp_izT rfl rfl ((lg_cmp_ge _ _).mpr ((i64_le (a := 0) (b := 0) (by omega) (by omega)).mpr (by omega))) ?_
    refine wp_st 1 (f' := (65, [some (.ref (b)), some (.int (sb_i jn)), some (.int (Int32.ofNat (96 + (rg_R S)))), none], [.ref (b), .int (Int32.ofNat (96 + (rg_R S))), .ref (b + 21)], A15)) rfl ?_
    refine wp_cv (A' := A15) (v := some (.int ((-1)))) rfl rfl rfl rfl rfl (show _ from h17.1) (by omega) ((show am_go (d - 1) 152 [.ref b] A15 (.inl (some (.int (-1))), A15) from rn_op (N := 0) (by omega) h17)) rfl ?_
    show am_wp d 151 (68, [some (.ref (b)), some (.int (sb_i jn)), some (.int (Int32.ofNat (96 + (rg_R S)))), none], [.int ((-1)), .int (Int32.ofNat (96 + (rg_R S))), .ref (b + 21)], A15) _
    refine rw_as (j := 32) (n := 96 + (rg_R S)) (v := .int ((-1))) h17 rfl rfl rfl (Or.inl ⟨rfl, rfl, rfl⟩) (show _ < 144 from by omega) rfl rfl (fun A20 h21 f22 => ?_)
    have f23 := f19.trans f22
    rw [rf_c_u (by decide)] at h21
    refine wp_st 1 (f' := (70, [some (.ref (b)), some (.int (sb_i jn)), some (.int (Int32.ofNat (96 + (rg_R S)))), none], [.ref (b)], A20)) rfl ?_
    refine rw_gr h21 rfl rfl rfl rfl rfl rfl ?_
    refine wp_st 1 (f' := (74, [some (.ref (b)), some (.int (sb_i jn)), some (.int (Int32.ofNat (96 + (rg_R S)))), none], [.int (Int32.ofNat (96 + (rg_R S))), .ref (b + 21)], A20)) rfl ?_
    refine rw_al (j := 32) (n := 96 + (rg_R S)) (v := .int ((-1))) h21 rfl rfl rfl (Or.inl ⟨rfl, rfl⟩) rfl (show _ < 144 from by omega) (by rw [rf_c_ne (show 32 ≠ 17 ∧ 32 ≠ 18 ∧ 32 ≠ 28 ∧ 32 ≠ 29 by decide), rf_u_eq]) rfl ?_
    refine wp_izF rfl rfl (show ¬ (Int32.ofNat 0 ≤ (-1 : Int32)) from by decide) ?_
    refine wp_st 2 (f' := (80, [some (.ref (b)), some (.int (sb_i jn)), some (.int (Int32.ofNat (96 + (rg_R S)))), none], [.ref (b), .ref (b)], A20)) rfl ?_
    refine rw_gf (v := .int (Int32.ofNat (rd_sk cs n p))) h21 rfl rfl rfl rfl (rfl) rfl ?_
    obtain ⟨A24, g25, h26, f27⟩ := (show rf_go _ _ _ _ _ _ (rf_c (rf_u (rf_u (rf_u s 40 0 (.int (Int32.ofNat (rg_R S + 1)))) 35 (96 + (rg_R S)) (.int (sb_i jn))) 32 (96 + (rg_R S)) (.int ((-1)))) (sb_re 97 122 cs n (rd_sk cs n p)) (Int32.ofNat (rd_sk cs n p)) (Int64.ofNat 0) (rd_sk cs n p)) from by have e := rr_fail (d := d - 1) (x := rd_sk cs n p) h21; rw [rf_w_n (by omega)] at e; exact e)
    have f28 := f23.trans f27
    refine wp_cv (A' := A24) (v := none) rfl rfl rfl rfl rfl (show _ from h21.1) (by omega) (g25) rfl ?_
    show am_wp d 151 (86, [some (.ref (b)), some (.int (sb_i jn)), some (.int (Int32.ofNat (96 + (rg_R S)))), none], [], A24) _
    refine wp_st 1 (f' := (87, [some (.ref (b)), some (.int (sb_i jn)), some (.int (Int32.ofNat (96 + (rg_R S)))), none], [.ref (b)], A24)) rfl ?_
    refine rw_gr h26 rfl rfl rfl rfl rfl rfl ?_
    refine wp_st 2 (f' := (92, [some (.ref (b)), some (.int (sb_i jn)), some (.int (Int32.ofNat (96 + (rg_R S)))), none], [.int (Int32.ofNat 0), .int (Int32.ofNat (96 + (rg_R S))), .ref (b + 22)], A24)) rfl ?_
    refine rw_as (j := 33) (n := 96 + (rg_R S)) (v := .int (Int32.ofNat 0)) h26 rfl rfl rfl (Or.inl ⟨rfl, rfl, rfl⟩) (show _ < 144 from by omega) rfl rfl (fun A29 h30 f31 => ?_)
    have f32 := f28.trans f31
    rw [rf_c_u (by decide)] at h30
    refine wp_st 1 (f' := (94, [some (.ref (b)), some (.int (sb_i jn)), some (.int (Int32.ofNat (96 + (rg_R S)))), none], [.ref (b)], A29)) rfl ?_
    have k33 := rd_sk_gt (cs := cs) (n := n) (a := sb_re 97 122 cs n (rd_sk cs n p))
    obtain ⟨A34, g35, h36, f37⟩ := (show rf_go (d - 1) 129 [.ref b] A29 b none (rf_c (rf_u (rf_u (rf_u (rf_u s 40 0 (.int (Int32.ofNat (rg_R S + 1)))) 35 (96 + (rg_R S)) (.int (sb_i jn))) 32 (96 + (rg_R S)) (.int ((-1)))) 33 (96 + (rg_R S)) (.int (Int32.ofNat 0))) (rd_sk cs n (sb_re 97 122 cs n (rd_sk cs n p))) (Int32.ofNat (rd_sk cs n p)) (Int64.ofNat 0) (rd_sk cs n p)) from rr_spaces (d := d - 1) (by omega) (by omega) (show rf_tx (rf_u (rf_u (rf_u (rf_u s 40 0 (.int (Int32.ofNat (rg_R S + 1)))) 35 (96 + (rg_R S)) (.int (sb_i jn))) 32 (96 + (rg_R S)) (.int ((-1)))) 33 (96 + (rg_R S)) (.int (Int32.ofNat 0))) cs n from hx) h30)
    have f38 := f32.trans f37
    refine wp_cv (A' := A34) (v := none) rfl rfl rfl rfl rfl (show _ from h30.1) (by omega) (g35) rfl ?_
    show am_wp d 151 (97, [some (.ref (b)), some (.int (sb_i jn)), some (.int (Int32.ofNat (96 + (rg_R S)))), none], [], A34) _
    refine wp_st 2 (f' := (99, [some (.ref (b)), some (.int (sb_i jn)), some (.int (Int32.ofNat (96 + (rg_R S)))), none], [.ref (b), .ref (b)], A34)) rfl ?_
    refine rw_gf (v := .int (Int32.ofNat (rd_sk cs n (sb_re 97 122 cs n (rd_sk cs n p))))) h36 rfl rfl rfl rfl (rfl) rfl ?_
    have l39 := hlk (rd_sk cs n (sb_re 97 122 cs n (rd_sk cs n p)))
    refine wp_cv (A' := A34) (v := some (.int (Int32.ofNat (sb_lk cs n (rd_sk cs n (sb_re 97 122 cs n (rd_sk cs n p))))))) rfl rfl rfl rfl rfl (show _ from h36.1) (by omega) (rr_look (by omega) (show rf_tx (rf_u (rf_u (rf_u (rf_u s 40 0 (.int (Int32.ofNat (rg_R S + 1)))) 35 (96 + (rg_R S)) (.int (sb_i jn))) 32 (96 + (rg_R S)) (.int ((-1)))) 33 (96 + (rg_R S)) (.int (Int32.ofNat 0))) cs n from hx) h36) rfl ?_
    show am_wp d 151 (105, [some (.ref (b)), some (.int (sb_i jn)), some (.int (Int32.ofNat (96 + (rg_R S)))), none], [.int (Int32.ofNat (sb_lk cs n (rd_sk cs n (sb_re 97 122 cs n (rd_sk cs n p)))))], A34) _
    refine wp_st 1 (f' := (107, [some (.ref (b)), some (.int (sb_i jn)), some (.int (Int32.ofNat (96 + (rg_R S)))), none], [.int (Int32.ofNat 37), .int (Int32.ofNat (sb_lk cs n (rd_sk cs n (sb_re 97 122 cs n (rd_sk cs n p)))))], A34)) rfl ?_
    refine wp_if rfl rfl rfl (fun (h40 : (Int32.ofNat (sb_lk cs n (rd_sk cs n (sb_re 97 122 cs n (rd_sk cs n p))))) ≠ (Int32.ofNat 37)) => ?_) (fun (h40 : ¬ ((Int32.ofNat (sb_lk cs n (rd_sk cs n (sb_re 97 122 cs n (rd_sk cs n p))))) ≠ (Int32.ofNat 37))) => ?_)
    · skip
      rw [ne_eq, i32_eq (by omega) (by omega)] at h40
      refine wp_st 1 (f' := (175, [some (.ref (b)), some (.int (sb_i jn)), some (.int (Int32.ofNat (96 + (rg_R S)))), none], [.ref (b)], A34)) rfl ?_
      refine rw_gr h36 rfl rfl rfl rfl rfl rfl ?_
      refine wp_st 3 (f' := (181, [some (.ref (b)), some (.int (sb_i jn)), some (.int (Int32.ofNat (96 + (rg_R S)))), none], [.ref (b), .ref (b), .int (Int32.ofNat (96 + (rg_R S))), .ref (b + 23)], A34)) rfl ?_
      refine rw_gf (v := .int (Int32.ofNat (rd_sk cs n (sb_re 97 122 cs n (rd_sk cs n p))))) h36 rfl rfl rfl rfl (rfl) rfl ?_
      have l41 := hlk (rd_sk cs n (sb_re 97 122 cs n (rd_sk cs n p)))
      refine wp_cv (A' := A34) (v := some (.int (Int32.ofNat (sb_lk cs n (rd_sk cs n (sb_re 97 122 cs n (rd_sk cs n p))))))) rfl rfl rfl rfl rfl (show _ from h36.1) (by omega) (rr_look (by omega) (show rf_tx (rf_u (rf_u (rf_u (rf_u s 40 0 (.int (Int32.ofNat (rg_R S + 1)))) 35 (96 + (rg_R S)) (.int (sb_i jn))) 32 (96 + (rg_R S)) (.int ((-1)))) 33 (96 + (rg_R S)) (.int (Int32.ofNat 0))) cs n from hx) h36) rfl ?_
      show am_wp d 151 (187, [some (.ref (b)), some (.int (sb_i jn)), some (.int (Int32.ofNat (96 + (rg_R S)))), none], [.int (Int32.ofNat (sb_lk cs n (rd_sk cs n (sb_re 97 122 cs n (rd_sk cs n p))))), .int (Int32.ofNat (96 + (rg_R S))), .ref (b + 23)], A34) _
      refine wp_st 1 (f' := (189, [some (.ref (b)), some (.int (sb_i jn)), some (.int (Int32.ofNat (96 + (rg_R S)))), none], [.int (Int32.ofNat 33), .int (Int32.ofNat (sb_lk cs n (rd_sk cs n (sb_re 97 122 cs n (rd_sk cs n p))))), .int (Int32.ofNat (96 + (rg_R S))), .ref (b + 23)], A34)) rfl ?_
      refine wp_if rfl rfl rfl (fun (h42 : (Int32.ofNat (sb_lk cs n (rd_sk cs n (sb_re 97 122 cs n (rd_sk cs n p))))) ≠ (Int32.ofNat 33)) => ?_) (fun (h42 : ¬ ((Int32.ofNat (sb_lk cs n (rd_sk cs n (sb_re 97 122 cs n (rd_sk cs n p))))) ≠ (Int32.ofNat 33))) => ?_)
      · skip
        rw [ne_eq, i32_eq (by omega) (by omega)] at h42
        refine wp_st 1 (f' := (197, [some (.ref (b)), some (.int (sb_i jn)), some (.int (Int32.ofNat (96 + (rg_R S)))), none], [.int (Int32.ofNat 0), .int (Int32.ofNat (96 + (rg_R S))), .ref (b + 23)], A34)) rfl ?_
        refine rw_as (j := 34) (n := 96 + (rg_R S)) (v := .int (sb_i false)) h36 rfl rfl rfl (Or.inr (Or.inr ⟨rfl, rfl, rfl⟩)) (show _ < 144 from by omega) (sb_narrow_z false) rfl (fun A43 h44 f45 => ?_)
        have f46 := f38.trans f45
        rw [rf_c_u (by decide)] at h44
        refine wp_st 2 (f' := (200, [some (.ref (b)), some (.int (sb_i jn)), some (.int (Int32.ofNat (96 + (rg_R S)))), none], [.ref (b), .ref (b)], A43)) rfl ?_
        refine rw_gr h44 rfl rfl rfl rfl rfl rfl ?_
        refine wp_st 1 (f' := (204, [some (.ref (b)), some (.int (sb_i jn)), some (.int (Int32.ofNat (96 + (rg_R S)))), none], [.int (Int32.ofNat (96 + (rg_R S))), .ref (b + 23), .ref (b)], A43)) rfl ?_
        refine rw_al (j := 34) (n := 96 + (rg_R S)) (v := .int (Int32.ofNat 0)) h44 rfl rfl rfl (Or.inr (Or.inr (Or.inr (Or.inl ⟨rfl, rfl⟩)))) rfl (show _ < 144 from by omega) (by rw [rf_c_ne (show 34 ≠ 17 ∧ 34 ≠ 18 ∧ 34 ≠ 28 ∧ 34 ≠ 29 by decide), rf_u_eq]; rfl) rfl ?_
        refine wp_izT rfl rfl (show (Int32.ofNat 0) = (Int32.ofNat 0) from by decide) ?_
        refine wp_st 1 (f' := (218, [some (.ref (b)), some (.int (sb_i jn)), some (.int (Int32.ofNat (96 + (rg_R S)))), none], [.ref (b), .ref (b)], A43)) rfl ?_
        refine rw_gf (v := .int (Int32.ofNat (rd_sk cs n (sb_re 97 122 cs n (rd_sk cs n p))))) h44 rfl rfl rfl rfl (rfl) rfl ?_
        refine rw_pf (v := .int (Int32.ofNat (rd_sk cs n (sb_re 97 122 cs n (rd_sk cs n p))))) h44 rfl rfl rfl rfl rfl rfl (fun A47 h48 f49 => ?_)
        have f50 := f46.trans f49
        rw [rf_c17] at h48
        refine wp_st 2 (f' := (227, [some (.ref (b)), some (.int (sb_i jn)), some (.int (Int32.ofNat (96 + (rg_R S)))), none], [.int (Int32.ofNat 61), .ref (b)], A47)) rfl ?_
        by_cases c51 : sb_lk cs n (rd_sk cs n (sb_re 97 122 cs n (rd_sk cs n p))) = 61
        · skip
          have c51p : rd_sk cs n (sb_re 97 122 cs n (rd_sk cs n p)) < n := sb_lk_pos (cs := cs) (by omega)
          obtain ⟨A52, g53, h54, f55⟩ := (show rf_go _ _ _ _ _ _ (rf_c (rf_u (rf_u (rf_u (rf_u (rf_u s 40 0 (.int (Int32.ofNat (rg_R S + 1)))) 35 (96 + (rg_R S)) (.int (sb_i jn))) 32 (96 + (rg_R S)) (.int ((-1)))) 33 (96 + (rg_R S)) (.int (Int32.ofNat 0))) 34 (96 + (rg_R S)) (.int (sb_i false))) (rd_sk cs n (sb_re 97 122 cs n (rd_sk cs n p)) + 1) (Int32.ofNat (rd_sk cs n p)) (Int64.ofNat 0) (rd_sk cs n p)) from by have e := rr_need (d := d - 1) (c := 61) (by omega) (by omega) (by omega) (show rf_tx (rf_u (rf_u (rf_u (rf_u (rf_u s 40 0 (.int (Int32.ofNat (rg_R S + 1)))) 35 (96 + (rg_R S)) (.int (sb_i jn))) 32 (96 + (rg_R S)) (.int ((-1)))) 33 (96 + (rg_R S)) (.int (Int32.ofNat 0))) 34 (96 + (rg_R S)) (.int (sb_i false))) cs n from hx) h48; rw [if_pos c51] at e; exact e)
          have f56 := f50.trans f55
          refine wp_cv (A' := A52) (v := none) rfl rfl rfl rfl rfl (show _ from h48.1) (by omega) (g53) rfl ?_
          show am_wp d 151 (230, [some (.ref (b)), some (.int (sb_i jn)), some (.int (Int32.ofNat (96 + (rg_R S)))), none], [], A52) _
          refine wp_st 1 (f' := (231, [some (.ref (b)), some (.int (sb_i jn)), some (.int (Int32.ofNat (96 + (rg_R S)))), none], [.ref (b)], A52)) rfl ?_
          refine rw_gr h54 rfl rfl rfl rfl rfl rfl ?_
          refine wp_st 3 (f' := (239, [some (.ref (b)), some (.int (sb_i jn)), some (.int (Int32.ofNat (96 + (rg_R S)))), none], [.ref (b), .int (Int32.ofNat 128), .int (Int32.ofNat (96 + (rg_R S))), .ref (b + 25)], A52)) rfl ?_
          refine rw_gf (v := .int (Int32.ofNat (rg_G S))) h54 rfl rfl rfl rfl (hs.2.1) rfl ?_
          refine wp_st 1 (f' := (243, [some (.ref (b)), some (.int (sb_i jn)), some (.int (Int32.ofNat (96 + (rg_R S)))), none], [.int ((Int32.ofNat 128) + (Int32.ofNat (rg_G S))), .int (Int32.ofNat (96 + (rg_R S))), .ref (b + 25)], A52)) rfl ?_
          rw [i32_add (128) (rg_G S)]
          refine rw_as (j := 36) (n := 96 + (rg_R S)) (v := .int (Int32.ofNat (128 + (rg_G S)))) h54 rfl rfl rfl (Or.inl ⟨rfl, rfl, rfl⟩) (show _ < 144 from by omega) rfl rfl (fun A57 h58 f59 => ?_)
          have f60 := f56.trans f59
          rw [rf_c_u (by decide)] at h58
          refine wp_st 1 (f' := (245, [some (.ref (b)), some (.int (sb_i jn)), some (.int (Int32.ofNat (96 + (rg_R S)))), none], [.ref (b)], A57)) rfl ?_
          refine rw_gr h58 rfl rfl rfl rfl rfl rfl ?_
          refine wp_st 2 (f' := (250, [some (.ref (b)), some (.int (sb_i jn)), some (.int (Int32.ofNat (96 + (rg_R S)))), none], [.int (Int32.ofNat 0), .int (Int32.ofNat (96 + (rg_R S))), .ref (b + 26)], A57)) rfl ?_
          refine rw_as (j := 37) (n := 96 + (rg_R S)) (v := .int (Int32.ofNat 0)) h58 rfl rfl rfl (Or.inl ⟨rfl, rfl, rfl⟩) (show _ < 144 from by omega) rfl rfl (fun A61 h62 f63 => ?_)
          have f64 := f60.trans f63
          rw [rf_c_u (by decide)] at h62
          refine wp_st 2 (f' := (253, [some (.ref (b)), some (.int (sb_i jn)), some (.int (Int32.ofNat (96 + (rg_R S)))), some (.int (Int32.ofNat 1))], [], A61)) rfl ?_
          refine wp_st 1 (f' := (254, [some (.ref (b)), some (.int (sb_i jn)), some (.int (Int32.ofNat (96 + (rg_R S)))), some (.int (Int32.ofNat 1))], [.int (Int32.ofNat 1)], A61)) rfl ?_
          refine wp_izF rfl rfl (show ¬ ((Int32.ofNat 1) = (Int32.ofNat 0)) from by decide) ?_
          refine wp_st 1 (f' := (258, [some (.ref (b)), some (.int (sb_i jn)), some (.int (Int32.ofNat (96 + (rg_R S)))), some (.int (Int32.ofNat 1))], [.ref (b)], A61)) rfl ?_
          refine rw_gf (v := .int (Int32.ofNat (rd_sk cs n p))) h62 rfl rfl rfl rfl (rfl) rfl ?_
          refine wp_izT rfl rfl (show Int32.ofNat 0 ≤ (Int32.ofNat (rd_sk cs n p)) from Int32.not_lt.mp (Int32.ofNat_not_neg (by omega))) ?_
          refine wp_rt rfl rfl rfl ?_
          have hres : ru_rel cs n (!jn) p S = .error (rd_sk cs n p) := by simp [ru_rel, ru_rel2, ru_mod, hop, h40, h42, c51]
          rw [hres]
          exact rq_Q_er (k := rg_R S + 1) h62 (by simp only [rf_u_if]; simp) (by omega) (by omega) ((((((((rs_X.refl s).u (by unfold rs_sc; omega)).u (by unfold rs_sc; omega)).u (by unfold rs_sc; omega)).u (by unfold rs_sc; omega)).u (by unfold rs_sc; omega)).u (by unfold rs_sc; omega)).u (by unfold rs_sc; omega)) f64
        · skip
          obtain ⟨A65, g66, h67, f68⟩ := (show rf_go _ _ _ _ _ _ (rf_c (rf_u (rf_u (rf_u (rf_u (rf_u s 40 0 (.int (Int32.ofNat (rg_R S + 1)))) 35 (96 + (rg_R S)) (.int (sb_i jn))) 32 (96 + (rg_R S)) (.int ((-1)))) 33 (96 + (rg_R S)) (.int (Int32.ofNat 0))) 34 (96 + (rg_R S)) (.int (sb_i false))) (rd_sk cs n (sb_re 97 122 cs n (rd_sk cs n p)) + 1) (Int32.ofNat (rd_sk cs n p)) (Int64.ofNat 0) (rd_sk cs n p)) from by have e := rr_need (d := d - 1) (c := 61) (by omega) (by omega) (by omega) (show rf_tx (rf_u (rf_u (rf_u (rf_u (rf_u s 40 0 (.int (Int32.ofNat (rg_R S + 1)))) 35 (96 + (rg_R S)) (.int (sb_i jn))) 32 (96 + (rg_R S)) (.int ((-1)))) 33 (96 + (rg_R S)) (.int (Int32.ofNat 0))) 34 (96 + (rg_R S)) (.int (sb_i false))) cs n from hx) h48; rw [if_neg c51, rf_w_n (by omega)] at e; exact e)
          have f69 := f50.trans f68
          refine wp_cv (A' := A65) (v := none) rfl rfl rfl rfl rfl (show _ from h48.1) (by omega) (g66) rfl ?_
          show am_wp d 151 (230, [some (.ref (b)), some (.int (sb_i jn)), some (.int (Int32.ofNat (96 + (rg_R S)))), none], [], A65) _
          refine wp_st 1 (f' := (231, [some (.ref (b)), some (.int (sb_i jn)), some (.int (Int32.ofNat (96 + (rg_R S)))), none], [.ref (b)], A65)) rfl ?_
          refine rw_gr h67 rfl rfl rfl rfl rfl rfl ?_
          refine wp_st 3 (f' := (239, [some (.ref (b)), some (.int (sb_i jn)), some (.int (Int32.ofNat (96 + (rg_R S)))), none], [.ref (b), .int (Int32.ofNat 128), .int (Int32.ofNat (96 + (rg_R S))), .ref (b + 25)], A65)) rfl ?_
          refine rw_gf (v := .int (Int32.ofNat (rg_G S))) h67 rfl rfl rfl rfl (hs.2.1) rfl ?_
          refine wp_st 1 (f' := (243, [some (.ref (b)), some (.int (sb_i jn)), some (.int (Int32.ofNat (96 + (rg_R S)))), none], [.int ((Int32.ofNat 128) + (Int32.ofNat (rg_G S))), .int (Int32.ofNat (96 + (rg_R S))), .ref (b + 25)], A65)) rfl ?_
          rw [i32_add (128) (rg_G S)]
          refine rw_as (j := 36) (n := 96 + (rg_R S)) (v := .int (Int32.ofNat (128 + (rg_G S)))) h67 rfl rfl rfl (Or.inl ⟨rfl, rfl, rfl⟩) (show _ < 144 from by omega) rfl rfl (fun A70 h71 f72 => ?_)
          have f73 := f69.trans f72
          rw [rf_c_u (by decide)] at h71
          refine wp_st 1 (f' := (245, [some (.ref (b)), some (.int (sb_i jn)), some (.int (Int32.ofNat (96 + (rg_R S)))), none], [.ref (b)], A70)) rfl ?_
          refine rw_gr h71 rfl rfl rfl rfl rfl rfl ?_
          refine wp_st 2 (f' := (250, [some (.ref (b)), some (.int (sb_i jn)), some (.int (Int32.ofNat (96 + (rg_R S)))), none], [.int (Int32.ofNat 0), .int (Int32.ofNat (96 + (rg_R S))), .ref (b + 26)], A70)) rfl ?_
          refine rw_as (j := 37) (n := 96 + (rg_R S)) (v := .int (Int32.ofNat 0)) h71 rfl rfl rfl (Or.inl ⟨rfl, rfl, rfl⟩) (show _ < 144 from by omega) rfl rfl (fun A74 h75 f76 => ?_)
          have f77 := f73.trans f76
          rw [rf_c_u (by decide)] at h75
          refine wp_st 2 (f' := (253, [some (.ref (b)), some (.int (sb_i jn)), some (.int (Int32.ofNat (96 + (rg_R S)))), some (.int (Int32.ofNat 1))], [], A74)) rfl ?_
          refine wp_st 1 (f' := (254, [some (.ref (b)), some (.int (sb_i jn)), some (.int (Int32.ofNat (96 + (rg_R S)))), some (.int (Int32.ofNat 1))], [.int (Int32.ofNat 1)], A74)) rfl ?_
          refine wp_izF rfl rfl (show ¬ ((Int32.ofNat 1) = (Int32.ofNat 0)) from by decide) ?_
          refine wp_st 1 (f' := (258, [some (.ref (b)), some (.int (sb_i jn)), some (.int (Int32.ofNat (96 + (rg_R S)))), some (.int (Int32.ofNat 1))], [.ref (b)], A74)) rfl ?_
          refine rw_gf (v := .int (Int32.ofNat (rd_sk cs n p))) h75 rfl rfl rfl rfl (rfl) rfl ?_
          refine wp_izT rfl rfl (show Int32.ofNat 0 ≤ (Int32.ofNat (rd_sk cs n p)) from Int32.not_lt.mp (Int32.ofNat_not_neg (by omega))) ?_
          refine wp_rt rfl rfl rfl ?_
          have hres : ru_rel cs n (!jn) p S = .error (rd_sk cs n p) := by simp [ru_rel, ru_rel2, ru_mod, hop, h40, h42, c51]
          rw [hres]
          exact rq_Q_er (k := rg_R S + 1) h75 (by simp only [rf_u_if]; simp) (by omega) (by omega) ((((((((rs_X.refl s).u (by unfold rs_sc; omega)).u (by unfold rs_sc; omega)).u (by unfold rs_sc; omega)).u (by unfold rs_sc; omega)).u (by unfold rs_sc; omega)).u (by unfold rs_sc; omega)).u (by unfold rs_sc; omega)) f77
      · skip
        rw [ne_eq, i32_eq (by omega) (by omega)] at h42
        replace h42 := Decidable.not_not.mp h42
        have h42p : rd_sk cs n (sb_re 97 122 cs n (rd_sk cs n p)) < n := sb_lk_pos (cs := cs) (by omega)
        refine wp_st 2 (f' := (197, [some (.ref (b)), some (.int (sb_i jn)), some (.int (Int32.ofNat (96 + (rg_R S)))), none], [.int (Int32.ofNat 1), .int (Int32.ofNat (96 + (rg_R S))), .ref (b + 23)], A34)) rfl ?_
        refine rw_as (j := 34) (n := 96 + (rg_R S)) (v := .int (sb_i true)) h36 rfl rfl rfl (Or.inr (Or.inr ⟨rfl, rfl, rfl⟩)) (show _ < 144 from by omega) (sb_narrow_z true) rfl (fun A78 h79 f80 => ?_)
        have f81 := f38.trans f80
        rw [rf_c_u (by decide)] at h79
        refine wp_st 2 (f' := (200, [some (.ref (b)), some (.int (sb_i jn)), some (.int (Int32.ofNat (96 + (rg_R S)))), none], [.ref (b), .ref (b)], A78)) rfl ?_
        refine rw_gr h79 rfl rfl rfl rfl rfl rfl ?_
        refine wp_st 1 (f' := (204, [some (.ref (b)), some (.int (sb_i jn)), some (.int (Int32.ofNat (96 + (rg_R S)))), none], [.int (Int32.ofNat (96 + (rg_R S))), .ref (b + 23), .ref (b)], A78)) rfl ?_
        refine rw_al (j := 34) (n := 96 + (rg_R S)) (v := .int (Int32.ofNat 1)) h79 rfl rfl rfl (Or.inr (Or.inr (Or.inr (Or.inl ⟨rfl, rfl⟩)))) rfl (show _ < 144 from by omega) (by rw [rf_c_ne (show 34 ≠ 17 ∧ 34 ≠ 18 ∧ 34 ≠ 28 ∧ 34 ≠ 29 by decide), rf_u_eq]; rfl) rfl ?_
        refine wp_izF rfl rfl (show ¬ ((Int32.ofNat 1) = (Int32.ofNat 0)) from by decide) ?_
        refine wp_st 1 (f' := (209, [some (.ref (b)), some (.int (sb_i jn)), some (.int (Int32.ofNat (96 + (rg_R S)))), none], [.ref (b), .ref (b)], A78)) rfl ?_
        refine rw_gf (v := .int (Int32.ofNat (rd_sk cs n (sb_re 97 122 cs n (rd_sk cs n p))))) h79 rfl rfl rfl rfl (rfl) rfl ?_
        refine wp_st 2 (f' := (214, [some (.ref (b)), some (.int (sb_i jn)), some (.int (Int32.ofNat (96 + (rg_R S)))), none], [.int ((Int32.ofNat (rd_sk cs n (sb_re 97 122 cs n (rd_sk cs n p)))) + (Int32.ofNat 1)), .ref (b)], A78)) rfl ?_
        rw [i32_add (rd_sk cs n (sb_re 97 122 cs n (rd_sk cs n p))) (1)]
        refine wp_st 1 (f' := (221, [some (.ref (b)), some (.int (sb_i jn)), some (.int (Int32.ofNat (96 + (rg_R S)))), none], [.int (Int32.ofNat (rd_sk cs n (sb_re 97 122 cs n (rd_sk cs n p)) + 1)), .ref (b)], A78)) rfl ?_
        refine rw_pf (v := .int (Int32.ofNat (rd_sk cs n (sb_re 97 122 cs n (rd_sk cs n p)) + 1))) h79 rfl rfl rfl rfl rfl rfl (fun A82 h83 f84 => ?_)
        have f85 := f81.trans f84
        rw [rf_c17] at h83
        refine wp_st 2 (f' := (227, [some (.ref (b)), some (.int (sb_i jn)), some (.int (Int32.ofNat (96 + (rg_R S)))), none], [.int (Int32.ofNat 61), .ref (b)], A82)) rfl ?_
        by_cases c86 : sb_lk cs n (rd_sk cs n (sb_re 97 122 cs n (rd_sk cs n p)) + 1) = 61
        · skip
          have c86p : rd_sk cs n (sb_re 97 122 cs n (rd_sk cs n p)) + 1 < n := sb_lk_pos (cs := cs) (by omega)
          obtain ⟨A87, g88, h89, f90⟩ := (show rf_go _ _ _ _ _ _ (rf_c (rf_u (rf_u (rf_u (rf_u (rf_u s 40 0 (.int (Int32.ofNat (rg_R S + 1)))) 35 (96 + (rg_R S)) (.int (sb_i jn))) 32 (96 + (rg_R S)) (.int ((-1)))) 33 (96 + (rg_R S)) (.int (Int32.ofNat 0))) 34 (96 + (rg_R S)) (.int (sb_i true))) (rd_sk cs n (sb_re 97 122 cs n (rd_sk cs n p)) + 1 + 1) (Int32.ofNat (rd_sk cs n p)) (Int64.ofNat 0) (rd_sk cs n p)) from by have e := rr_need (d := d - 1) (c := 61) (by omega) (by omega) (by omega) (show rf_tx (rf_u (rf_u (rf_u (rf_u (rf_u s 40 0 (.int (Int32.ofNat (rg_R S + 1)))) 35 (96 + (rg_R S)) (.int (sb_i jn))) 32 (96 + (rg_R S)) (.int ((-1)))) 33 (96 + (rg_R S)) (.int (Int32.ofNat 0))) 34 (96 + (rg_R S)) (.int (sb_i true))) cs n from hx) h83; rw [if_pos c86] at e; exact e)
          have f91 := f85.trans f90
          refine wp_cv (A' := A87) (v := none) rfl rfl rfl rfl rfl (show _ from h83.1) (by omega) (g88) rfl ?_
          show am_wp d 151 (230, [some (.ref (b)), some (.int (sb_i jn)), some (.int (Int32.ofNat (96 + (rg_R S)))), none], [], A87) _
          refine wp_st 1 (f' := (231, [some (.ref (b)), some (.int (sb_i jn)), some (.int (Int32.ofNat (96 + (rg_R S)))), none], [.ref (b)], A87)) rfl ?_
          refine rw_gr h89 rfl rfl rfl rfl rfl rfl ?_
          refine wp_st 3 (f' := (239, [some (.ref (b)), some (.int (sb_i jn)), some (.int (Int32.ofNat (96 + (rg_R S)))), none], [.ref (b), .int (Int32.ofNat 128), .int (Int32.ofNat (96 + (rg_R S))), .ref (b + 25)], A87)) rfl ?_
          refine rw_gf (v := .int (Int32.ofNat (rg_G S))) h89 rfl rfl rfl rfl (hs.2.1) rfl ?_
          refine wp_st 1 (f' := (243, [some (.ref (b)), some (.int (sb_i jn)), some (.int (Int32.ofNat (96 + (rg_R S)))), none], [.int ((Int32.ofNat 128) + (Int32.ofNat (rg_G S))), .int (Int32.ofNat (96 + (rg_R S))), .ref (b + 25)], A87)) rfl ?_
          rw [i32_add (128) (rg_G S)]
          refine rw_as (j := 36) (n := 96 + (rg_R S)) (v := .int (Int32.ofNat (128 + (rg_G S)))) h89 rfl rfl rfl (Or.inl ⟨rfl, rfl, rfl⟩) (show _ < 144 from by omega) rfl rfl (fun A92 h93 f94 => ?_)
          have f95 := f91.trans f94
          rw [rf_c_u (by decide)] at h93
          refine wp_st 1 (f' := (245, [some (.ref (b)), some (.int (sb_i jn)), some (.int (Int32.ofNat (96 + (rg_R S)))), none], [.ref (b)], A92)) rfl ?_
          refine rw_gr h93 rfl rfl rfl rfl rfl rfl ?_
          refine wp_st 2 (f' := (250, [some (.ref (b)), some (.int (sb_i jn)), some (.int (Int32.ofNat (96 + (rg_R S)))), none], [.int (Int32.ofNat 0), .int (Int32.ofNat (96 + (rg_R S))), .ref (b + 26)], A92)) rfl ?_
          refine rw_as (j := 37) (n := 96 + (rg_R S)) (v := .int (Int32.ofNat 0)) h93 rfl rfl rfl (Or.inl ⟨rfl, rfl, rfl⟩) (show _ < 144 from by omega) rfl rfl (fun A96 h97 f98 => ?_)
          have f99 := f95.trans f98
          rw [rf_c_u (by decide)] at h97
          refine wp_st 2 (f' := (253, [some (.ref (b)), some (.int (sb_i jn)), some (.int (Int32.ofNat (96 + (rg_R S)))), some (.int (Int32.ofNat 1))], [], A96)) rfl ?_
          refine wp_st 1 (f' := (254, [some (.ref (b)), some (.int (sb_i jn)), some (.int (Int32.ofNat (96 + (rg_R S)))), some (.int (Int32.ofNat 1))], [.int (Int32.ofNat 1)], A96)) rfl ?_
          refine wp_izF rfl rfl (show ¬ ((Int32.ofNat 1) = (Int32.ofNat 0)) from by decide) ?_
          refine wp_st 1 (f' := (258, [some (.ref (b)), some (.int (sb_i jn)), some (.int (Int32.ofNat (96 + (rg_R S)))), some (.int (Int32.ofNat 1))], [.ref (b)], A96)) rfl ?_
          refine rw_gf (v := .int (Int32.ofNat (rd_sk cs n p))) h97 rfl rfl rfl rfl (rfl) rfl ?_
          refine wp_izT rfl rfl (show Int32.ofNat 0 ≤ (Int32.ofNat (rd_sk cs n p)) from Int32.not_lt.mp (Int32.ofNat_not_neg (by omega))) ?_
          refine wp_rt rfl rfl rfl ?_
          have hres : ru_rel cs n (!jn) p S = .error (rd_sk cs n p) := by simp [ru_rel, ru_rel2, ru_mod, hop, h40, h42, c86]
          rw [hres]
          exact rq_Q_er (k := rg_R S + 1) h97 (by simp only [rf_u_if]; simp) (by omega) (by omega) ((((((((rs_X.refl s).u (by unfold rs_sc; omega)).u (by unfold rs_sc; omega)).u (by unfold rs_sc; omega)).u (by unfold rs_sc; omega)).u (by unfold rs_sc; omega)).u (by unfold rs_sc; omega)).u (by unfold rs_sc; omega)) f99
        · skip
          obtain ⟨A100, g101, h102, f103⟩ := (show rf_go _ _ _ _ _ _ (rf_c (rf_u (rf_u (rf_u (rf_u (rf_u s 40 0 (.int (Int32.ofNat (rg_R S + 1)))) 35 (96 + (rg_R S)) (.int (sb_i jn))) 32 (96 + (rg_R S)) (.int ((-1)))) 33 (96 + (rg_R S)) (.int (Int32.ofNat 0))) 34 (96 + (rg_R S)) (.int (sb_i true))) (rd_sk cs n (sb_re 97 122 cs n (rd_sk cs n p)) + 1 + 1) (Int32.ofNat (rd_sk cs n p)) (Int64.ofNat 0) (rd_sk cs n p)) from by have e := rr_need (d := d - 1) (c := 61) (by omega) (by omega) (by omega) (show rf_tx (rf_u (rf_u (rf_u (rf_u (rf_u s 40 0 (.int (Int32.ofNat (rg_R S + 1)))) 35 (96 + (rg_R S)) (.int (sb_i jn))) 32 (96 + (rg_R S)) (.int ((-1)))) 33 (96 + (rg_R S)) (.int (Int32.ofNat 0))) 34 (96 + (rg_R S)) (.int (sb_i true))) cs n from hx) h83; rw [if_neg c86, rf_w_n (by omega)] at e; exact e)
          have f104 := f85.trans f103
          refine wp_cv (A' := A100) (v := none) rfl rfl rfl rfl rfl (show _ from h83.1) (by omega) (g101) rfl ?_
          show am_wp d 151 (230, [some (.ref (b)), some (.int (sb_i jn)), some (.int (Int32.ofNat (96 + (rg_R S)))), none], [], A100) _
          refine wp_st 1 (f' := (231, [some (.ref (b)), some (.int (sb_i jn)), some (.int (Int32.ofNat (96 + (rg_R S)))), none], [.ref (b)], A100)) rfl ?_
          refine rw_gr h102 rfl rfl rfl rfl rfl rfl ?_
          refine wp_st 3 (f' := (239, [some (.ref (b)), some (.int (sb_i jn)), some (.int (Int32.ofNat (96 + (rg_R S)))), none], [.ref (b), .int (Int32.ofNat 128), .int (Int32.ofNat (96 + (rg_R S))), .ref (b + 25)], A100)) rfl ?_
          refine rw_gf (v := .int (Int32.ofNat (rg_G S))) h102 rfl rfl rfl rfl (hs.2.1) rfl ?_
          refine wp_st 1 (f' := (243, [some (.ref (b)), some (.int (sb_i jn)), some (.int (Int32.ofNat (96 + (rg_R S)))), none], [.int ((Int32.ofNat 128) + (Int32.ofNat (rg_G S))), .int (Int32.ofNat (96 + (rg_R S))), .ref (b + 25)], A100)) rfl ?_
          rw [i32_add (128) (rg_G S)]
          refine rw_as (j := 36) (n := 96 + (rg_R S)) (v := .int (Int32.ofNat (128 + (rg_G S)))) h102 rfl rfl rfl (Or.inl ⟨rfl, rfl, rfl⟩) (show _ < 144 from by omega) rfl rfl (fun A105 h106 f107 => ?_)
          have f108 := f104.trans f107
          rw [rf_c_u (by decide)] at h106
          refine wp_st 1 (f' := (245, [some (.ref (b)), some (.int (sb_i jn)), some (.int (Int32.ofNat (96 + (rg_R S)))), none], [.ref (b)], A105)) rfl ?_
          refine rw_gr h106 rfl rfl rfl rfl rfl rfl ?_
          refine wp_st 2 (f' := (250, [some (.ref (b)), some (.int (sb_i jn)), some (.int (Int32.ofNat (96 + (rg_R S)))), none], [.int (Int32.ofNat 0), .int (Int32.ofNat (96 + (rg_R S))), .ref (b + 26)], A105)) rfl ?_
          refine rw_as (j := 37) (n := 96 + (rg_R S)) (v := .int (Int32.ofNat 0)) h106 rfl rfl rfl (Or.inl ⟨rfl, rfl, rfl⟩) (show _ < 144 from by omega) rfl rfl (fun A109 h110 f111 => ?_)
          have f112 := f108.trans f111
          rw [rf_c_u (by decide)] at h110
          refine wp_st 2 (f' := (253, [some (.ref (b)), some (.int (sb_i jn)), some (.int (Int32.ofNat (96 + (rg_R S)))), some (.int (Int32.ofNat 1))], [], A109)) rfl ?_
          refine wp_st 1 (f' := (254, [some (.ref (b)), some (.int (sb_i jn)), some (.int (Int32.ofNat (96 + (rg_R S)))), some (.int (Int32.ofNat 1))], [.int (Int32.ofNat 1)], A109)) rfl ?_
          refine wp_izF rfl rfl (show ¬ ((Int32.ofNat 1) = (Int32.ofNat 0)) from by decide) ?_
          refine wp_st 1 (f' := (258, [some (.ref (b)), some (.int (sb_i jn)), some (.int (Int32.ofNat (96 + (rg_R S)))), some (.int (Int32.ofNat 1))], [.ref (b)], A109)) rfl ?_
          refine rw_gf (v := .int (Int32.ofNat (rd_sk cs n p))) h110 rfl rfl rfl rfl (rfl) rfl ?_
          refine wp_izT rfl rfl (show Int32.ofNat 0 ≤ (Int32.ofNat (rd_sk cs n p)) from Int32.not_lt.mp (Int32.ofNat_not_neg (by omega))) ?_
          refine wp_rt rfl rfl rfl ?_
          have hres : ru_rel cs n (!jn) p S = .error (rd_sk cs n p) := by simp [ru_rel, ru_rel2, ru_mod, hop, h40, h42, c86]
          rw [hres]
          exact rq_Q_er (k := rg_R S + 1) h110 (by simp only [rf_u_if]; simp) (by omega) (by omega) ((((((((rs_X.refl s).u (by unfold rs_sc; omega)).u (by unfold rs_sc; omega)).u (by unfold rs_sc; omega)).u (by unfold rs_sc; omega)).u (by unfold rs_sc; omega)).u (by unfold rs_sc; omega)).u (by unfold rs_sc; omega)) f112
    · skip
      rw [ne_eq, i32_eq (by omega) (by omega)] at h40
      replace h40 := Decidable.not_not.mp h40
      have h40p : rd_sk cs n (sb_re 97 122 cs n (rd_sk cs n p)) < n := sb_lk_pos (cs := cs) (by omega)
      refine wp_st 1 (f' := (111, [some (.ref (b)), some (.int (sb_i jn)), some (.int (Int32.ofNat (96 + (rg_R S)))), none], [.ref (b)], A34)) rfl ?_
      refine rw_gf (v := .int (Int32.ofNat (rd_sk cs n p))) h36 rfl rfl rfl rfl (rfl) rfl ?_
      refine wp_izT rfl rfl (show Int32.ofNat 0 ≤ (Int32.ofNat (rd_sk cs n p)) from Int32.not_lt.mp (Int32.ofNat_not_neg (by omega))) ?_
      refine wp_st 1 (f' := (175, [some (.ref (b)), some (.int (sb_i jn)), some (.int (Int32.ofNat (96 + (rg_R S)))), none], [.ref (b)], A34)) rfl ?_
      refine rw_gr h36 rfl rfl rfl rfl rfl rfl ?_
      refine wp_st 3 (f' := (181, [some (.ref (b)), some (.int (sb_i jn)), some (.int (Int32.ofNat (96 + (rg_R S)))), none], [.ref (b), .ref (b), .int (Int32.ofNat (96 + (rg_R S))), .ref (b + 23)], A34)) rfl ?_
      refine rw_gf (v := .int (Int32.ofNat (rd_sk cs n (sb_re 97 122 cs n (rd_sk cs n p))))) h36 rfl rfl rfl rfl (rfl) rfl ?_
      have l113 := hlk (rd_sk cs n (sb_re 97 122 cs n (rd_sk cs n p)))
      refine wp_cv (A' := A34) (v := some (.int (Int32.ofNat (sb_lk cs n (rd_sk cs n (sb_re 97 122 cs n (rd_sk cs n p))))))) rfl rfl rfl rfl rfl (show _ from h36.1) (by omega) (rr_look (by omega) (show rf_tx (rf_u (rf_u (rf_u (rf_u s 40 0 (.int (Int32.ofNat (rg_R S + 1)))) 35 (96 + (rg_R S)) (.int (sb_i jn))) 32 (96 + (rg_R S)) (.int ((-1)))) 33 (96 + (rg_R S)) (.int (Int32.ofNat 0))) cs n from hx) h36) rfl ?_
      show am_wp d 151 (187, [some (.ref (b)), some (.int (sb_i jn)), some (.int (Int32.ofNat (96 + (rg_R S)))), none], [.int (Int32.ofNat (sb_lk cs n (rd_sk cs n (sb_re 97 122 cs n (rd_sk cs n p))))), .int (Int32.ofNat (96 + (rg_R S))), .ref (b + 23)], A34) _
      refine wp_st 1 (f' := (189, [some (.ref (b)), some (.int (sb_i jn)), some (.int (Int32.ofNat (96 + (rg_R S)))), none], [.int (Int32.ofNat 33), .int (Int32.ofNat (sb_lk cs n (rd_sk cs n (sb_re 97 122 cs n (rd_sk cs n p))))), .int (Int32.ofNat (96 + (rg_R S))), .ref (b + 23)], A34)) rfl ?_
      refine wp_if rfl rfl rfl (fun (h114 : (Int32.ofNat (sb_lk cs n (rd_sk cs n (sb_re 97 122 cs n (rd_sk cs n p))))) ≠ (Int32.ofNat 33)) => ?_) (fun (h114 : ¬ ((Int32.ofNat (sb_lk cs n (rd_sk cs n (sb_re 97 122 cs n (rd_sk cs n p))))) ≠ (Int32.ofNat 33))) => ?_)
      · skip
        rw [ne_eq, i32_eq (by omega) (by omega)] at h114
        refine wp_st 1 (f' := (197, [some (.ref (b)), some (.int (sb_i jn)), some (.int (Int32.ofNat (96 + (rg_R S)))), none], [.int (Int32.ofNat 0), .int (Int32.ofNat (96 + (rg_R S))), .ref (b + 23)], A34)) rfl ?_
        refine rw_as (j := 34) (n := 96 + (rg_R S)) (v := .int (sb_i false)) h36 rfl rfl rfl (Or.inr (Or.inr ⟨rfl, rfl, rfl⟩)) (show _ < 144 from by omega) (sb_narrow_z false) rfl (fun A115 h116 f117 => ?_)
        have f118 := f38.trans f117
        rw [rf_c_u (by decide)] at h116
        refine wp_st 2 (f' := (200, [some (.ref (b)), some (.int (sb_i jn)), some (.int (Int32.ofNat (96 + (rg_R S)))), none], [.ref (b), .ref (b)], A115)) rfl ?_
        refine rw_gr h116 rfl rfl rfl rfl rfl rfl ?_
        refine wp_st 1 (f' := (204, [some (.ref (b)), some (.int (sb_i jn)), some (.int (Int32.ofNat (96 + (rg_R S)))), none], [.int (Int32.ofNat (96 + (rg_R S))), .ref (b + 23), .ref (b)], A115)) rfl ?_
        refine rw_al (j := 34) (n := 96 + (rg_R S)) (v := .int (Int32.ofNat 0)) h116 rfl rfl rfl (Or.inr (Or.inr (Or.inr (Or.inl ⟨rfl, rfl⟩)))) rfl (show _ < 144 from by omega) (by rw [rf_c_ne (show 34 ≠ 17 ∧ 34 ≠ 18 ∧ 34 ≠ 28 ∧ 34 ≠ 29 by decide), rf_u_eq]; rfl) rfl ?_
        refine wp_izT rfl rfl (show (Int32.ofNat 0) = (Int32.ofNat 0) from by decide) ?_
        refine wp_st 1 (f' := (218, [some (.ref (b)), some (.int (sb_i jn)), some (.int (Int32.ofNat (96 + (rg_R S)))), none], [.ref (b), .ref (b)], A115)) rfl ?_
        refine rw_gf (v := .int (Int32.ofNat (rd_sk cs n (sb_re 97 122 cs n (rd_sk cs n p))))) h116 rfl rfl rfl rfl (rfl) rfl ?_
        refine rw_pf (v := .int (Int32.ofNat (rd_sk cs n (sb_re 97 122 cs n (rd_sk cs n p))))) h116 rfl rfl rfl rfl rfl rfl (fun A119 h120 f121 => ?_)
        have f122 := f118.trans f121
        rw [rf_c17] at h120
        refine wp_st 2 (f' := (227, [some (.ref (b)), some (.int (sb_i jn)), some (.int (Int32.ofNat (96 + (rg_R S)))), none], [.int (Int32.ofNat 61), .ref (b)], A119)) rfl ?_
        by_cases c123 : sb_lk cs n (rd_sk cs n (sb_re 97 122 cs n (rd_sk cs n p))) = 61
        · skip
          have c123p : rd_sk cs n (sb_re 97 122 cs n (rd_sk cs n p)) < n := sb_lk_pos (cs := cs) (by omega)
          obtain ⟨A124, g125, h126, f127⟩ := (show rf_go _ _ _ _ _ _ (rf_c (rf_u (rf_u (rf_u (rf_u (rf_u s 40 0 (.int (Int32.ofNat (rg_R S + 1)))) 35 (96 + (rg_R S)) (.int (sb_i jn))) 32 (96 + (rg_R S)) (.int ((-1)))) 33 (96 + (rg_R S)) (.int (Int32.ofNat 0))) 34 (96 + (rg_R S)) (.int (sb_i false))) (rd_sk cs n (sb_re 97 122 cs n (rd_sk cs n p)) + 1) (Int32.ofNat (rd_sk cs n p)) (Int64.ofNat 0) (rd_sk cs n p)) from by have e := rr_need (d := d - 1) (c := 61) (by omega) (by omega) (by omega) (show rf_tx (rf_u (rf_u (rf_u (rf_u (rf_u s 40 0 (.int (Int32.ofNat (rg_R S + 1)))) 35 (96 + (rg_R S)) (.int (sb_i jn))) 32 (96 + (rg_R S)) (.int ((-1)))) 33 (96 + (rg_R S)) (.int (Int32.ofNat 0))) 34 (96 + (rg_R S)) (.int (sb_i false))) cs n from hx) h120; rw [if_pos c123] at e; exact e)
          have f128 := f122.trans f127
          refine wp_cv (A' := A124) (v := none) rfl rfl rfl rfl rfl (show _ from h120.1) (by omega) (g125) rfl ?_
          show am_wp d 151 (230, [some (.ref (b)), some (.int (sb_i jn)), some (.int (Int32.ofNat (96 + (rg_R S)))), none], [], A124) _
          refine wp_st 1 (f' := (231, [some (.ref (b)), some (.int (sb_i jn)), some (.int (Int32.ofNat (96 + (rg_R S)))), none], [.ref (b)], A124)) rfl ?_
          refine rw_gr h126 rfl rfl rfl rfl rfl rfl ?_
          refine wp_st 3 (f' := (239, [some (.ref (b)), some (.int (sb_i jn)), some (.int (Int32.ofNat (96 + (rg_R S)))), none], [.ref (b), .int (Int32.ofNat 128), .int (Int32.ofNat (96 + (rg_R S))), .ref (b + 25)], A124)) rfl ?_
          refine rw_gf (v := .int (Int32.ofNat (rg_G S))) h126 rfl rfl rfl rfl (hs.2.1) rfl ?_
          refine wp_st 1 (f' := (243, [some (.ref (b)), some (.int (sb_i jn)), some (.int (Int32.ofNat (96 + (rg_R S)))), none], [.int ((Int32.ofNat 128) + (Int32.ofNat (rg_G S))), .int (Int32.ofNat (96 + (rg_R S))), .ref (b + 25)], A124)) rfl ?_
          rw [i32_add (128) (rg_G S)]
          refine rw_as (j := 36) (n := 96 + (rg_R S)) (v := .int (Int32.ofNat (128 + (rg_G S)))) h126 rfl rfl rfl (Or.inl ⟨rfl, rfl, rfl⟩) (show _ < 144 from by omega) rfl rfl (fun A129 h130 f131 => ?_)
          have f132 := f128.trans f131
          rw [rf_c_u (by decide)] at h130
          refine wp_st 1 (f' := (245, [some (.ref (b)), some (.int (sb_i jn)), some (.int (Int32.ofNat (96 + (rg_R S)))), none], [.ref (b)], A129)) rfl ?_
          refine rw_gr h130 rfl rfl rfl rfl rfl rfl ?_
          refine wp_st 2 (f' := (250, [some (.ref (b)), some (.int (sb_i jn)), some (.int (Int32.ofNat (96 + (rg_R S)))), none], [.int (Int32.ofNat 0), .int (Int32.ofNat (96 + (rg_R S))), .ref (b + 26)], A129)) rfl ?_
          refine rw_as (j := 37) (n := 96 + (rg_R S)) (v := .int (Int32.ofNat 0)) h130 rfl rfl rfl (Or.inl ⟨rfl, rfl, rfl⟩) (show _ < 144 from by omega) rfl rfl (fun A133 h134 f135 => ?_)
          have f136 := f132.trans f135
          rw [rf_c_u (by decide)] at h134
          refine wp_st 2 (f' := (253, [some (.ref (b)), some (.int (sb_i jn)), some (.int (Int32.ofNat (96 + (rg_R S)))), some (.int (Int32.ofNat 1))], [], A133)) rfl ?_
          refine wp_st 1 (f' := (254, [some (.ref (b)), some (.int (sb_i jn)), some (.int (Int32.ofNat (96 + (rg_R S)))), some (.int (Int32.ofNat 1))], [.int (Int32.ofNat 1)], A133)) rfl ?_
          refine wp_izF rfl rfl (show ¬ ((Int32.ofNat 1) = (Int32.ofNat 0)) from by decide) ?_
          refine wp_st 1 (f' := (258, [some (.ref (b)), some (.int (sb_i jn)), some (.int (Int32.ofNat (96 + (rg_R S)))), some (.int (Int32.ofNat 1))], [.ref (b)], A133)) rfl ?_
          refine rw_gf (v := .int (Int32.ofNat (rd_sk cs n p))) h134 rfl rfl rfl rfl (rfl) rfl ?_
          refine wp_izT rfl rfl (show Int32.ofNat 0 ≤ (Int32.ofNat (rd_sk cs n p)) from Int32.not_lt.mp (Int32.ofNat_not_neg (by omega))) ?_
          refine wp_rt rfl rfl rfl ?_
          have hres : ru_rel cs n (!jn) p S = .error (rd_sk cs n p) := by simp [ru_rel, ru_rel2, ru_mod, hop, h40, h114, c123]
          rw [hres]
          exact rq_Q_er (k := rg_R S + 1) h134 (by simp only [rf_u_if]; simp) (by omega) (by omega) ((((((((rs_X.refl s).u (by unfold rs_sc; omega)).u (by unfold rs_sc; omega)).u (by unfold rs_sc; omega)).u (by unfold rs_sc; omega)).u (by unfold rs_sc; omega)).u (by unfold rs_sc; omega)).u (by unfold rs_sc; omega)) f136
        · skip
          obtain ⟨A137, g138, h139, f140⟩ := (show rf_go _ _ _ _ _ _ (rf_c (rf_u (rf_u (rf_u (rf_u (rf_u s 40 0 (.int (Int32.ofNat (rg_R S + 1)))) 35 (96 + (rg_R S)) (.int (sb_i jn))) 32 (96 + (rg_R S)) (.int ((-1)))) 33 (96 + (rg_R S)) (.int (Int32.ofNat 0))) 34 (96 + (rg_R S)) (.int (sb_i false))) (rd_sk cs n (sb_re 97 122 cs n (rd_sk cs n p)) + 1) (Int32.ofNat (rd_sk cs n p)) (Int64.ofNat 0) (rd_sk cs n p)) from by have e := rr_need (d := d - 1) (c := 61) (by omega) (by omega) (by omega) (show rf_tx (rf_u (rf_u (rf_u (rf_u (rf_u s 40 0 (.int (Int32.ofNat (rg_R S + 1)))) 35 (96 + (rg_R S)) (.int (sb_i jn))) 32 (96 + (rg_R S)) (.int ((-1)))) 33 (96 + (rg_R S)) (.int (Int32.ofNat 0))) 34 (96 + (rg_R S)) (.int (sb_i false))) cs n from hx) h120; rw [if_neg c123, rf_w_n (by omega)] at e; exact e)
          have f141 := f122.trans f140
          refine wp_cv (A' := A137) (v := none) rfl rfl rfl rfl rfl (show _ from h120.1) (by omega) (g138) rfl ?_
          show am_wp d 151 (230, [some (.ref (b)), some (.int (sb_i jn)), some (.int (Int32.ofNat (96 + (rg_R S)))), none], [], A137) _
          refine wp_st 1 (f' := (231, [some (.ref (b)), some (.int (sb_i jn)), some (.int (Int32.ofNat (96 + (rg_R S)))), none], [.ref (b)], A137)) rfl ?_
          refine rw_gr h139 rfl rfl rfl rfl rfl rfl ?_
          refine wp_st 3 (f' := (239, [some (.ref (b)), some (.int (sb_i jn)), some (.int (Int32.ofNat (96 + (rg_R S)))), none], [.ref (b), .int (Int32.ofNat 128), .int (Int32.ofNat (96 + (rg_R S))), .ref (b + 25)], A137)) rfl ?_
          refine rw_gf (v := .int (Int32.ofNat (rg_G S))) h139 rfl rfl rfl rfl (hs.2.1) rfl ?_
          refine wp_st 1 (f' := (243, [some (.ref (b)), some (.int (sb_i jn)), some (.int (Int32.ofNat (96 + (rg_R S)))), none], [.int ((Int32.ofNat 128) + (Int32.ofNat (rg_G S))), .int (Int32.ofNat (96 + (rg_R S))), .ref (b + 25)], A137)) rfl ?_
          rw [i32_add (128) (rg_G S)]
          refine rw_as (j := 36) (n := 96 + (rg_R S)) (v := .int (Int32.ofNat (128 + (rg_G S)))) h139 rfl rfl rfl (Or.inl ⟨rfl, rfl, rfl⟩) (show _ < 144 from by omega) rfl rfl (fun A142 h143 f144 => ?_)
          have f145 := f141.trans f144
          rw [rf_c_u (by decide)] at h143
          refine wp_st 1 (f' := (245, [some (.ref (b)), some (.int (sb_i jn)), some (.int (Int32.ofNat (96 + (rg_R S)))), none], [.ref (b)], A142)) rfl ?_
          refine rw_gr h143 rfl rfl rfl rfl rfl rfl ?_
          refine wp_st 2 (f' := (250, [some (.ref (b)), some (.int (sb_i jn)), some (.int (Int32.ofNat (96 + (rg_R S)))), none], [.int (Int32.ofNat 0), .int (Int32.ofNat (96 + (rg_R S))), .ref (b + 26)], A142)) rfl ?_
          refine rw_as (j := 37) (n := 96 + (rg_R S)) (v := .int (Int32.ofNat 0)) h143 rfl rfl rfl (Or.inl ⟨rfl, rfl, rfl⟩) (show _ < 144 from by omega) rfl rfl (fun A146 h147 f148 => ?_)
          have f149 := f145.trans f148
          rw [rf_c_u (by decide)] at h147
          refine wp_st 2 (f' := (253, [some (.ref (b)), some (.int (sb_i jn)), some (.int (Int32.ofNat (96 + (rg_R S)))), some (.int (Int32.ofNat 1))], [], A146)) rfl ?_
          refine wp_st 1 (f' := (254, [some (.ref (b)), some (.int (sb_i jn)), some (.int (Int32.ofNat (96 + (rg_R S)))), some (.int (Int32.ofNat 1))], [.int (Int32.ofNat 1)], A146)) rfl ?_
          refine wp_izF rfl rfl (show ¬ ((Int32.ofNat 1) = (Int32.ofNat 0)) from by decide) ?_
          refine wp_st 1 (f' := (258, [some (.ref (b)), some (.int (sb_i jn)), some (.int (Int32.ofNat (96 + (rg_R S)))), some (.int (Int32.ofNat 1))], [.ref (b)], A146)) rfl ?_
          refine rw_gf (v := .int (Int32.ofNat (rd_sk cs n p))) h147 rfl rfl rfl rfl (rfl) rfl ?_
          refine wp_izT rfl rfl (show Int32.ofNat 0 ≤ (Int32.ofNat (rd_sk cs n p)) from Int32.not_lt.mp (Int32.ofNat_not_neg (by omega))) ?_
          refine wp_rt rfl rfl rfl ?_
          have hres : ru_rel cs n (!jn) p S = .error (rd_sk cs n p) := by simp [ru_rel, ru_rel2, ru_mod, hop, h40, h114, c123]
          rw [hres]
          exact rq_Q_er (k := rg_R S + 1) h147 (by simp only [rf_u_if]; simp) (by omega) (by omega) ((((((((rs_X.refl s).u (by unfold rs_sc; omega)).u (by unfold rs_sc; omega)).u (by unfold rs_sc; omega)).u (by unfold rs_sc; omega)).u (by unfold rs_sc; omega)).u (by unfold rs_sc; omega)).u (by unfold rs_sc; omega)) f149
      · skip
        rw [ne_eq, i32_eq (by omega) (by omega)] at h114
        replace h114 := Decidable.not_not.mp h114
        have h114p : rd_sk cs n (sb_re 97 122 cs n (rd_sk cs n p)) < n := sb_lk_pos (cs := cs) (by omega)
        refine wp_st 2 (f' := (197, [some (.ref (b)), some (.int (sb_i jn)), some (.int (Int32.ofNat (96 + (rg_R S)))), none], [.int (Int32.ofNat 1), .int (Int32.ofNat (96 + (rg_R S))), .ref (b + 23)], A34)) rfl ?_
        refine rw_as (j := 34) (n := 96 + (rg_R S)) (v := .int (sb_i true)) h36 rfl rfl rfl (Or.inr (Or.inr ⟨rfl, rfl, rfl⟩)) (show _ < 144 from by omega) (sb_narrow_z true) rfl (fun A150 h151 f152 => ?_)
        have f153 := f38.trans f152
        rw [rf_c_u (by decide)] at h151
        refine wp_st 2 (f' := (200, [some (.ref (b)), some (.int (sb_i jn)), some (.int (Int32.ofNat (96 + (rg_R S)))), none], [.ref (b), .ref (b)], A150)) rfl ?_
        refine rw_gr h151 rfl rfl rfl rfl rfl rfl ?_
        refine wp_st 1 (f' := (204, [some (.ref (b)), some (.int (sb_i jn)), some (.int (Int32.ofNat (96 + (rg_R S)))), none], [.int (Int32.ofNat (96 + (rg_R S))), .ref (b + 23), .ref (b)], A150)) rfl ?_
        refine rw_al (j := 34) (n := 96 + (rg_R S)) (v := .int (Int32.ofNat 1)) h151 rfl rfl rfl (Or.inr (Or.inr (Or.inr (Or.inl ⟨rfl, rfl⟩)))) rfl (show _ < 144 from by omega) (by rw [rf_c_ne (show 34 ≠ 17 ∧ 34 ≠ 18 ∧ 34 ≠ 28 ∧ 34 ≠ 29 by decide), rf_u_eq]; rfl) rfl ?_
        refine wp_izF rfl rfl (show ¬ ((Int32.ofNat 1) = (Int32.ofNat 0)) from by decide) ?_
        refine wp_st 1 (f' := (209, [some (.ref (b)), some (.int (sb_i jn)), some (.int (Int32.ofNat (96 + (rg_R S)))), none], [.ref (b), .ref (b)], A150)) rfl ?_
        refine rw_gf (v := .int (Int32.ofNat (rd_sk cs n (sb_re 97 122 cs n (rd_sk cs n p))))) h151 rfl rfl rfl rfl (rfl) rfl ?_
        refine wp_st 2 (f' := (214, [some (.ref (b)), some (.int (sb_i jn)), some (.int (Int32.ofNat (96 + (rg_R S)))), none], [.int ((Int32.ofNat (rd_sk cs n (sb_re 97 122 cs n (rd_sk cs n p)))) + (Int32.ofNat 1)), .ref (b)], A150)) rfl ?_
        rw [i32_add (rd_sk cs n (sb_re 97 122 cs n (rd_sk cs n p))) (1)]
        refine wp_st 1 (f' := (221, [some (.ref (b)), some (.int (sb_i jn)), some (.int (Int32.ofNat (96 + (rg_R S)))), none], [.int (Int32.ofNat (rd_sk cs n (sb_re 97 122 cs n (rd_sk cs n p)) + 1)), .ref (b)], A150)) rfl ?_
        refine rw_pf (v := .int (Int32.ofNat (rd_sk cs n (sb_re 97 122 cs n (rd_sk cs n p)) + 1))) h151 rfl rfl rfl rfl rfl rfl (fun A154 h155 f156 => ?_)
        have f157 := f153.trans f156
        rw [rf_c17] at h155
        refine wp_st 2 (f' := (227, [some (.ref (b)), some (.int (sb_i jn)), some (.int (Int32.ofNat (96 + (rg_R S)))), none], [.int (Int32.ofNat 61), .ref (b)], A154)) rfl ?_
        by_cases c158 : sb_lk cs n (rd_sk cs n (sb_re 97 122 cs n (rd_sk cs n p)) + 1) = 61
        · skip
          have c158p : rd_sk cs n (sb_re 97 122 cs n (rd_sk cs n p)) + 1 < n := sb_lk_pos (cs := cs) (by omega)
          obtain ⟨A159, g160, h161, f162⟩ := (show rf_go _ _ _ _ _ _ (rf_c (rf_u (rf_u (rf_u (rf_u (rf_u s 40 0 (.int (Int32.ofNat (rg_R S + 1)))) 35 (96 + (rg_R S)) (.int (sb_i jn))) 32 (96 + (rg_R S)) (.int ((-1)))) 33 (96 + (rg_R S)) (.int (Int32.ofNat 0))) 34 (96 + (rg_R S)) (.int (sb_i true))) (rd_sk cs n (sb_re 97 122 cs n (rd_sk cs n p)) + 1 + 1) (Int32.ofNat (rd_sk cs n p)) (Int64.ofNat 0) (rd_sk cs n p)) from by have e := rr_need (d := d - 1) (c := 61) (by omega) (by omega) (by omega) (show rf_tx (rf_u (rf_u (rf_u (rf_u (rf_u s 40 0 (.int (Int32.ofNat (rg_R S + 1)))) 35 (96 + (rg_R S)) (.int (sb_i jn))) 32 (96 + (rg_R S)) (.int ((-1)))) 33 (96 + (rg_R S)) (.int (Int32.ofNat 0))) 34 (96 + (rg_R S)) (.int (sb_i true))) cs n from hx) h155; rw [if_pos c158] at e; exact e)
          have f163 := f157.trans f162
          refine wp_cv (A' := A159) (v := none) rfl rfl rfl rfl rfl (show _ from h155.1) (by omega) (g160) rfl ?_
          show am_wp d 151 (230, [some (.ref (b)), some (.int (sb_i jn)), some (.int (Int32.ofNat (96 + (rg_R S)))), none], [], A159) _
          refine wp_st 1 (f' := (231, [some (.ref (b)), some (.int (sb_i jn)), some (.int (Int32.ofNat (96 + (rg_R S)))), none], [.ref (b)], A159)) rfl ?_
          refine rw_gr h161 rfl rfl rfl rfl rfl rfl ?_
          refine wp_st 3 (f' := (239, [some (.ref (b)), some (.int (sb_i jn)), some (.int (Int32.ofNat (96 + (rg_R S)))), none], [.ref (b), .int (Int32.ofNat 128), .int (Int32.ofNat (96 + (rg_R S))), .ref (b + 25)], A159)) rfl ?_
          refine rw_gf (v := .int (Int32.ofNat (rg_G S))) h161 rfl rfl rfl rfl (hs.2.1) rfl ?_
          refine wp_st 1 (f' := (243, [some (.ref (b)), some (.int (sb_i jn)), some (.int (Int32.ofNat (96 + (rg_R S)))), none], [.int ((Int32.ofNat 128) + (Int32.ofNat (rg_G S))), .int (Int32.ofNat (96 + (rg_R S))), .ref (b + 25)], A159)) rfl ?_
          rw [i32_add (128) (rg_G S)]
          refine rw_as (j := 36) (n := 96 + (rg_R S)) (v := .int (Int32.ofNat (128 + (rg_G S)))) h161 rfl rfl rfl (Or.inl ⟨rfl, rfl, rfl⟩) (show _ < 144 from by omega) rfl rfl (fun A164 h165 f166 => ?_)
          have f167 := f163.trans f166
          rw [rf_c_u (by decide)] at h165
          refine wp_st 1 (f' := (245, [some (.ref (b)), some (.int (sb_i jn)), some (.int (Int32.ofNat (96 + (rg_R S)))), none], [.ref (b)], A164)) rfl ?_
          refine rw_gr h165 rfl rfl rfl rfl rfl rfl ?_
          refine wp_st 2 (f' := (250, [some (.ref (b)), some (.int (sb_i jn)), some (.int (Int32.ofNat (96 + (rg_R S)))), none], [.int (Int32.ofNat 0), .int (Int32.ofNat (96 + (rg_R S))), .ref (b + 26)], A164)) rfl ?_
          refine rw_as (j := 37) (n := 96 + (rg_R S)) (v := .int (Int32.ofNat 0)) h165 rfl rfl rfl (Or.inl ⟨rfl, rfl, rfl⟩) (show _ < 144 from by omega) rfl rfl (fun A168 h169 f170 => ?_)
          have f171 := f167.trans f170
          rw [rf_c_u (by decide)] at h169
          refine wp_st 2 (f' := (253, [some (.ref (b)), some (.int (sb_i jn)), some (.int (Int32.ofNat (96 + (rg_R S)))), some (.int (Int32.ofNat 1))], [], A168)) rfl ?_
          refine wp_st 1 (f' := (254, [some (.ref (b)), some (.int (sb_i jn)), some (.int (Int32.ofNat (96 + (rg_R S)))), some (.int (Int32.ofNat 1))], [.int (Int32.ofNat 1)], A168)) rfl ?_
          refine wp_izF rfl rfl (show ¬ ((Int32.ofNat 1) = (Int32.ofNat 0)) from by decide) ?_
          refine wp_st 1 (f' := (258, [some (.ref (b)), some (.int (sb_i jn)), some (.int (Int32.ofNat (96 + (rg_R S)))), some (.int (Int32.ofNat 1))], [.ref (b)], A168)) rfl ?_
          refine rw_gf (v := .int (Int32.ofNat (rd_sk cs n p))) h169 rfl rfl rfl rfl (rfl) rfl ?_
          refine wp_izT rfl rfl (show Int32.ofNat 0 ≤ (Int32.ofNat (rd_sk cs n p)) from Int32.not_lt.mp (Int32.ofNat_not_neg (by omega))) ?_
          refine wp_rt rfl rfl rfl ?_
          have hres : ru_rel cs n (!jn) p S = .error (rd_sk cs n p) := by simp [ru_rel, ru_rel2, ru_mod, hop, h40, h114, c158]
          rw [hres]
          exact rq_Q_er (k := rg_R S + 1) h169 (by simp only [rf_u_if]; simp) (by omega) (by omega) ((((((((rs_X.refl s).u (by unfold rs_sc; omega)).u (by unfold rs_sc; omega)).u (by unfold rs_sc; omega)).u (by unfold rs_sc; omega)).u (by unfold rs_sc; omega)).u (by unfold rs_sc; omega)).u (by unfold rs_sc; omega)) f171
        · skip
          obtain ⟨A172, g173, h174, f175⟩ := (show rf_go _ _ _ _ _ _ (rf_c (rf_u (rf_u (rf_u (rf_u (rf_u s 40 0 (.int (Int32.ofNat (rg_R S + 1)))) 35 (96 + (rg_R S)) (.int (sb_i jn))) 32 (96 + (rg_R S)) (.int ((-1)))) 33 (96 + (rg_R S)) (.int (Int32.ofNat 0))) 34 (96 + (rg_R S)) (.int (sb_i true))) (rd_sk cs n (sb_re 97 122 cs n (rd_sk cs n p)) + 1 + 1) (Int32.ofNat (rd_sk cs n p)) (Int64.ofNat 0) (rd_sk cs n p)) from by have e := rr_need (d := d - 1) (c := 61) (by omega) (by omega) (by omega) (show rf_tx (rf_u (rf_u (rf_u (rf_u (rf_u s 40 0 (.int (Int32.ofNat (rg_R S + 1)))) 35 (96 + (rg_R S)) (.int (sb_i jn))) 32 (96 + (rg_R S)) (.int ((-1)))) 33 (96 + (rg_R S)) (.int (Int32.ofNat 0))) 34 (96 + (rg_R S)) (.int (sb_i true))) cs n from hx) h155; rw [if_neg c158, rf_w_n (by omega)] at e; exact e)
          have f176 := f157.trans f175
          refine wp_cv (A' := A172) (v := none) rfl rfl rfl rfl rfl (show _ from h155.1) (by omega) (g173) rfl ?_
          show am_wp d 151 (230, [some (.ref (b)), some (.int (sb_i jn)), some (.int (Int32.ofNat (96 + (rg_R S)))), none], [], A172) _
          refine wp_st 1 (f' := (231, [some (.ref (b)), some (.int (sb_i jn)), some (.int (Int32.ofNat (96 + (rg_R S)))), none], [.ref (b)], A172)) rfl ?_
          refine rw_gr h174 rfl rfl rfl rfl rfl rfl ?_
          refine wp_st 3 (f' := (239, [some (.ref (b)), some (.int (sb_i jn)), some (.int (Int32.ofNat (96 + (rg_R S)))), none], [.ref (b), .int (Int32.ofNat 128), .int (Int32.ofNat (96 + (rg_R S))), .ref (b + 25)], A172)) rfl ?_
          refine rw_gf (v := .int (Int32.ofNat (rg_G S))) h174 rfl rfl rfl rfl (hs.2.1) rfl ?_
          refine wp_st 1 (f' := (243, [some (.ref (b)), some (.int (sb_i jn)), some (.int (Int32.ofNat (96 + (rg_R S)))), none], [.int ((Int32.ofNat 128) + (Int32.ofNat (rg_G S))), .int (Int32.ofNat (96 + (rg_R S))), .ref (b + 25)], A172)) rfl ?_
          rw [i32_add (128) (rg_G S)]
          refine rw_as (j := 36) (n := 96 + (rg_R S)) (v := .int (Int32.ofNat (128 + (rg_G S)))) h174 rfl rfl rfl (Or.inl ⟨rfl, rfl, rfl⟩) (show _ < 144 from by omega) rfl rfl (fun A177 h178 f179 => ?_)
          have f180 := f176.trans f179
          rw [rf_c_u (by decide)] at h178
          refine wp_st 1 (f' := (245, [some (.ref (b)), some (.int (sb_i jn)), some (.int (Int32.ofNat (96 + (rg_R S)))), none], [.ref (b)], A177)) rfl ?_
          refine rw_gr h178 rfl rfl rfl rfl rfl rfl ?_
          refine wp_st 2 (f' := (250, [some (.ref (b)), some (.int (sb_i jn)), some (.int (Int32.ofNat (96 + (rg_R S)))), none], [.int (Int32.ofNat 0), .int (Int32.ofNat (96 + (rg_R S))), .ref (b + 26)], A177)) rfl ?_
          refine rw_as (j := 37) (n := 96 + (rg_R S)) (v := .int (Int32.ofNat 0)) h178 rfl rfl rfl (Or.inl ⟨rfl, rfl, rfl⟩) (show _ < 144 from by omega) rfl rfl (fun A181 h182 f183 => ?_)
          have f184 := f180.trans f183
          rw [rf_c_u (by decide)] at h182
          refine wp_st 2 (f' := (253, [some (.ref (b)), some (.int (sb_i jn)), some (.int (Int32.ofNat (96 + (rg_R S)))), some (.int (Int32.ofNat 1))], [], A181)) rfl ?_
          refine wp_st 1 (f' := (254, [some (.ref (b)), some (.int (sb_i jn)), some (.int (Int32.ofNat (96 + (rg_R S)))), some (.int (Int32.ofNat 1))], [.int (Int32.ofNat 1)], A181)) rfl ?_
          refine wp_izF rfl rfl (show ¬ ((Int32.ofNat 1) = (Int32.ofNat 0)) from by decide) ?_
          refine wp_st 1 (f' := (258, [some (.ref (b)), some (.int (sb_i jn)), some (.int (Int32.ofNat (96 + (rg_R S)))), some (.int (Int32.ofNat 1))], [.ref (b)], A181)) rfl ?_
          refine rw_gf (v := .int (Int32.ofNat (rd_sk cs n p))) h182 rfl rfl rfl rfl (rfl) rfl ?_
          refine wp_izT rfl rfl (show Int32.ofNat 0 ≤ (Int32.ofNat (rd_sk cs n p)) from Int32.not_lt.mp (Int32.ofNat_not_neg (by omega))) ?_
          refine wp_rt rfl rfl rfl ?_
          have hres : ru_rel cs n (!jn) p S = .error (rd_sk cs n p) := by simp [ru_rel, ru_rel2, ru_mod, hop, h40, h114, c158]
          rw [hres]
          exact rq_Q_er (k := rg_R S + 1) h182 (by simp only [rf_u_if]; simp) (by omega) (by omega) ((((((((rs_X.refl s).u (by unfold rs_sc; omega)).u (by unfold rs_sc; omega)).u (by unfold rs_sc; omega)).u (by unfold rs_sc; omega)).u (by unfold rs_sc; omega)).u (by unfold rs_sc; omega)).u (by unfold rs_sc; omega)) f184
  · skip
    have hE : ¬ sb_re 97 122 cs n (rd_sk cs n p) = rd_sk cs n p := by omega
    have hch := hltr (rd_sk cs n p) (by omega) (by omega)
    have hlk1 : sb_lk cs n (rd_sk cs n p) = cs.getD (rd_sk cs n p) 0 := by unfold sb_lk; rw [if_pos (by omega)]
    have hrz : rf_rw cs (rd_sk cs n p) (sb_re 97 122 cs n (rd_sk cs n p) - (rd_sk cs n p)) = Int64.ofNat (cs.getD (rd_sk cs n p) 0 - 96) := by rw [show sb_re 97 122 cs n (rd_sk cs n p) - (rd_sk cs n p) = 1 by omega]; exact rf_rw_1
    obtain ⟨A185, g186, h187, f188⟩ := (show rf_go _ _ _ _ _ _ (rf_c (rf_u (rf_u s 40 0 (.int (Int32.ofNat (rg_R S + 1)))) 35 (96 + (rg_R S)) (.int (sb_i jn))) (sb_re 97 122 cs n (rd_sk cs n p)) (-1) (Int64.ofNat (cs.getD (rd_sk cs n p) 0 - 96)) (rd_sk cs n p)) from by have q := rr_let (d := d - 1) (many := 120) (by omega) (by omega) (by omega) (show rf_tx (rf_u (rf_u s 40 0 (.int (Int32.ofNat (rg_R S + 1)))) 35 (96 + (rg_R S)) (.int (sb_i jn))) cs n from hx) h12; rw [rf_let_ok (by omega) (by omega) hE, hrz] at q; exact q)
    have f189 := f14.trans f188
    refine wp_cv (A' := A185) (v := none) rfl rfl rfl rfl rfl (show _ from h12.1) (by omega) (g186) rfl ?_
    show am_wp d 151 (35, [some (.ref (b)), some (.int (sb_i jn)), some (.int (Int32.ofNat (96 + (rg_R S)))), none], [], A185) _
    refine wp_st 1 (f' := (36, [some (.ref (b)), some (.int (sb_i jn)), some (.int (Int32.ofNat (96 + (rg_R S)))), none], [.ref (b)], A185)) rfl ?_
    refine rw_gr h187 rfl rfl rfl rfl rfl rfl ?_
    refine wp_st 2 (f' := (41, [some (.ref (b)), some (.int (sb_i jn)), some (.int (Int32.ofNat (96 + (rg_R S)))), none], [.ref (b), .int (Int32.ofNat (96 + (rg_R S))), .ref (b + 21)], A185)) rfl ?_
    refine rw_gf (v := .long (Int64.ofNat (cs.getD (rd_sk cs n p) 0 - 96))) h187 rfl rfl rfl rfl (rfl) rfl ?_
    refine wp_st 2 (f' := (48, [some (.ref (b)), some (.int (sb_i jn)), some (.int (Int32.ofNat (96 + (rg_R S)))), none], [.int (lg_cmp (Int64.ofNat (cs.getD (rd_sk cs n p) 0 - 96)) (26)), .int (Int32.ofNat (96 + (rg_R S))), .ref (b + 21)], A185)) rfl ?_
    refine wp_izF rfl rfl (fun q => absurd ((i64_lt (a := 26) (b := cs.getD (rd_sk cs n p) 0 - 96) (by omega) (by omega)).mp ((lg_cmp_gt _ _).mp q)) (by omega)) ?_
    refine wp_st 1 (f' := (52, [some (.ref (b)), some (.int (sb_i jn)), some (.int (Int32.ofNat (96 + (rg_R S)))), none], [.ref (b), .int (Int32.ofNat (96 + (rg_R S))), .ref (b + 21)], A185)) rfl ?_
    refine rw_gf (v := .long (Int64.ofNat (cs.getD (rd_sk cs n p) 0 - 96))) h187 rfl rfl rfl rfl (rfl) rfl ?_
    refine wp_st 2 (f' := (57, [some (.ref (b)), some (.int (sb_i jn)), some (.int (Int32.ofNat (96 + (rg_R S)))), none], [.int (lg_cmp (Int64.ofNat (cs.getD (rd_sk cs n p) 0 - 96)) (Int64.ofNat 0)), .int (Int32.ofNat (96 + (rg_R S))), .ref (b + 21)], A185)) rfl ?_
    refine wp_izT rfl rfl ((lg_cmp_ge _ _).mpr ((i64_le (a := 0) (b := cs.getD (rd_sk cs n p) 0 - 96) (by omega) (by omega)).mpr (by omega))) ?_
    refine wp_st 1 (f' := (65, [some (.ref (b)), some (.int (sb_i jn)), some (.int (Int32.ofNat (96 + (rg_R S)))), none], [.ref (b), .int (Int32.ofNat (96 + (rg_R S))), .ref (b + 21)], A185)) rfl ?_
    rcases hix : ru_ix (cs.getD (rd_sk cs n p) 0) with _ | o9
    · skip
      have hop : ru_opnd cs n (rd_sk cs n p) = .error (rd_sk cs n p) := by unfold ru_opnd; rw [if_pos (by omega), hlk1, hix]
      refine wp_cv (A' := A185) (v := some (.int ((-1)))) rfl rfl rfl rfl rfl (show _ from h187.1) (by omega) (by have e := rn_op (d := d - 1) (N := cs.getD (rd_sk cs n p) 0 - 96) (by omega) h187; rw [show cs.getD (rd_sk cs n p) 0 - 96 + 96 = cs.getD (rd_sk cs n p) 0 by omega, hix] at e; exact e) rfl ?_
      show am_wp d 151 (68, [some (.ref (b)), some (.int (sb_i jn)), some (.int (Int32.ofNat (96 + (rg_R S)))), none], [.int ((-1)), .int (Int32.ofNat (96 + (rg_R S))), .ref (b + 21)], A185) _
      refine rw_as (j := 32) (n := 96 + (rg_R S)) (v := .int ((-1))) h187 rfl rfl rfl (Or.inl ⟨rfl, rfl, rfl⟩) (show _ < 144 from by omega) rfl rfl (fun A190 h191 f192 => ?_)
      have f193 := f189.trans f192
      rw [rf_c_u (by decide)] at h191
      refine wp_st 1 (f' := (70, [some (.ref (b)), some (.int (sb_i jn)), some (.int (Int32.ofNat (96 + (rg_R S)))), none], [.ref (b)], A190)) rfl ?_
      refine rw_gr h191 rfl rfl rfl rfl rfl rfl ?_
      refine wp_st 1 (f' := (74, [some (.ref (b)), some (.int (sb_i jn)), some (.int (Int32.ofNat (96 + (rg_R S)))), none], [.int (Int32.ofNat (96 + (rg_R S))), .ref (b + 21)], A190)) rfl ?_
      refine rw_al (j := 32) (n := 96 + (rg_R S)) (v := .int ((-1))) h191 rfl rfl rfl (Or.inl ⟨rfl, rfl⟩) rfl (show _ < 144 from by omega) (by rw [rf_c_ne (show 32 ≠ 17 ∧ 32 ≠ 18 ∧ 32 ≠ 28 ∧ 32 ≠ 29 by decide), rf_u_eq]) rfl ?_
      refine wp_izF rfl rfl (show ¬ (Int32.ofNat 0 ≤ (-1 : Int32)) from by decide) ?_
      refine wp_st 2 (f' := (80, [some (.ref (b)), some (.int (sb_i jn)), some (.int (Int32.ofNat (96 + (rg_R S)))), none], [.ref (b), .ref (b)], A190)) rfl ?_
      refine rw_gf (v := .int (Int32.ofNat (rd_sk cs n p))) h191 rfl rfl rfl rfl (rfl) rfl ?_
      obtain ⟨A194, g195, h196, f197⟩ := (show rf_go _ _ _ _ _ _ (rf_c (rf_u (rf_u (rf_u s 40 0 (.int (Int32.ofNat (rg_R S + 1)))) 35 (96 + (rg_R S)) (.int (sb_i jn))) 32 (96 + (rg_R S)) (.int ((-1)))) (sb_re 97 122 cs n (rd_sk cs n p)) (Int32.ofNat (rd_sk cs n p)) (Int64.ofNat (cs.getD (rd_sk cs n p) 0 - 96)) (rd_sk cs n p)) from by have e := rr_fail (d := d - 1) (x := rd_sk cs n p) h191; rw [rf_w_m] at e; exact e)
      have f198 := f193.trans f197
      refine wp_cv (A' := A194) (v := none) rfl rfl rfl rfl rfl (show _ from h191.1) (by omega) (g195) rfl ?_
      show am_wp d 151 (86, [some (.ref (b)), some (.int (sb_i jn)), some (.int (Int32.ofNat (96 + (rg_R S)))), none], [], A194) _
      refine wp_st 1 (f' := (87, [some (.ref (b)), some (.int (sb_i jn)), some (.int (Int32.ofNat (96 + (rg_R S)))), none], [.ref (b)], A194)) rfl ?_
      refine rw_gr h196 rfl rfl rfl rfl rfl rfl ?_
      refine wp_st 2 (f' := (92, [some (.ref (b)), some (.int (sb_i jn)), some (.int (Int32.ofNat (96 + (rg_R S)))), none], [.int (Int32.ofNat 0), .int (Int32.ofNat (96 + (rg_R S))), .ref (b + 22)], A194)) rfl ?_
      refine rw_as (j := 33) (n := 96 + (rg_R S)) (v := .int (Int32.ofNat 0)) h196 rfl rfl rfl (Or.inl ⟨rfl, rfl, rfl⟩) (show _ < 144 from by omega) rfl rfl (fun A199 h200 f201 => ?_)
      have f202 := f198.trans f201
      rw [rf_c_u (by decide)] at h200
      refine wp_st 1 (f' := (94, [some (.ref (b)), some (.int (sb_i jn)), some (.int (Int32.ofNat (96 + (rg_R S)))), none], [.ref (b)], A199)) rfl ?_
      have k203 := rd_sk_gt (cs := cs) (n := n) (a := sb_re 97 122 cs n (rd_sk cs n p))
      obtain ⟨A204, g205, h206, f207⟩ := (show rf_go (d - 1) 129 [.ref b] A199 b none (rf_c (rf_u (rf_u (rf_u (rf_u s 40 0 (.int (Int32.ofNat (rg_R S + 1)))) 35 (96 + (rg_R S)) (.int (sb_i jn))) 32 (96 + (rg_R S)) (.int ((-1)))) 33 (96 + (rg_R S)) (.int (Int32.ofNat 0))) (rd_sk cs n (sb_re 97 122 cs n (rd_sk cs n p))) (Int32.ofNat (rd_sk cs n p)) (Int64.ofNat (cs.getD (rd_sk cs n p) 0 - 96)) (rd_sk cs n p)) from rr_spaces (d := d - 1) (by omega) (by omega) (show rf_tx (rf_u (rf_u (rf_u (rf_u s 40 0 (.int (Int32.ofNat (rg_R S + 1)))) 35 (96 + (rg_R S)) (.int (sb_i jn))) 32 (96 + (rg_R S)) (.int ((-1)))) 33 (96 + (rg_R S)) (.int (Int32.ofNat 0))) cs n from hx) h200)
      have f208 := f202.trans f207
      refine wp_cv (A' := A204) (v := none) rfl rfl rfl rfl rfl (show _ from h200.1) (by omega) (g205) rfl ?_
      show am_wp d 151 (97, [some (.ref (b)), some (.int (sb_i jn)), some (.int (Int32.ofNat (96 + (rg_R S)))), none], [], A204) _
      refine wp_st 2 (f' := (99, [some (.ref (b)), some (.int (sb_i jn)), some (.int (Int32.ofNat (96 + (rg_R S)))), none], [.ref (b), .ref (b)], A204)) rfl ?_
      refine rw_gf (v := .int (Int32.ofNat (rd_sk cs n (sb_re 97 122 cs n (rd_sk cs n p))))) h206 rfl rfl rfl rfl (rfl) rfl ?_
      have l209 := hlk (rd_sk cs n (sb_re 97 122 cs n (rd_sk cs n p)))
      refine wp_cv (A' := A204) (v := some (.int (Int32.ofNat (sb_lk cs n (rd_sk cs n (sb_re 97 122 cs n (rd_sk cs n p))))))) rfl rfl rfl rfl rfl (show _ from h206.1) (by omega) (rr_look (by omega) (show rf_tx (rf_u (rf_u (rf_u (rf_u s 40 0 (.int (Int32.ofNat (rg_R S + 1)))) 35 (96 + (rg_R S)) (.int (sb_i jn))) 32 (96 + (rg_R S)) (.int ((-1)))) 33 (96 + (rg_R S)) (.int (Int32.ofNat 0))) cs n from hx) h206) rfl ?_
      show am_wp d 151 (105, [some (.ref (b)), some (.int (sb_i jn)), some (.int (Int32.ofNat (96 + (rg_R S)))), none], [.int (Int32.ofNat (sb_lk cs n (rd_sk cs n (sb_re 97 122 cs n (rd_sk cs n p)))))], A204) _
      refine wp_st 1 (f' := (107, [some (.ref (b)), some (.int (sb_i jn)), some (.int (Int32.ofNat (96 + (rg_R S)))), none], [.int (Int32.ofNat 37), .int (Int32.ofNat (sb_lk cs n (rd_sk cs n (sb_re 97 122 cs n (rd_sk cs n p)))))], A204)) rfl ?_
      refine wp_if rfl rfl rfl (fun (h210 : (Int32.ofNat (sb_lk cs n (rd_sk cs n (sb_re 97 122 cs n (rd_sk cs n p))))) ≠ (Int32.ofNat 37)) => ?_) (fun (h210 : ¬ ((Int32.ofNat (sb_lk cs n (rd_sk cs n (sb_re 97 122 cs n (rd_sk cs n p))))) ≠ (Int32.ofNat 37))) => ?_)
      · skip
        rw [ne_eq, i32_eq (by omega) (by omega)] at h210
        refine wp_st 1 (f' := (175, [some (.ref (b)), some (.int (sb_i jn)), some (.int (Int32.ofNat (96 + (rg_R S)))), none], [.ref (b)], A204)) rfl ?_
        refine rw_gr h206 rfl rfl rfl rfl rfl rfl ?_
        refine wp_st 3 (f' := (181, [some (.ref (b)), some (.int (sb_i jn)), some (.int (Int32.ofNat (96 + (rg_R S)))), none], [.ref (b), .ref (b), .int (Int32.ofNat (96 + (rg_R S))), .ref (b + 23)], A204)) rfl ?_
        refine rw_gf (v := .int (Int32.ofNat (rd_sk cs n (sb_re 97 122 cs n (rd_sk cs n p))))) h206 rfl rfl rfl rfl (rfl) rfl ?_
        have l211 := hlk (rd_sk cs n (sb_re 97 122 cs n (rd_sk cs n p)))
        refine wp_cv (A' := A204) (v := some (.int (Int32.ofNat (sb_lk cs n (rd_sk cs n (sb_re 97 122 cs n (rd_sk cs n p))))))) rfl rfl rfl rfl rfl (show _ from h206.1) (by omega) (rr_look (by omega) (show rf_tx (rf_u (rf_u (rf_u (rf_u s 40 0 (.int (Int32.ofNat (rg_R S + 1)))) 35 (96 + (rg_R S)) (.int (sb_i jn))) 32 (96 + (rg_R S)) (.int ((-1)))) 33 (96 + (rg_R S)) (.int (Int32.ofNat 0))) cs n from hx) h206) rfl ?_
        show am_wp d 151 (187, [some (.ref (b)), some (.int (sb_i jn)), some (.int (Int32.ofNat (96 + (rg_R S)))), none], [.int (Int32.ofNat (sb_lk cs n (rd_sk cs n (sb_re 97 122 cs n (rd_sk cs n p))))), .int (Int32.ofNat (96 + (rg_R S))), .ref (b + 23)], A204) _
        refine wp_st 1 (f' := (189, [some (.ref (b)), some (.int (sb_i jn)), some (.int (Int32.ofNat (96 + (rg_R S)))), none], [.int (Int32.ofNat 33), .int (Int32.ofNat (sb_lk cs n (rd_sk cs n (sb_re 97 122 cs n (rd_sk cs n p))))), .int (Int32.ofNat (96 + (rg_R S))), .ref (b + 23)], A204)) rfl ?_
        refine wp_if rfl rfl rfl (fun (h212 : (Int32.ofNat (sb_lk cs n (rd_sk cs n (sb_re 97 122 cs n (rd_sk cs n p))))) ≠ (Int32.ofNat 33)) => ?_) (fun (h212 : ¬ ((Int32.ofNat (sb_lk cs n (rd_sk cs n (sb_re 97 122 cs n (rd_sk cs n p))))) ≠ (Int32.ofNat 33))) => ?_)
        · skip
          rw [ne_eq, i32_eq (by omega) (by omega)] at h212
          refine wp_st 1 (f' := (197, [some (.ref (b)), some (.int (sb_i jn)), some (.int (Int32.ofNat (96 + (rg_R S)))), none], [.int (Int32.ofNat 0), .int (Int32.ofNat (96 + (rg_R S))), .ref (b + 23)], A204)) rfl ?_
          refine rw_as (j := 34) (n := 96 + (rg_R S)) (v := .int (sb_i false)) h206 rfl rfl rfl (Or.inr (Or.inr ⟨rfl, rfl, rfl⟩)) (show _ < 144 from by omega) (sb_narrow_z false) rfl (fun A213 h214 f215 => ?_)
          have f216 := f208.trans f215
          rw [rf_c_u (by decide)] at h214
          refine wp_st 2 (f' := (200, [some (.ref (b)), some (.int (sb_i jn)), some (.int (Int32.ofNat (96 + (rg_R S)))), none], [.ref (b), .ref (b)], A213)) rfl ?_
          refine rw_gr h214 rfl rfl rfl rfl rfl rfl ?_
          refine wp_st 1 (f' := (204, [some (.ref (b)), some (.int (sb_i jn)), some (.int (Int32.ofNat (96 + (rg_R S)))), none], [.int (Int32.ofNat (96 + (rg_R S))), .ref (b + 23), .ref (b)], A213)) rfl ?_
          refine rw_al (j := 34) (n := 96 + (rg_R S)) (v := .int (Int32.ofNat 0)) h214 rfl rfl rfl (Or.inr (Or.inr (Or.inr (Or.inl ⟨rfl, rfl⟩)))) rfl (show _ < 144 from by omega) (by rw [rf_c_ne (show 34 ≠ 17 ∧ 34 ≠ 18 ∧ 34 ≠ 28 ∧ 34 ≠ 29 by decide), rf_u_eq]; rfl) rfl ?_
          refine wp_izT rfl rfl (show (Int32.ofNat 0) = (Int32.ofNat 0) from by decide) ?_
          refine wp_st 1 (f' := (218, [some (.ref (b)), some (.int (sb_i jn)), some (.int (Int32.ofNat (96 + (rg_R S)))), none], [.ref (b), .ref (b)], A213)) rfl ?_
          refine rw_gf (v := .int (Int32.ofNat (rd_sk cs n (sb_re 97 122 cs n (rd_sk cs n p))))) h214 rfl rfl rfl rfl (rfl) rfl ?_
          refine rw_pf (v := .int (Int32.ofNat (rd_sk cs n (sb_re 97 122 cs n (rd_sk cs n p))))) h214 rfl rfl rfl rfl rfl rfl (fun A217 h218 f219 => ?_)
          have f220 := f216.trans f219
          rw [rf_c17] at h218
          refine wp_st 2 (f' := (227, [some (.ref (b)), some (.int (sb_i jn)), some (.int (Int32.ofNat (96 + (rg_R S)))), none], [.int (Int32.ofNat 61), .ref (b)], A217)) rfl ?_
          by_cases c221 : sb_lk cs n (rd_sk cs n (sb_re 97 122 cs n (rd_sk cs n p))) = 61
          · skip
            have c221p : rd_sk cs n (sb_re 97 122 cs n (rd_sk cs n p)) < n := sb_lk_pos (cs := cs) (by omega)
            obtain ⟨A222, g223, h224, f225⟩ := (show rf_go _ _ _ _ _ _ (rf_c (rf_u (rf_u (rf_u (rf_u (rf_u s 40 0 (.int (Int32.ofNat (rg_R S + 1)))) 35 (96 + (rg_R S)) (.int (sb_i jn))) 32 (96 + (rg_R S)) (.int ((-1)))) 33 (96 + (rg_R S)) (.int (Int32.ofNat 0))) 34 (96 + (rg_R S)) (.int (sb_i false))) (rd_sk cs n (sb_re 97 122 cs n (rd_sk cs n p)) + 1) (Int32.ofNat (rd_sk cs n p)) (Int64.ofNat (cs.getD (rd_sk cs n p) 0 - 96)) (rd_sk cs n p)) from by have e := rr_need (d := d - 1) (c := 61) (by omega) (by omega) (by omega) (show rf_tx (rf_u (rf_u (rf_u (rf_u (rf_u s 40 0 (.int (Int32.ofNat (rg_R S + 1)))) 35 (96 + (rg_R S)) (.int (sb_i jn))) 32 (96 + (rg_R S)) (.int ((-1)))) 33 (96 + (rg_R S)) (.int (Int32.ofNat 0))) 34 (96 + (rg_R S)) (.int (sb_i false))) cs n from hx) h218; rw [if_pos c221] at e; exact e)
            have f226 := f220.trans f225
            refine wp_cv (A' := A222) (v := none) rfl rfl rfl rfl rfl (show _ from h218.1) (by omega) (g223) rfl ?_
            show am_wp d 151 (230, [some (.ref (b)), some (.int (sb_i jn)), some (.int (Int32.ofNat (96 + (rg_R S)))), none], [], A222) _
            refine wp_st 1 (f' := (231, [some (.ref (b)), some (.int (sb_i jn)), some (.int (Int32.ofNat (96 + (rg_R S)))), none], [.ref (b)], A222)) rfl ?_
            refine rw_gr h224 rfl rfl rfl rfl rfl rfl ?_
            refine wp_st 3 (f' := (239, [some (.ref (b)), some (.int (sb_i jn)), some (.int (Int32.ofNat (96 + (rg_R S)))), none], [.ref (b), .int (Int32.ofNat 128), .int (Int32.ofNat (96 + (rg_R S))), .ref (b + 25)], A222)) rfl ?_
            refine rw_gf (v := .int (Int32.ofNat (rg_G S))) h224 rfl rfl rfl rfl (hs.2.1) rfl ?_
            refine wp_st 1 (f' := (243, [some (.ref (b)), some (.int (sb_i jn)), some (.int (Int32.ofNat (96 + (rg_R S)))), none], [.int ((Int32.ofNat 128) + (Int32.ofNat (rg_G S))), .int (Int32.ofNat (96 + (rg_R S))), .ref (b + 25)], A222)) rfl ?_
            rw [i32_add (128) (rg_G S)]
            refine rw_as (j := 36) (n := 96 + (rg_R S)) (v := .int (Int32.ofNat (128 + (rg_G S)))) h224 rfl rfl rfl (Or.inl ⟨rfl, rfl, rfl⟩) (show _ < 144 from by omega) rfl rfl (fun A227 h228 f229 => ?_)
            have f230 := f226.trans f229
            rw [rf_c_u (by decide)] at h228
            refine wp_st 1 (f' := (245, [some (.ref (b)), some (.int (sb_i jn)), some (.int (Int32.ofNat (96 + (rg_R S)))), none], [.ref (b)], A227)) rfl ?_
            refine rw_gr h228 rfl rfl rfl rfl rfl rfl ?_
            refine wp_st 2 (f' := (250, [some (.ref (b)), some (.int (sb_i jn)), some (.int (Int32.ofNat (96 + (rg_R S)))), none], [.int (Int32.ofNat 0), .int (Int32.ofNat (96 + (rg_R S))), .ref (b + 26)], A227)) rfl ?_
            refine rw_as (j := 37) (n := 96 + (rg_R S)) (v := .int (Int32.ofNat 0)) h228 rfl rfl rfl (Or.inl ⟨rfl, rfl, rfl⟩) (show _ < 144 from by omega) rfl rfl (fun A231 h232 f233 => ?_)
            have f234 := f230.trans f233
            rw [rf_c_u (by decide)] at h232
            refine wp_st 2 (f' := (253, [some (.ref (b)), some (.int (sb_i jn)), some (.int (Int32.ofNat (96 + (rg_R S)))), some (.int (Int32.ofNat 1))], [], A231)) rfl ?_
            refine wp_st 1 (f' := (254, [some (.ref (b)), some (.int (sb_i jn)), some (.int (Int32.ofNat (96 + (rg_R S)))), some (.int (Int32.ofNat 1))], [.int (Int32.ofNat 1)], A231)) rfl ?_
            refine wp_izF rfl rfl (show ¬ ((Int32.ofNat 1) = (Int32.ofNat 0)) from by decide) ?_
            refine wp_st 1 (f' := (258, [some (.ref (b)), some (.int (sb_i jn)), some (.int (Int32.ofNat (96 + (rg_R S)))), some (.int (Int32.ofNat 1))], [.ref (b)], A231)) rfl ?_
            refine rw_gf (v := .int (Int32.ofNat (rd_sk cs n p))) h232 rfl rfl rfl rfl (rfl) rfl ?_
            refine wp_izT rfl rfl (show Int32.ofNat 0 ≤ (Int32.ofNat (rd_sk cs n p)) from Int32.not_lt.mp (Int32.ofNat_not_neg (by omega))) ?_
            refine wp_rt rfl rfl rfl ?_
            have hres : ru_rel cs n (!jn) p S = .error (rd_sk cs n p) := by simp [ru_rel, ru_rel2, ru_mod, hop, h210, h212, c221]
            rw [hres]
            exact rq_Q_er (k := rg_R S + 1) h232 (by simp only [rf_u_if]; simp) (by omega) (by omega) ((((((((rs_X.refl s).u (by unfold rs_sc; omega)).u (by unfold rs_sc; omega)).u (by unfold rs_sc; omega)).u (by unfold rs_sc; omega)).u (by unfold rs_sc; omega)).u (by unfold rs_sc; omega)).u (by unfold rs_sc; omega)) f234
          · skip
            obtain ⟨A235, g236, h237, f238⟩ := (show rf_go _ _ _ _ _ _ (rf_c (rf_u (rf_u (rf_u (rf_u (rf_u s 40 0 (.int (Int32.ofNat (rg_R S + 1)))) 35 (96 + (rg_R S)) (.int (sb_i jn))) 32 (96 + (rg_R S)) (.int ((-1)))) 33 (96 + (rg_R S)) (.int (Int32.ofNat 0))) 34 (96 + (rg_R S)) (.int (sb_i false))) (rd_sk cs n (sb_re 97 122 cs n (rd_sk cs n p)) + 1) (Int32.ofNat (rd_sk cs n p)) (Int64.ofNat (cs.getD (rd_sk cs n p) 0 - 96)) (rd_sk cs n p)) from by have e := rr_need (d := d - 1) (c := 61) (by omega) (by omega) (by omega) (show rf_tx (rf_u (rf_u (rf_u (rf_u (rf_u s 40 0 (.int (Int32.ofNat (rg_R S + 1)))) 35 (96 + (rg_R S)) (.int (sb_i jn))) 32 (96 + (rg_R S)) (.int ((-1)))) 33 (96 + (rg_R S)) (.int (Int32.ofNat 0))) 34 (96 + (rg_R S)) (.int (sb_i false))) cs n from hx) h218; rw [if_neg c221, rf_w_n (by omega)] at e; exact e)
            have f239 := f220.trans f238
            refine wp_cv (A' := A235) (v := none) rfl rfl rfl rfl rfl (show _ from h218.1) (by omega) (g236) rfl ?_
            show am_wp d 151 (230, [some (.ref (b)), some (.int (sb_i jn)), some (.int (Int32.ofNat (96 + (rg_R S)))), none], [], A235) _
            refine wp_st 1 (f' := (231, [some (.ref (b)), some (.int (sb_i jn)), some (.int (Int32.ofNat (96 + (rg_R S)))), none], [.ref (b)], A235)) rfl ?_
            refine rw_gr h237 rfl rfl rfl rfl rfl rfl ?_
            refine wp_st 3 (f' := (239, [some (.ref (b)), some (.int (sb_i jn)), some (.int (Int32.ofNat (96 + (rg_R S)))), none], [.ref (b), .int (Int32.ofNat 128), .int (Int32.ofNat (96 + (rg_R S))), .ref (b + 25)], A235)) rfl ?_
            refine rw_gf (v := .int (Int32.ofNat (rg_G S))) h237 rfl rfl rfl rfl (hs.2.1) rfl ?_
            refine wp_st 1 (f' := (243, [some (.ref (b)), some (.int (sb_i jn)), some (.int (Int32.ofNat (96 + (rg_R S)))), none], [.int ((Int32.ofNat 128) + (Int32.ofNat (rg_G S))), .int (Int32.ofNat (96 + (rg_R S))), .ref (b + 25)], A235)) rfl ?_
            rw [i32_add (128) (rg_G S)]
            refine rw_as (j := 36) (n := 96 + (rg_R S)) (v := .int (Int32.ofNat (128 + (rg_G S)))) h237 rfl rfl rfl (Or.inl ⟨rfl, rfl, rfl⟩) (show _ < 144 from by omega) rfl rfl (fun A240 h241 f242 => ?_)
            have f243 := f239.trans f242
            rw [rf_c_u (by decide)] at h241
            refine wp_st 1 (f' := (245, [some (.ref (b)), some (.int (sb_i jn)), some (.int (Int32.ofNat (96 + (rg_R S)))), none], [.ref (b)], A240)) rfl ?_
            refine rw_gr h241 rfl rfl rfl rfl rfl rfl ?_
            refine wp_st 2 (f' := (250, [some (.ref (b)), some (.int (sb_i jn)), some (.int (Int32.ofNat (96 + (rg_R S)))), none], [.int (Int32.ofNat 0), .int (Int32.ofNat (96 + (rg_R S))), .ref (b + 26)], A240)) rfl ?_
            refine rw_as (j := 37) (n := 96 + (rg_R S)) (v := .int (Int32.ofNat 0)) h241 rfl rfl rfl (Or.inl ⟨rfl, rfl, rfl⟩) (show _ < 144 from by omega) rfl rfl (fun A244 h245 f246 => ?_)
            have f247 := f243.trans f246
            rw [rf_c_u (by decide)] at h245
            refine wp_st 2 (f' := (253, [some (.ref (b)), some (.int (sb_i jn)), some (.int (Int32.ofNat (96 + (rg_R S)))), some (.int (Int32.ofNat 1))], [], A244)) rfl ?_
            refine wp_st 1 (f' := (254, [some (.ref (b)), some (.int (sb_i jn)), some (.int (Int32.ofNat (96 + (rg_R S)))), some (.int (Int32.ofNat 1))], [.int (Int32.ofNat 1)], A244)) rfl ?_
            refine wp_izF rfl rfl (show ¬ ((Int32.ofNat 1) = (Int32.ofNat 0)) from by decide) ?_
            refine wp_st 1 (f' := (258, [some (.ref (b)), some (.int (sb_i jn)), some (.int (Int32.ofNat (96 + (rg_R S)))), some (.int (Int32.ofNat 1))], [.ref (b)], A244)) rfl ?_
            refine rw_gf (v := .int (Int32.ofNat (rd_sk cs n p))) h245 rfl rfl rfl rfl (rfl) rfl ?_
            refine wp_izT rfl rfl (show Int32.ofNat 0 ≤ (Int32.ofNat (rd_sk cs n p)) from Int32.not_lt.mp (Int32.ofNat_not_neg (by omega))) ?_
            refine wp_rt rfl rfl rfl ?_
            have hres : ru_rel cs n (!jn) p S = .error (rd_sk cs n p) := by simp [ru_rel, ru_rel2, ru_mod, hop, h210, h212, c221]
            rw [hres]
            exact rq_Q_er (k := rg_R S + 1) h245 (by simp only [rf_u_if]; simp) (by omega) (by omega) ((((((((rs_X.refl s).u (by unfold rs_sc; omega)).u (by unfold rs_sc; omega)).u (by unfold rs_sc; omega)).u (by unfold rs_sc; omega)).u (by unfold rs_sc; omega)).u (by unfold rs_sc; omega)).u (by unfold rs_sc; omega)) f247
        · skip
          rw [ne_eq, i32_eq (by omega) (by omega)] at h212
          replace h212 := Decidable.not_not.mp h212
          have h212p : rd_sk cs n (sb_re 97 122 cs n (rd_sk cs n p)) < n := sb_lk_pos (cs := cs) (by omega)
          refine wp_st 2 (f' := (197, [some (.ref (b)), some (.int (sb_i jn)), some (.int (Int32.ofNat (96 + (rg_R S)))), none], [.int (Int32.ofNat 1), .int (Int32.ofNat (96 + (rg_R S))), .ref (b + 23)], A204)) rfl ?_
          refine rw_as (j := 34) (n := 96 + (rg_R S)) (v := .int (sb_i true)) h206 rfl rfl rfl (Or.inr (Or.inr ⟨rfl, rfl, rfl⟩)) (show _ < 144 from by omega) (sb_narrow_z true) rfl (fun A248 h249 f250 => ?_)
          have f251 := f208.trans f250
          rw [rf_c_u (by decide)] at h249
          refine wp_st 2 (f' := (200, [some (.ref (b)), some (.int (sb_i jn)), some (.int (Int32.ofNat (96 + (rg_R S)))), none], [.ref (b), .ref (b)], A248)) rfl ?_
          refine rw_gr h249 rfl rfl rfl rfl rfl rfl ?_
          refine wp_st 1 (f' := (204, [some (.ref (b)), some (.int (sb_i jn)), some (.int (Int32.ofNat (96 + (rg_R S)))), none], [.int (Int32.ofNat (96 + (rg_R S))), .ref (b + 23), .ref (b)], A248)) rfl ?_
          refine rw_al (j := 34) (n := 96 + (rg_R S)) (v := .int (Int32.ofNat 1)) h249 rfl rfl rfl (Or.inr (Or.inr (Or.inr (Or.inl ⟨rfl, rfl⟩)))) rfl (show _ < 144 from by omega) (by rw [rf_c_ne (show 34 ≠ 17 ∧ 34 ≠ 18 ∧ 34 ≠ 28 ∧ 34 ≠ 29 by decide), rf_u_eq]; rfl) rfl ?_
          refine wp_izF rfl rfl (show ¬ ((Int32.ofNat 1) = (Int32.ofNat 0)) from by decide) ?_
          refine wp_st 1 (f' := (209, [some (.ref (b)), some (.int (sb_i jn)), some (.int (Int32.ofNat (96 + (rg_R S)))), none], [.ref (b), .ref (b)], A248)) rfl ?_
          refine rw_gf (v := .int (Int32.ofNat (rd_sk cs n (sb_re 97 122 cs n (rd_sk cs n p))))) h249 rfl rfl rfl rfl (rfl) rfl ?_
          refine wp_st 2 (f' := (214, [some (.ref (b)), some (.int (sb_i jn)), some (.int (Int32.ofNat (96 + (rg_R S)))), none], [.int ((Int32.ofNat (rd_sk cs n (sb_re 97 122 cs n (rd_sk cs n p)))) + (Int32.ofNat 1)), .ref (b)], A248)) rfl ?_
          rw [i32_add (rd_sk cs n (sb_re 97 122 cs n (rd_sk cs n p))) (1)]
          refine wp_st 1 (f' := (221, [some (.ref (b)), some (.int (sb_i jn)), some (.int (Int32.ofNat (96 + (rg_R S)))), none], [.int (Int32.ofNat (rd_sk cs n (sb_re 97 122 cs n (rd_sk cs n p)) + 1)), .ref (b)], A248)) rfl ?_
          refine rw_pf (v := .int (Int32.ofNat (rd_sk cs n (sb_re 97 122 cs n (rd_sk cs n p)) + 1))) h249 rfl rfl rfl rfl rfl rfl (fun A252 h253 f254 => ?_)
          have f255 := f251.trans f254
          rw [rf_c17] at h253
          refine wp_st 2 (f' := (227, [some (.ref (b)), some (.int (sb_i jn)), some (.int (Int32.ofNat (96 + (rg_R S)))), none], [.int (Int32.ofNat 61), .ref (b)], A252)) rfl ?_
          by_cases c256 : sb_lk cs n (rd_sk cs n (sb_re 97 122 cs n (rd_sk cs n p)) + 1) = 61
          · skip
            have c256p : rd_sk cs n (sb_re 97 122 cs n (rd_sk cs n p)) + 1 < n := sb_lk_pos (cs := cs) (by omega)
            obtain ⟨A257, g258, h259, f260⟩ := (show rf_go _ _ _ _ _ _ (rf_c (rf_u (rf_u (rf_u (rf_u (rf_u s 40 0 (.int (Int32.ofNat (rg_R S + 1)))) 35 (96 + (rg_R S)) (.int (sb_i jn))) 32 (96 + (rg_R S)) (.int ((-1)))) 33 (96 + (rg_R S)) (.int (Int32.ofNat 0))) 34 (96 + (rg_R S)) (.int (sb_i true))) (rd_sk cs n (sb_re 97 122 cs n (rd_sk cs n p)) + 1 + 1) (Int32.ofNat (rd_sk cs n p)) (Int64.ofNat (cs.getD (rd_sk cs n p) 0 - 96)) (rd_sk cs n p)) from by have e := rr_need (d := d - 1) (c := 61) (by omega) (by omega) (by omega) (show rf_tx (rf_u (rf_u (rf_u (rf_u (rf_u s 40 0 (.int (Int32.ofNat (rg_R S + 1)))) 35 (96 + (rg_R S)) (.int (sb_i jn))) 32 (96 + (rg_R S)) (.int ((-1)))) 33 (96 + (rg_R S)) (.int (Int32.ofNat 0))) 34 (96 + (rg_R S)) (.int (sb_i true))) cs n from hx) h253; rw [if_pos c256] at e; exact e)
            have f261 := f255.trans f260
            refine wp_cv (A' := A257) (v := none) rfl rfl rfl rfl rfl (show _ from h253.1) (by omega) (g258) rfl ?_
            show am_wp d 151 (230, [some (.ref (b)), some (.int (sb_i jn)), some (.int (Int32.ofNat (96 + (rg_R S)))), none], [], A257) _
            refine wp_st 1 (f' := (231, [some (.ref (b)), some (.int (sb_i jn)), some (.int (Int32.ofNat (96 + (rg_R S)))), none], [.ref (b)], A257)) rfl ?_
            refine rw_gr h259 rfl rfl rfl rfl rfl rfl ?_
            refine wp_st 3 (f' := (239, [some (.ref (b)), some (.int (sb_i jn)), some (.int (Int32.ofNat (96 + (rg_R S)))), none], [.ref (b), .int (Int32.ofNat 128), .int (Int32.ofNat (96 + (rg_R S))), .ref (b + 25)], A257)) rfl ?_
            refine rw_gf (v := .int (Int32.ofNat (rg_G S))) h259 rfl rfl rfl rfl (hs.2.1) rfl ?_
            refine wp_st 1 (f' := (243, [some (.ref (b)), some (.int (sb_i jn)), some (.int (Int32.ofNat (96 + (rg_R S)))), none], [.int ((Int32.ofNat 128) + (Int32.ofNat (rg_G S))), .int (Int32.ofNat (96 + (rg_R S))), .ref (b + 25)], A257)) rfl ?_
            rw [i32_add (128) (rg_G S)]
            refine rw_as (j := 36) (n := 96 + (rg_R S)) (v := .int (Int32.ofNat (128 + (rg_G S)))) h259 rfl rfl rfl (Or.inl ⟨rfl, rfl, rfl⟩) (show _ < 144 from by omega) rfl rfl (fun A262 h263 f264 => ?_)
            have f265 := f261.trans f264
            rw [rf_c_u (by decide)] at h263
            refine wp_st 1 (f' := (245, [some (.ref (b)), some (.int (sb_i jn)), some (.int (Int32.ofNat (96 + (rg_R S)))), none], [.ref (b)], A262)) rfl ?_
            refine rw_gr h263 rfl rfl rfl rfl rfl rfl ?_
            refine wp_st 2 (f' := (250, [some (.ref (b)), some (.int (sb_i jn)), some (.int (Int32.ofNat (96 + (rg_R S)))), none], [.int (Int32.ofNat 0), .int (Int32.ofNat (96 + (rg_R S))), .ref (b + 26)], A262)) rfl ?_
            refine rw_as (j := 37) (n := 96 + (rg_R S)) (v := .int (Int32.ofNat 0)) h263 rfl rfl rfl (Or.inl ⟨rfl, rfl, rfl⟩) (show _ < 144 from by omega) rfl rfl (fun A266 h267 f268 => ?_)
            have f269 := f265.trans f268
            rw [rf_c_u (by decide)] at h267
            refine wp_st 2 (f' := (253, [some (.ref (b)), some (.int (sb_i jn)), some (.int (Int32.ofNat (96 + (rg_R S)))), some (.int (Int32.ofNat 1))], [], A266)) rfl ?_
            refine wp_st 1 (f' := (254, [some (.ref (b)), some (.int (sb_i jn)), some (.int (Int32.ofNat (96 + (rg_R S)))), some (.int (Int32.ofNat 1))], [.int (Int32.ofNat 1)], A266)) rfl ?_
            refine wp_izF rfl rfl (show ¬ ((Int32.ofNat 1) = (Int32.ofNat 0)) from by decide) ?_
            refine wp_st 1 (f' := (258, [some (.ref (b)), some (.int (sb_i jn)), some (.int (Int32.ofNat (96 + (rg_R S)))), some (.int (Int32.ofNat 1))], [.ref (b)], A266)) rfl ?_
            refine rw_gf (v := .int (Int32.ofNat (rd_sk cs n p))) h267 rfl rfl rfl rfl (rfl) rfl ?_
            refine wp_izT rfl rfl (show Int32.ofNat 0 ≤ (Int32.ofNat (rd_sk cs n p)) from Int32.not_lt.mp (Int32.ofNat_not_neg (by omega))) ?_
            refine wp_rt rfl rfl rfl ?_
            have hres : ru_rel cs n (!jn) p S = .error (rd_sk cs n p) := by simp [ru_rel, ru_rel2, ru_mod, hop, h210, h212, c256]
            rw [hres]
            exact rq_Q_er (k := rg_R S + 1) h267 (by simp only [rf_u_if]; simp) (by omega) (by omega) ((((((((rs_X.refl s).u (by unfold rs_sc; omega)).u (by unfold rs_sc; omega)).u (by unfold rs_sc; omega)).u (by unfold rs_sc; omega)).u (by unfold rs_sc; omega)).u (by unfold rs_sc; omega)).u (by unfold rs_sc; omega)) f269
          · skip
            obtain ⟨A270, g271, h272, f273⟩ := (show rf_go _ _ _ _ _ _ (rf_c (rf_u (rf_u (rf_u (rf_u (rf_u s 40 0 (.int (Int32.ofNat (rg_R S + 1)))) 35 (96 + (rg_R S)) (.int (sb_i jn))) 32 (96 + (rg_R S)) (.int ((-1)))) 33 (96 + (rg_R S)) (.int (Int32.ofNat 0))) 34 (96 + (rg_R S)) (.int (sb_i true))) (rd_sk cs n (sb_re 97 122 cs n (rd_sk cs n p)) + 1 + 1) (Int32.ofNat (rd_sk cs n p)) (Int64.ofNat (cs.getD (rd_sk cs n p) 0 - 96)) (rd_sk cs n p)) from by have e := rr_need (d := d - 1) (c := 61) (by omega) (by omega) (by omega) (show rf_tx (rf_u (rf_u (rf_u (rf_u (rf_u s 40 0 (.int (Int32.ofNat (rg_R S + 1)))) 35 (96 + (rg_R S)) (.int (sb_i jn))) 32 (96 + (rg_R S)) (.int ((-1)))) 33 (96 + (rg_R S)) (.int (Int32.ofNat 0))) 34 (96 + (rg_R S)) (.int (sb_i true))) cs n from hx) h253; rw [if_neg c256, rf_w_n (by omega)] at e; exact e)
            have f274 := f255.trans f273
            refine wp_cv (A' := A270) (v := none) rfl rfl rfl rfl rfl (show _ from h253.1) (by omega) (g271) rfl ?_
            show am_wp d 151 (230, [some (.ref (b)), some (.int (sb_i jn)), some (.int (Int32.ofNat (96 + (rg_R S)))), none], [], A270) _
            refine wp_st 1 (f' := (231, [some (.ref (b)), some (.int (sb_i jn)), some (.int (Int32.ofNat (96 + (rg_R S)))), none], [.ref (b)], A270)) rfl ?_
            refine rw_gr h272 rfl rfl rfl rfl rfl rfl ?_
            refine wp_st 3 (f' := (239, [some (.ref (b)), some (.int (sb_i jn)), some (.int (Int32.ofNat (96 + (rg_R S)))), none], [.ref (b), .int (Int32.ofNat 128), .int (Int32.ofNat (96 + (rg_R S))), .ref (b + 25)], A270)) rfl ?_
            refine rw_gf (v := .int (Int32.ofNat (rg_G S))) h272 rfl rfl rfl rfl (hs.2.1) rfl ?_
            refine wp_st 1 (f' := (243, [some (.ref (b)), some (.int (sb_i jn)), some (.int (Int32.ofNat (96 + (rg_R S)))), none], [.int ((Int32.ofNat 128) + (Int32.ofNat (rg_G S))), .int (Int32.ofNat (96 + (rg_R S))), .ref (b + 25)], A270)) rfl ?_
            rw [i32_add (128) (rg_G S)]
            refine rw_as (j := 36) (n := 96 + (rg_R S)) (v := .int (Int32.ofNat (128 + (rg_G S)))) h272 rfl rfl rfl (Or.inl ⟨rfl, rfl, rfl⟩) (show _ < 144 from by omega) rfl rfl (fun A275 h276 f277 => ?_)
            have f278 := f274.trans f277
            rw [rf_c_u (by decide)] at h276
            refine wp_st 1 (f' := (245, [some (.ref (b)), some (.int (sb_i jn)), some (.int (Int32.ofNat (96 + (rg_R S)))), none], [.ref (b)], A275)) rfl ?_
            refine rw_gr h276 rfl rfl rfl rfl rfl rfl ?_
            refine wp_st 2 (f' := (250, [some (.ref (b)), some (.int (sb_i jn)), some (.int (Int32.ofNat (96 + (rg_R S)))), none], [.int (Int32.ofNat 0), .int (Int32.ofNat (96 + (rg_R S))), .ref (b + 26)], A275)) rfl ?_
            refine rw_as (j := 37) (n := 96 + (rg_R S)) (v := .int (Int32.ofNat 0)) h276 rfl rfl rfl (Or.inl ⟨rfl, rfl, rfl⟩) (show _ < 144 from by omega) rfl rfl (fun A279 h280 f281 => ?_)
            have f282 := f278.trans f281
            rw [rf_c_u (by decide)] at h280
            refine wp_st 2 (f' := (253, [some (.ref (b)), some (.int (sb_i jn)), some (.int (Int32.ofNat (96 + (rg_R S)))), some (.int (Int32.ofNat 1))], [], A279)) rfl ?_
            refine wp_st 1 (f' := (254, [some (.ref (b)), some (.int (sb_i jn)), some (.int (Int32.ofNat (96 + (rg_R S)))), some (.int (Int32.ofNat 1))], [.int (Int32.ofNat 1)], A279)) rfl ?_
            refine wp_izF rfl rfl (show ¬ ((Int32.ofNat 1) = (Int32.ofNat 0)) from by decide) ?_
            refine wp_st 1 (f' := (258, [some (.ref (b)), some (.int (sb_i jn)), some (.int (Int32.ofNat (96 + (rg_R S)))), some (.int (Int32.ofNat 1))], [.ref (b)], A279)) rfl ?_
            refine rw_gf (v := .int (Int32.ofNat (rd_sk cs n p))) h280 rfl rfl rfl rfl (rfl) rfl ?_
            refine wp_izT rfl rfl (show Int32.ofNat 0 ≤ (Int32.ofNat (rd_sk cs n p)) from Int32.not_lt.mp (Int32.ofNat_not_neg (by omega))) ?_
            refine wp_rt rfl rfl rfl ?_
            have hres : ru_rel cs n (!jn) p S = .error (rd_sk cs n p) := by simp [ru_rel, ru_rel2, ru_mod, hop, h210, h212, c256]
            rw [hres]
            exact rq_Q_er (k := rg_R S + 1) h280 (by simp only [rf_u_if]; simp) (by omega) (by omega) ((((((((rs_X.refl s).u (by unfold rs_sc; omega)).u (by unfold rs_sc; omega)).u (by unfold rs_sc; omega)).u (by unfold rs_sc; omega)).u (by unfold rs_sc; omega)).u (by unfold rs_sc; omega)).u (by unfold rs_sc; omega)) f282
      · skip
        rw [ne_eq, i32_eq (by omega) (by omega)] at h210
        replace h210 := Decidable.not_not.mp h210
        have h210p : rd_sk cs n (sb_re 97 122 cs n (rd_sk cs n p)) < n := sb_lk_pos (cs := cs) (by omega)
        refine wp_st 1 (f' := (111, [some (.ref (b)), some (.int (sb_i jn)), some (.int (Int32.ofNat (96 + (rg_R S)))), none], [.ref (b)], A204)) rfl ?_
        refine rw_gf (v := .int (Int32.ofNat (rd_sk cs n p))) h206 rfl rfl rfl rfl (rfl) rfl ?_
        refine wp_izT rfl rfl (show Int32.ofNat 0 ≤ (Int32.ofNat (rd_sk cs n p)) from Int32.not_lt.mp (Int32.ofNat_not_neg (by omega))) ?_
        refine wp_st 1 (f' := (175, [some (.ref (b)), some (.int (sb_i jn)), some (.int (Int32.ofNat (96 + (rg_R S)))), none], [.ref (b)], A204)) rfl ?_
        refine rw_gr h206 rfl rfl rfl rfl rfl rfl ?_
        refine wp_st 3 (f' := (181, [some (.ref (b)), some (.int (sb_i jn)), some (.int (Int32.ofNat (96 + (rg_R S)))), none], [.ref (b), .ref (b), .int (Int32.ofNat (96 + (rg_R S))), .ref (b + 23)], A204)) rfl ?_
        refine rw_gf (v := .int (Int32.ofNat (rd_sk cs n (sb_re 97 122 cs n (rd_sk cs n p))))) h206 rfl rfl rfl rfl (rfl) rfl ?_
        have l283 := hlk (rd_sk cs n (sb_re 97 122 cs n (rd_sk cs n p)))
        refine wp_cv (A' := A204) (v := some (.int (Int32.ofNat (sb_lk cs n (rd_sk cs n (sb_re 97 122 cs n (rd_sk cs n p))))))) rfl rfl rfl rfl rfl (show _ from h206.1) (by omega) (rr_look (by omega) (show rf_tx (rf_u (rf_u (rf_u (rf_u s 40 0 (.int (Int32.ofNat (rg_R S + 1)))) 35 (96 + (rg_R S)) (.int (sb_i jn))) 32 (96 + (rg_R S)) (.int ((-1)))) 33 (96 + (rg_R S)) (.int (Int32.ofNat 0))) cs n from hx) h206) rfl ?_
        show am_wp d 151 (187, [some (.ref (b)), some (.int (sb_i jn)), some (.int (Int32.ofNat (96 + (rg_R S)))), none], [.int (Int32.ofNat (sb_lk cs n (rd_sk cs n (sb_re 97 122 cs n (rd_sk cs n p))))), .int (Int32.ofNat (96 + (rg_R S))), .ref (b + 23)], A204) _
        refine wp_st 1 (f' := (189, [some (.ref (b)), some (.int (sb_i jn)), some (.int (Int32.ofNat (96 + (rg_R S)))), none], [.int (Int32.ofNat 33), .int (Int32.ofNat (sb_lk cs n (rd_sk cs n (sb_re 97 122 cs n (rd_sk cs n p))))), .int (Int32.ofNat (96 + (rg_R S))), .ref (b + 23)], A204)) rfl ?_
        refine wp_if rfl rfl rfl (fun (h284 : (Int32.ofNat (sb_lk cs n (rd_sk cs n (sb_re 97 122 cs n (rd_sk cs n p))))) ≠ (Int32.ofNat 33)) => ?_) (fun (h284 : ¬ ((Int32.ofNat (sb_lk cs n (rd_sk cs n (sb_re 97 122 cs n (rd_sk cs n p))))) ≠ (Int32.ofNat 33))) => ?_)
        · skip
          rw [ne_eq, i32_eq (by omega) (by omega)] at h284
          refine wp_st 1 (f' := (197, [some (.ref (b)), some (.int (sb_i jn)), some (.int (Int32.ofNat (96 + (rg_R S)))), none], [.int (Int32.ofNat 0), .int (Int32.ofNat (96 + (rg_R S))), .ref (b + 23)], A204)) rfl ?_
          refine rw_as (j := 34) (n := 96 + (rg_R S)) (v := .int (sb_i false)) h206 rfl rfl rfl (Or.inr (Or.inr ⟨rfl, rfl, rfl⟩)) (show _ < 144 from by omega) (sb_narrow_z false) rfl (fun A285 h286 f287 => ?_)
          have f288 := f208.trans f287
          rw [rf_c_u (by decide)] at h286
          refine wp_st 2 (f' := (200, [some (.ref (b)), some (.int (sb_i jn)), some (.int (Int32.ofNat (96 + (rg_R S)))), none], [.ref (b), .ref (b)], A285)) rfl ?_
          refine rw_gr h286 rfl rfl rfl rfl rfl rfl ?_
          refine wp_st 1 (f' := (204, [some (.ref (b)), some (.int (sb_i jn)), some (.int (Int32.ofNat (96 + (rg_R S)))), none], [.int (Int32.ofNat (96 + (rg_R S))), .ref (b + 23), .ref (b)], A285)) rfl ?_
          refine rw_al (j := 34) (n := 96 + (rg_R S)) (v := .int (Int32.ofNat 0)) h286 rfl rfl rfl (Or.inr (Or.inr (Or.inr (Or.inl ⟨rfl, rfl⟩)))) rfl (show _ < 144 from by omega) (by rw [rf_c_ne (show 34 ≠ 17 ∧ 34 ≠ 18 ∧ 34 ≠ 28 ∧ 34 ≠ 29 by decide), rf_u_eq]; rfl) rfl ?_
          refine wp_izT rfl rfl (show (Int32.ofNat 0) = (Int32.ofNat 0) from by decide) ?_
          refine wp_st 1 (f' := (218, [some (.ref (b)), some (.int (sb_i jn)), some (.int (Int32.ofNat (96 + (rg_R S)))), none], [.ref (b), .ref (b)], A285)) rfl ?_
          refine rw_gf (v := .int (Int32.ofNat (rd_sk cs n (sb_re 97 122 cs n (rd_sk cs n p))))) h286 rfl rfl rfl rfl (rfl) rfl ?_
          refine rw_pf (v := .int (Int32.ofNat (rd_sk cs n (sb_re 97 122 cs n (rd_sk cs n p))))) h286 rfl rfl rfl rfl rfl rfl (fun A289 h290 f291 => ?_)
          have f292 := f288.trans f291
          rw [rf_c17] at h290
          refine wp_st 2 (f' := (227, [some (.ref (b)), some (.int (sb_i jn)), some (.int (Int32.ofNat (96 + (rg_R S)))), none], [.int (Int32.ofNat 61), .ref (b)], A289)) rfl ?_
          by_cases c293 : sb_lk cs n (rd_sk cs n (sb_re 97 122 cs n (rd_sk cs n p))) = 61
          · skip
            have c293p : rd_sk cs n (sb_re 97 122 cs n (rd_sk cs n p)) < n := sb_lk_pos (cs := cs) (by omega)
            obtain ⟨A294, g295, h296, f297⟩ := (show rf_go _ _ _ _ _ _ (rf_c (rf_u (rf_u (rf_u (rf_u (rf_u s 40 0 (.int (Int32.ofNat (rg_R S + 1)))) 35 (96 + (rg_R S)) (.int (sb_i jn))) 32 (96 + (rg_R S)) (.int ((-1)))) 33 (96 + (rg_R S)) (.int (Int32.ofNat 0))) 34 (96 + (rg_R S)) (.int (sb_i false))) (rd_sk cs n (sb_re 97 122 cs n (rd_sk cs n p)) + 1) (Int32.ofNat (rd_sk cs n p)) (Int64.ofNat (cs.getD (rd_sk cs n p) 0 - 96)) (rd_sk cs n p)) from by have e := rr_need (d := d - 1) (c := 61) (by omega) (by omega) (by omega) (show rf_tx (rf_u (rf_u (rf_u (rf_u (rf_u s 40 0 (.int (Int32.ofNat (rg_R S + 1)))) 35 (96 + (rg_R S)) (.int (sb_i jn))) 32 (96 + (rg_R S)) (.int ((-1)))) 33 (96 + (rg_R S)) (.int (Int32.ofNat 0))) 34 (96 + (rg_R S)) (.int (sb_i false))) cs n from hx) h290; rw [if_pos c293] at e; exact e)
            have f298 := f292.trans f297
            refine wp_cv (A' := A294) (v := none) rfl rfl rfl rfl rfl (show _ from h290.1) (by omega) (g295) rfl ?_
            show am_wp d 151 (230, [some (.ref (b)), some (.int (sb_i jn)), some (.int (Int32.ofNat (96 + (rg_R S)))), none], [], A294) _
            refine wp_st 1 (f' := (231, [some (.ref (b)), some (.int (sb_i jn)), some (.int (Int32.ofNat (96 + (rg_R S)))), none], [.ref (b)], A294)) rfl ?_
            refine rw_gr h296 rfl rfl rfl rfl rfl rfl ?_
            refine wp_st 3 (f' := (239, [some (.ref (b)), some (.int (sb_i jn)), some (.int (Int32.ofNat (96 + (rg_R S)))), none], [.ref (b), .int (Int32.ofNat 128), .int (Int32.ofNat (96 + (rg_R S))), .ref (b + 25)], A294)) rfl ?_
            refine rw_gf (v := .int (Int32.ofNat (rg_G S))) h296 rfl rfl rfl rfl (hs.2.1) rfl ?_
            refine wp_st 1 (f' := (243, [some (.ref (b)), some (.int (sb_i jn)), some (.int (Int32.ofNat (96 + (rg_R S)))), none], [.int ((Int32.ofNat 128) + (Int32.ofNat (rg_G S))), .int (Int32.ofNat (96 + (rg_R S))), .ref (b + 25)], A294)) rfl ?_
            rw [i32_add (128) (rg_G S)]
            refine rw_as (j := 36) (n := 96 + (rg_R S)) (v := .int (Int32.ofNat (128 + (rg_G S)))) h296 rfl rfl rfl (Or.inl ⟨rfl, rfl, rfl⟩) (show _ < 144 from by omega) rfl rfl (fun A299 h300 f301 => ?_)
            have f302 := f298.trans f301
            rw [rf_c_u (by decide)] at h300
            refine wp_st 1 (f' := (245, [some (.ref (b)), some (.int (sb_i jn)), some (.int (Int32.ofNat (96 + (rg_R S)))), none], [.ref (b)], A299)) rfl ?_
            refine rw_gr h300 rfl rfl rfl rfl rfl rfl ?_
            refine wp_st 2 (f' := (250, [some (.ref (b)), some (.int (sb_i jn)), some (.int (Int32.ofNat (96 + (rg_R S)))), none], [.int (Int32.ofNat 0), .int (Int32.ofNat (96 + (rg_R S))), .ref (b + 26)], A299)) rfl ?_
            refine rw_as (j := 37) (n := 96 + (rg_R S)) (v := .int (Int32.ofNat 0)) h300 rfl rfl rfl (Or.inl ⟨rfl, rfl, rfl⟩) (show _ < 144 from by omega) rfl rfl (fun A303 h304 f305 => ?_)
            have f306 := f302.trans f305
            rw [rf_c_u (by decide)] at h304
            refine wp_st 2 (f' := (253, [some (.ref (b)), some (.int (sb_i jn)), some (.int (Int32.ofNat (96 + (rg_R S)))), some (.int (Int32.ofNat 1))], [], A303)) rfl ?_
            refine wp_st 1 (f' := (254, [some (.ref (b)), some (.int (sb_i jn)), some (.int (Int32.ofNat (96 + (rg_R S)))), some (.int (Int32.ofNat 1))], [.int (Int32.ofNat 1)], A303)) rfl ?_
            refine wp_izF rfl rfl (show ¬ ((Int32.ofNat 1) = (Int32.ofNat 0)) from by decide) ?_
            refine wp_st 1 (f' := (258, [some (.ref (b)), some (.int (sb_i jn)), some (.int (Int32.ofNat (96 + (rg_R S)))), some (.int (Int32.ofNat 1))], [.ref (b)], A303)) rfl ?_
            refine rw_gf (v := .int (Int32.ofNat (rd_sk cs n p))) h304 rfl rfl rfl rfl (rfl) rfl ?_
            refine wp_izT rfl rfl (show Int32.ofNat 0 ≤ (Int32.ofNat (rd_sk cs n p)) from Int32.not_lt.mp (Int32.ofNat_not_neg (by omega))) ?_
            refine wp_rt rfl rfl rfl ?_
            have hres : ru_rel cs n (!jn) p S = .error (rd_sk cs n p) := by simp [ru_rel, ru_rel2, ru_mod, hop, h210, h284, c293]
            rw [hres]
            exact rq_Q_er (k := rg_R S + 1) h304 (by simp only [rf_u_if]; simp) (by omega) (by omega) ((((((((rs_X.refl s).u (by unfold rs_sc; omega)).u (by unfold rs_sc; omega)).u (by unfold rs_sc; omega)).u (by unfold rs_sc; omega)).u (by unfold rs_sc; omega)).u (by unfold rs_sc; omega)).u (by unfold rs_sc; omega)) f306
          · skip
            obtain ⟨A307, g308, h309, f310⟩ := (show rf_go _ _ _ _ _ _ (rf_c (rf_u (rf_u (rf_u (rf_u (rf_u s 40 0 (.int (Int32.ofNat (rg_R S + 1)))) 35 (96 + (rg_R S)) (.int (sb_i jn))) 32 (96 + (rg_R S)) (.int ((-1)))) 33 (96 + (rg_R S)) (.int (Int32.ofNat 0))) 34 (96 + (rg_R S)) (.int (sb_i false))) (rd_sk cs n (sb_re 97 122 cs n (rd_sk cs n p)) + 1) (Int32.ofNat (rd_sk cs n p)) (Int64.ofNat (cs.getD (rd_sk cs n p) 0 - 96)) (rd_sk cs n p)) from by have e := rr_need (d := d - 1) (c := 61) (by omega) (by omega) (by omega) (show rf_tx (rf_u (rf_u (rf_u (rf_u (rf_u s 40 0 (.int (Int32.ofNat (rg_R S + 1)))) 35 (96 + (rg_R S)) (.int (sb_i jn))) 32 (96 + (rg_R S)) (.int ((-1)))) 33 (96 + (rg_R S)) (.int (Int32.ofNat 0))) 34 (96 + (rg_R S)) (.int (sb_i false))) cs n from hx) h290; rw [if_neg c293, rf_w_n (by omega)] at e; exact e)
            have f311 := f292.trans f310
            refine wp_cv (A' := A307) (v := none) rfl rfl rfl rfl rfl (show _ from h290.1) (by omega) (g308) rfl ?_
            show am_wp d 151 (230, [some (.ref (b)), some (.int (sb_i jn)), some (.int (Int32.ofNat (96 + (rg_R S)))), none], [], A307) _
            refine wp_st 1 (f' := (231, [some (.ref (b)), some (.int (sb_i jn)), some (.int (Int32.ofNat (96 + (rg_R S)))), none], [.ref (b)], A307)) rfl ?_
            refine rw_gr h309 rfl rfl rfl rfl rfl rfl ?_
            refine wp_st 3 (f' := (239, [some (.ref (b)), some (.int (sb_i jn)), some (.int (Int32.ofNat (96 + (rg_R S)))), none], [.ref (b), .int (Int32.ofNat 128), .int (Int32.ofNat (96 + (rg_R S))), .ref (b + 25)], A307)) rfl ?_
            refine rw_gf (v := .int (Int32.ofNat (rg_G S))) h309 rfl rfl rfl rfl (hs.2.1) rfl ?_
            refine wp_st 1 (f' := (243, [some (.ref (b)), some (.int (sb_i jn)), some (.int (Int32.ofNat (96 + (rg_R S)))), none], [.int ((Int32.ofNat 128) + (Int32.ofNat (rg_G S))), .int (Int32.ofNat (96 + (rg_R S))), .ref (b + 25)], A307)) rfl ?_
            rw [i32_add (128) (rg_G S)]
            refine rw_as (j := 36) (n := 96 + (rg_R S)) (v := .int (Int32.ofNat (128 + (rg_G S)))) h309 rfl rfl rfl (Or.inl ⟨rfl, rfl, rfl⟩) (show _ < 144 from by omega) rfl rfl (fun A312 h313 f314 => ?_)
            have f315 := f311.trans f314
            rw [rf_c_u (by decide)] at h313
            refine wp_st 1 (f' := (245, [some (.ref (b)), some (.int (sb_i jn)), some (.int (Int32.ofNat (96 + (rg_R S)))), none], [.ref (b)], A312)) rfl ?_
            refine rw_gr h313 rfl rfl rfl rfl rfl rfl ?_
            refine wp_st 2 (f' := (250, [some (.ref (b)), some (.int (sb_i jn)), some (.int (Int32.ofNat (96 + (rg_R S)))), none], [.int (Int32.ofNat 0), .int (Int32.ofNat (96 + (rg_R S))), .ref (b + 26)], A312)) rfl ?_
            refine rw_as (j := 37) (n := 96 + (rg_R S)) (v := .int (Int32.ofNat 0)) h313 rfl rfl rfl (Or.inl ⟨rfl, rfl, rfl⟩) (show _ < 144 from by omega) rfl rfl (fun A316 h317 f318 => ?_)
            have f319 := f315.trans f318
            rw [rf_c_u (by decide)] at h317
            refine wp_st 2 (f' := (253, [some (.ref (b)), some (.int (sb_i jn)), some (.int (Int32.ofNat (96 + (rg_R S)))), some (.int (Int32.ofNat 1))], [], A316)) rfl ?_
            refine wp_st 1 (f' := (254, [some (.ref (b)), some (.int (sb_i jn)), some (.int (Int32.ofNat (96 + (rg_R S)))), some (.int (Int32.ofNat 1))], [.int (Int32.ofNat 1)], A316)) rfl ?_
            refine wp_izF rfl rfl (show ¬ ((Int32.ofNat 1) = (Int32.ofNat 0)) from by decide) ?_
            refine wp_st 1 (f' := (258, [some (.ref (b)), some (.int (sb_i jn)), some (.int (Int32.ofNat (96 + (rg_R S)))), some (.int (Int32.ofNat 1))], [.ref (b)], A316)) rfl ?_
            refine rw_gf (v := .int (Int32.ofNat (rd_sk cs n p))) h317 rfl rfl rfl rfl (rfl) rfl ?_
            refine wp_izT rfl rfl (show Int32.ofNat 0 ≤ (Int32.ofNat (rd_sk cs n p)) from Int32.not_lt.mp (Int32.ofNat_not_neg (by omega))) ?_
            refine wp_rt rfl rfl rfl ?_
            have hres : ru_rel cs n (!jn) p S = .error (rd_sk cs n p) := by simp [ru_rel, ru_rel2, ru_mod, hop, h210, h284, c293]
            rw [hres]
            exact rq_Q_er (k := rg_R S + 1) h317 (by simp only [rf_u_if]; simp) (by omega) (by omega) ((((((((rs_X.refl s).u (by unfold rs_sc; omega)).u (by unfold rs_sc; omega)).u (by unfold rs_sc; omega)).u (by unfold rs_sc; omega)).u (by unfold rs_sc; omega)).u (by unfold rs_sc; omega)).u (by unfold rs_sc; omega)) f319
        · skip
          rw [ne_eq, i32_eq (by omega) (by omega)] at h284
          replace h284 := Decidable.not_not.mp h284
          have h284p : rd_sk cs n (sb_re 97 122 cs n (rd_sk cs n p)) < n := sb_lk_pos (cs := cs) (by omega)
          refine wp_st 2 (f' := (197, [some (.ref (b)), some (.int (sb_i jn)), some (.int (Int32.ofNat (96 + (rg_R S)))), none], [.int (Int32.ofNat 1), .int (Int32.ofNat (96 + (rg_R S))), .ref (b + 23)], A204)) rfl ?_
          refine rw_as (j := 34) (n := 96 + (rg_R S)) (v := .int (sb_i true)) h206 rfl rfl rfl (Or.inr (Or.inr ⟨rfl, rfl, rfl⟩)) (show _ < 144 from by omega) (sb_narrow_z true) rfl (fun A320 h321 f322 => ?_)
          have f323 := f208.trans f322
          rw [rf_c_u (by decide)] at h321
          refine wp_st 2 (f' := (200, [some (.ref (b)), some (.int (sb_i jn)), some (.int (Int32.ofNat (96 + (rg_R S)))), none], [.ref (b), .ref (b)], A320)) rfl ?_
          refine rw_gr h321 rfl rfl rfl rfl rfl rfl ?_
          refine wp_st 1 (f' := (204, [some (.ref (b)), some (.int (sb_i jn)), some (.int (Int32.ofNat (96 + (rg_R S)))), none], [.int (Int32.ofNat (96 + (rg_R S))), .ref (b + 23), .ref (b)], A320)) rfl ?_
          refine rw_al (j := 34) (n := 96 + (rg_R S)) (v := .int (Int32.ofNat 1)) h321 rfl rfl rfl (Or.inr (Or.inr (Or.inr (Or.inl ⟨rfl, rfl⟩)))) rfl (show _ < 144 from by omega) (by rw [rf_c_ne (show 34 ≠ 17 ∧ 34 ≠ 18 ∧ 34 ≠ 28 ∧ 34 ≠ 29 by decide), rf_u_eq]; rfl) rfl ?_
          refine wp_izF rfl rfl (show ¬ ((Int32.ofNat 1) = (Int32.ofNat 0)) from by decide) ?_
          refine wp_st 1 (f' := (209, [some (.ref (b)), some (.int (sb_i jn)), some (.int (Int32.ofNat (96 + (rg_R S)))), none], [.ref (b), .ref (b)], A320)) rfl ?_
          refine rw_gf (v := .int (Int32.ofNat (rd_sk cs n (sb_re 97 122 cs n (rd_sk cs n p))))) h321 rfl rfl rfl rfl (rfl) rfl ?_
          refine wp_st 2 (f' := (214, [some (.ref (b)), some (.int (sb_i jn)), some (.int (Int32.ofNat (96 + (rg_R S)))), none], [.int ((Int32.ofNat (rd_sk cs n (sb_re 97 122 cs n (rd_sk cs n p)))) + (Int32.ofNat 1)), .ref (b)], A320)) rfl ?_
          rw [i32_add (rd_sk cs n (sb_re 97 122 cs n (rd_sk cs n p))) (1)]
          refine wp_st 1 (f' := (221, [some (.ref (b)), some (.int (sb_i jn)), some (.int (Int32.ofNat (96 + (rg_R S)))), none], [.int (Int32.ofNat (rd_sk cs n (sb_re 97 122 cs n (rd_sk cs n p)) + 1)), .ref (b)], A320)) rfl ?_
          refine rw_pf (v := .int (Int32.ofNat (rd_sk cs n (sb_re 97 122 cs n (rd_sk cs n p)) + 1))) h321 rfl rfl rfl rfl rfl rfl (fun A324 h325 f326 => ?_)
          have f327 := f323.trans f326
          rw [rf_c17] at h325
          refine wp_st 2 (f' := (227, [some (.ref (b)), some (.int (sb_i jn)), some (.int (Int32.ofNat (96 + (rg_R S)))), none], [.int (Int32.ofNat 61), .ref (b)], A324)) rfl ?_
          by_cases c328 : sb_lk cs n (rd_sk cs n (sb_re 97 122 cs n (rd_sk cs n p)) + 1) = 61
          · skip
            have c328p : rd_sk cs n (sb_re 97 122 cs n (rd_sk cs n p)) + 1 < n := sb_lk_pos (cs := cs) (by omega)
            obtain ⟨A329, g330, h331, f332⟩ := (show rf_go _ _ _ _ _ _ (rf_c (rf_u (rf_u (rf_u (rf_u (rf_u s 40 0 (.int (Int32.ofNat (rg_R S + 1)))) 35 (96 + (rg_R S)) (.int (sb_i jn))) 32 (96 + (rg_R S)) (.int ((-1)))) 33 (96 + (rg_R S)) (.int (Int32.ofNat 0))) 34 (96 + (rg_R S)) (.int (sb_i true))) (rd_sk cs n (sb_re 97 122 cs n (rd_sk cs n p)) + 1 + 1) (Int32.ofNat (rd_sk cs n p)) (Int64.ofNat (cs.getD (rd_sk cs n p) 0 - 96)) (rd_sk cs n p)) from by have e := rr_need (d := d - 1) (c := 61) (by omega) (by omega) (by omega) (show rf_tx (rf_u (rf_u (rf_u (rf_u (rf_u s 40 0 (.int (Int32.ofNat (rg_R S + 1)))) 35 (96 + (rg_R S)) (.int (sb_i jn))) 32 (96 + (rg_R S)) (.int ((-1)))) 33 (96 + (rg_R S)) (.int (Int32.ofNat 0))) 34 (96 + (rg_R S)) (.int (sb_i true))) cs n from hx) h325; rw [if_pos c328] at e; exact e)
            have f333 := f327.trans f332
            refine wp_cv (A' := A329) (v := none) rfl rfl rfl rfl rfl (show _ from h325.1) (by omega) (g330) rfl ?_
            show am_wp d 151 (230, [some (.ref (b)), some (.int (sb_i jn)), some (.int (Int32.ofNat (96 + (rg_R S)))), none], [], A329) _
            refine wp_st 1 (f' := (231, [some (.ref (b)), some (.int (sb_i jn)), some (.int (Int32.ofNat (96 + (rg_R S)))), none], [.ref (b)], A329)) rfl ?_
            refine rw_gr h331 rfl rfl rfl rfl rfl rfl ?_
            refine wp_st 3 (f' := (239, [some (.ref (b)), some (.int (sb_i jn)), some (.int (Int32.ofNat (96 + (rg_R S)))), none], [.ref (b), .int (Int32.ofNat 128), .int (Int32.ofNat (96 + (rg_R S))), .ref (b + 25)], A329)) rfl ?_
            refine rw_gf (v := .int (Int32.ofNat (rg_G S))) h331 rfl rfl rfl rfl (hs.2.1) rfl ?_
            refine wp_st 1 (f' := (243, [some (.ref (b)), some (.int (sb_i jn)), some (.int (Int32.ofNat (96 + (rg_R S)))), none], [.int ((Int32.ofNat 128) + (Int32.ofNat (rg_G S))), .int (Int32.ofNat (96 + (rg_R S))), .ref (b + 25)], A329)) rfl ?_
            rw [i32_add (128) (rg_G S)]
            refine rw_as (j := 36) (n := 96 + (rg_R S)) (v := .int (Int32.ofNat (128 + (rg_G S)))) h331 rfl rfl rfl (Or.inl ⟨rfl, rfl, rfl⟩) (show _ < 144 from by omega) rfl rfl (fun A334 h335 f336 => ?_)
            have f337 := f333.trans f336
            rw [rf_c_u (by decide)] at h335
            refine wp_st 1 (f' := (245, [some (.ref (b)), some (.int (sb_i jn)), some (.int (Int32.ofNat (96 + (rg_R S)))), none], [.ref (b)], A334)) rfl ?_
            refine rw_gr h335 rfl rfl rfl rfl rfl rfl ?_
            refine wp_st 2 (f' := (250, [some (.ref (b)), some (.int (sb_i jn)), some (.int (Int32.ofNat (96 + (rg_R S)))), none], [.int (Int32.ofNat 0), .int (Int32.ofNat (96 + (rg_R S))), .ref (b + 26)], A334)) rfl ?_
            refine rw_as (j := 37) (n := 96 + (rg_R S)) (v := .int (Int32.ofNat 0)) h335 rfl rfl rfl (Or.inl ⟨rfl, rfl, rfl⟩) (show _ < 144 from by omega) rfl rfl (fun A338 h339 f340 => ?_)
            have f341 := f337.trans f340
            rw [rf_c_u (by decide)] at h339
            refine wp_st 2 (f' := (253, [some (.ref (b)), some (.int (sb_i jn)), some (.int (Int32.ofNat (96 + (rg_R S)))), some (.int (Int32.ofNat 1))], [], A338)) rfl ?_
            refine wp_st 1 (f' := (254, [some (.ref (b)), some (.int (sb_i jn)), some (.int (Int32.ofNat (96 + (rg_R S)))), some (.int (Int32.ofNat 1))], [.int (Int32.ofNat 1)], A338)) rfl ?_
            refine wp_izF rfl rfl (show ¬ ((Int32.ofNat 1) = (Int32.ofNat 0)) from by decide) ?_
            refine wp_st 1 (f' := (258, [some (.ref (b)), some (.int (sb_i jn)), some (.int (Int32.ofNat (96 + (rg_R S)))), some (.int (Int32.ofNat 1))], [.ref (b)], A338)) rfl ?_
            refine rw_gf (v := .int (Int32.ofNat (rd_sk cs n p))) h339 rfl rfl rfl rfl (rfl) rfl ?_
            refine wp_izT rfl rfl (show Int32.ofNat 0 ≤ (Int32.ofNat (rd_sk cs n p)) from Int32.not_lt.mp (Int32.ofNat_not_neg (by omega))) ?_
            refine wp_rt rfl rfl rfl ?_
            have hres : ru_rel cs n (!jn) p S = .error (rd_sk cs n p) := by simp [ru_rel, ru_rel2, ru_mod, hop, h210, h284, c328]
            rw [hres]
            exact rq_Q_er (k := rg_R S + 1) h339 (by simp only [rf_u_if]; simp) (by omega) (by omega) ((((((((rs_X.refl s).u (by unfold rs_sc; omega)).u (by unfold rs_sc; omega)).u (by unfold rs_sc; omega)).u (by unfold rs_sc; omega)).u (by unfold rs_sc; omega)).u (by unfold rs_sc; omega)).u (by unfold rs_sc; omega)) f341
          · skip
            obtain ⟨A342, g343, h344, f345⟩ := (show rf_go _ _ _ _ _ _ (rf_c (rf_u (rf_u (rf_u (rf_u (rf_u s 40 0 (.int (Int32.ofNat (rg_R S + 1)))) 35 (96 + (rg_R S)) (.int (sb_i jn))) 32 (96 + (rg_R S)) (.int ((-1)))) 33 (96 + (rg_R S)) (.int (Int32.ofNat 0))) 34 (96 + (rg_R S)) (.int (sb_i true))) (rd_sk cs n (sb_re 97 122 cs n (rd_sk cs n p)) + 1 + 1) (Int32.ofNat (rd_sk cs n p)) (Int64.ofNat (cs.getD (rd_sk cs n p) 0 - 96)) (rd_sk cs n p)) from by have e := rr_need (d := d - 1) (c := 61) (by omega) (by omega) (by omega) (show rf_tx (rf_u (rf_u (rf_u (rf_u (rf_u s 40 0 (.int (Int32.ofNat (rg_R S + 1)))) 35 (96 + (rg_R S)) (.int (sb_i jn))) 32 (96 + (rg_R S)) (.int ((-1)))) 33 (96 + (rg_R S)) (.int (Int32.ofNat 0))) 34 (96 + (rg_R S)) (.int (sb_i true))) cs n from hx) h325; rw [if_neg c328, rf_w_n (by omega)] at e; exact e)
            have f346 := f327.trans f345
            refine wp_cv (A' := A342) (v := none) rfl rfl rfl rfl rfl (show _ from h325.1) (by omega) (g343) rfl ?_
            show am_wp d 151 (230, [some (.ref (b)), some (.int (sb_i jn)), some (.int (Int32.ofNat (96 + (rg_R S)))), none], [], A342) _
            refine wp_st 1 (f' := (231, [some (.ref (b)), some (.int (sb_i jn)), some (.int (Int32.ofNat (96 + (rg_R S)))), none], [.ref (b)], A342)) rfl ?_
            refine rw_gr h344 rfl rfl rfl rfl rfl rfl ?_
            refine wp_st 3 (f' := (239, [some (.ref (b)), some (.int (sb_i jn)), some (.int (Int32.ofNat (96 + (rg_R S)))), none], [.ref (b), .int (Int32.ofNat 128), .int (Int32.ofNat (96 + (rg_R S))), .ref (b + 25)], A342)) rfl ?_
            refine rw_gf (v := .int (Int32.ofNat (rg_G S))) h344 rfl rfl rfl rfl (hs.2.1) rfl ?_
            refine wp_st 1 (f' := (243, [some (.ref (b)), some (.int (sb_i jn)), some (.int (Int32.ofNat (96 + (rg_R S)))), none], [.int ((Int32.ofNat 128) + (Int32.ofNat (rg_G S))), .int (Int32.ofNat (96 + (rg_R S))), .ref (b + 25)], A342)) rfl ?_
            rw [i32_add (128) (rg_G S)]
            refine rw_as (j := 36) (n := 96 + (rg_R S)) (v := .int (Int32.ofNat (128 + (rg_G S)))) h344 rfl rfl rfl (Or.inl ⟨rfl, rfl, rfl⟩) (show _ < 144 from by omega) rfl rfl (fun A347 h348 f349 => ?_)
            have f350 := f346.trans f349
            rw [rf_c_u (by decide)] at h348
            refine wp_st 1 (f' := (245, [some (.ref (b)), some (.int (sb_i jn)), some (.int (Int32.ofNat (96 + (rg_R S)))), none], [.ref (b)], A347)) rfl ?_
            refine rw_gr h348 rfl rfl rfl rfl rfl rfl ?_
            refine wp_st 2 (f' := (250, [some (.ref (b)), some (.int (sb_i jn)), some (.int (Int32.ofNat (96 + (rg_R S)))), none], [.int (Int32.ofNat 0), .int (Int32.ofNat (96 + (rg_R S))), .ref (b + 26)], A347)) rfl ?_
            refine rw_as (j := 37) (n := 96 + (rg_R S)) (v := .int (Int32.ofNat 0)) h348 rfl rfl rfl (Or.inl ⟨rfl, rfl, rfl⟩) (show _ < 144 from by omega) rfl rfl (fun A351 h352 f353 => ?_)
            have f354 := f350.trans f353
            rw [rf_c_u (by decide)] at h352
            refine wp_st 2 (f' := (253, [some (.ref (b)), some (.int (sb_i jn)), some (.int (Int32.ofNat (96 + (rg_R S)))), some (.int (Int32.ofNat 1))], [], A351)) rfl ?_
            refine wp_st 1 (f' := (254, [some (.ref (b)), some (.int (sb_i jn)), some (.int (Int32.ofNat (96 + (rg_R S)))), some (.int (Int32.ofNat 1))], [.int (Int32.ofNat 1)], A351)) rfl ?_
            refine wp_izF rfl rfl (show ¬ ((Int32.ofNat 1) = (Int32.ofNat 0)) from by decide) ?_
            refine wp_st 1 (f' := (258, [some (.ref (b)), some (.int (sb_i jn)), some (.int (Int32.ofNat (96 + (rg_R S)))), some (.int (Int32.ofNat 1))], [.ref (b)], A351)) rfl ?_
            refine rw_gf (v := .int (Int32.ofNat (rd_sk cs n p))) h352 rfl rfl rfl rfl (rfl) rfl ?_
            refine wp_izT rfl rfl (show Int32.ofNat 0 ≤ (Int32.ofNat (rd_sk cs n p)) from Int32.not_lt.mp (Int32.ofNat_not_neg (by omega))) ?_
            refine wp_rt rfl rfl rfl ?_
            have hres : ru_rel cs n (!jn) p S = .error (rd_sk cs n p) := by simp [ru_rel, ru_rel2, ru_mod, hop, h210, h284, c328]
            rw [hres]
            exact rq_Q_er (k := rg_R S + 1) h352 (by simp only [rf_u_if]; simp) (by omega) (by omega) ((((((((rs_X.refl s).u (by unfold rs_sc; omega)).u (by unfold rs_sc; omega)).u (by unfold rs_sc; omega)).u (by unfold rs_sc; omega)).u (by unfold rs_sc; omega)).u (by unfold rs_sc; omega)).u (by unfold rs_sc; omega)) f354
    · skip
      have hop : ru_opnd cs n (rd_sk cs n p) = .ok (sb_re 97 122 cs n (rd_sk cs n p), o9) := by unfold ru_opnd; rw [if_pos (by omega), hlk1, hix]
      have ho9 := ru_ix_lt hix
      refine wp_cv (A' := A185) (v := some (.int (Int32.ofNat o9))) rfl rfl rfl rfl rfl (show _ from h187.1) (by omega) (by have e := rn_op (d := d - 1) (N := cs.getD (rd_sk cs n p) 0 - 96) (by omega) h187; rw [show cs.getD (rd_sk cs n p) 0 - 96 + 96 = cs.getD (rd_sk cs n p) 0 by omega, hix] at e; exact e) rfl ?_
      show am_wp d 151 (68, [some (.ref (b)), some (.int (sb_i jn)), some (.int (Int32.ofNat (96 + (rg_R S)))), none], [.int (Int32.ofNat o9), .int (Int32.ofNat (96 + (rg_R S))), .ref (b + 21)], A185) _
      refine rw_as (j := 32) (n := 96 + (rg_R S)) (v := .int (Int32.ofNat o9)) h187 rfl rfl rfl (Or.inl ⟨rfl, rfl, rfl⟩) (show _ < 144 from by omega) rfl rfl (fun A355 h356 f357 => ?_)
      have f358 := f189.trans f357
      rw [rf_c_u (by decide)] at h356
      refine wp_st 1 (f' := (70, [some (.ref (b)), some (.int (sb_i jn)), some (.int (Int32.ofNat (96 + (rg_R S)))), none], [.ref (b)], A355)) rfl ?_
      refine rw_gr h356 rfl rfl rfl rfl rfl rfl ?_
      refine wp_st 1 (f' := (74, [some (.ref (b)), some (.int (sb_i jn)), some (.int (Int32.ofNat (96 + (rg_R S)))), none], [.int (Int32.ofNat (96 + (rg_R S))), .ref (b + 21)], A355)) rfl ?_
      refine rw_al (j := 32) (n := 96 + (rg_R S)) (v := .int (Int32.ofNat o9)) h356 rfl rfl rfl (Or.inl ⟨rfl, rfl⟩) rfl (show _ < 144 from by omega) (by rw [rf_c_ne (show 32 ≠ 17 ∧ 32 ≠ 18 ∧ 32 ≠ 28 ∧ 32 ≠ 29 by decide), rf_u_eq]) rfl ?_
      refine wp_izT rfl rfl ((i32_le (a := 0) (b := o9) (by omega) (by omega)).mpr (by omega)) ?_
      refine wp_st 1 (f' := (87, [some (.ref (b)), some (.int (sb_i jn)), some (.int (Int32.ofNat (96 + (rg_R S)))), none], [.ref (b)], A355)) rfl ?_
      refine rw_gr h356 rfl rfl rfl rfl rfl rfl ?_
      refine wp_st 2 (f' := (92, [some (.ref (b)), some (.int (sb_i jn)), some (.int (Int32.ofNat (96 + (rg_R S)))), none], [.int (Int32.ofNat 0), .int (Int32.ofNat (96 + (rg_R S))), .ref (b + 22)], A355)) rfl ?_
      refine rw_as (j := 33) (n := 96 + (rg_R S)) (v := .int (Int32.ofNat 0)) h356 rfl rfl rfl (Or.inl ⟨rfl, rfl, rfl⟩) (show _ < 144 from by omega) rfl rfl (fun A359 h360 f361 => ?_)
      have f362 := f358.trans f361
      rw [rf_c_u (by decide)] at h360
      refine wp_st 1 (f' := (94, [some (.ref (b)), some (.int (sb_i jn)), some (.int (Int32.ofNat (96 + (rg_R S)))), none], [.ref (b)], A359)) rfl ?_
      have k363 := rd_sk_gt (cs := cs) (n := n) (a := sb_re 97 122 cs n (rd_sk cs n p))
      obtain ⟨A364, g365, h366, f367⟩ := (show rf_go (d - 1) 129 [.ref b] A359 b none (rf_c (rf_u (rf_u (rf_u (rf_u s 40 0 (.int (Int32.ofNat (rg_R S + 1)))) 35 (96 + (rg_R S)) (.int (sb_i jn))) 32 (96 + (rg_R S)) (.int (Int32.ofNat o9))) 33 (96 + (rg_R S)) (.int (Int32.ofNat 0))) (rd_sk cs n (sb_re 97 122 cs n (rd_sk cs n p))) (-1) (Int64.ofNat (cs.getD (rd_sk cs n p) 0 - 96)) (rd_sk cs n p)) from rr_spaces (d := d - 1) (by omega) (by omega) (show rf_tx (rf_u (rf_u (rf_u (rf_u s 40 0 (.int (Int32.ofNat (rg_R S + 1)))) 35 (96 + (rg_R S)) (.int (sb_i jn))) 32 (96 + (rg_R S)) (.int (Int32.ofNat o9))) 33 (96 + (rg_R S)) (.int (Int32.ofNat 0))) cs n from hx) h360)
      have f368 := f362.trans f367
      refine wp_cv (A' := A364) (v := none) rfl rfl rfl rfl rfl (show _ from h360.1) (by omega) (g365) rfl ?_
      show am_wp d 151 (97, [some (.ref (b)), some (.int (sb_i jn)), some (.int (Int32.ofNat (96 + (rg_R S)))), none], [], A364) _
      refine wp_st 2 (f' := (99, [some (.ref (b)), some (.int (sb_i jn)), some (.int (Int32.ofNat (96 + (rg_R S)))), none], [.ref (b), .ref (b)], A364)) rfl ?_
      refine rw_gf (v := .int (Int32.ofNat (rd_sk cs n (sb_re 97 122 cs n (rd_sk cs n p))))) h366 rfl rfl rfl rfl (rfl) rfl ?_
      have l369 := hlk (rd_sk cs n (sb_re 97 122 cs n (rd_sk cs n p)))
      refine wp_cv (A' := A364) (v := some (.int (Int32.ofNat (sb_lk cs n (rd_sk cs n (sb_re 97 122 cs n (rd_sk cs n p))))))) rfl rfl rfl rfl rfl (show _ from h366.1) (by omega) (rr_look (by omega) (show rf_tx (rf_u (rf_u (rf_u (rf_u s 40 0 (.int (Int32.ofNat (rg_R S + 1)))) 35 (96 + (rg_R S)) (.int (sb_i jn))) 32 (96 + (rg_R S)) (.int (Int32.ofNat o9))) 33 (96 + (rg_R S)) (.int (Int32.ofNat 0))) cs n from hx) h366) rfl ?_
      show am_wp d 151 (105, [some (.ref (b)), some (.int (sb_i jn)), some (.int (Int32.ofNat (96 + (rg_R S)))), none], [.int (Int32.ofNat (sb_lk cs n (rd_sk cs n (sb_re 97 122 cs n (rd_sk cs n p)))))], A364) _
      refine wp_st 1 (f' := (107, [some (.ref (b)), some (.int (sb_i jn)), some (.int (Int32.ofNat (96 + (rg_R S)))), none], [.int (Int32.ofNat 37), .int (Int32.ofNat (sb_lk cs n (rd_sk cs n (sb_re 97 122 cs n (rd_sk cs n p)))))], A364)) rfl ?_
      refine wp_if rfl rfl rfl (fun (h370 : (Int32.ofNat (sb_lk cs n (rd_sk cs n (sb_re 97 122 cs n (rd_sk cs n p))))) ≠ (Int32.ofNat 37)) => ?_) (fun (h370 : ¬ ((Int32.ofNat (sb_lk cs n (rd_sk cs n (sb_re 97 122 cs n (rd_sk cs n p))))) ≠ (Int32.ofNat 37))) => ?_)
      · skip
        rw [ne_eq, i32_eq (by omega) (by omega)] at h370
        refine wp_st 1 (f' := (175, [some (.ref (b)), some (.int (sb_i jn)), some (.int (Int32.ofNat (96 + (rg_R S)))), none], [.ref (b)], A364)) rfl ?_
        refine rw_gr h366 rfl rfl rfl rfl rfl rfl ?_
        refine wp_st 3 (f' := (181, [some (.ref (b)), some (.int (sb_i jn)), some (.int (Int32.ofNat (96 + (rg_R S)))), none], [.ref (b), .ref (b), .int (Int32.ofNat (96 + (rg_R S))), .ref (b + 23)], A364)) rfl ?_
        refine rw_gf (v := .int (Int32.ofNat (rd_sk cs n (sb_re 97 122 cs n (rd_sk cs n p))))) h366 rfl rfl rfl rfl (rfl) rfl ?_
        have l371 := hlk (rd_sk cs n (sb_re 97 122 cs n (rd_sk cs n p)))
        refine wp_cv (A' := A364) (v := some (.int (Int32.ofNat (sb_lk cs n (rd_sk cs n (sb_re 97 122 cs n (rd_sk cs n p))))))) rfl rfl rfl rfl rfl (show _ from h366.1) (by omega) (rr_look (by omega) (show rf_tx (rf_u (rf_u (rf_u (rf_u s 40 0 (.int (Int32.ofNat (rg_R S + 1)))) 35 (96 + (rg_R S)) (.int (sb_i jn))) 32 (96 + (rg_R S)) (.int (Int32.ofNat o9))) 33 (96 + (rg_R S)) (.int (Int32.ofNat 0))) cs n from hx) h366) rfl ?_
        show am_wp d 151 (187, [some (.ref (b)), some (.int (sb_i jn)), some (.int (Int32.ofNat (96 + (rg_R S)))), none], [.int (Int32.ofNat (sb_lk cs n (rd_sk cs n (sb_re 97 122 cs n (rd_sk cs n p))))), .int (Int32.ofNat (96 + (rg_R S))), .ref (b + 23)], A364) _
        refine wp_st 1 (f' := (189, [some (.ref (b)), some (.int (sb_i jn)), some (.int (Int32.ofNat (96 + (rg_R S)))), none], [.int (Int32.ofNat 33), .int (Int32.ofNat (sb_lk cs n (rd_sk cs n (sb_re 97 122 cs n (rd_sk cs n p))))), .int (Int32.ofNat (96 + (rg_R S))), .ref (b + 23)], A364)) rfl ?_
        refine wp_if rfl rfl rfl (fun (h372 : (Int32.ofNat (sb_lk cs n (rd_sk cs n (sb_re 97 122 cs n (rd_sk cs n p))))) ≠ (Int32.ofNat 33)) => ?_) (fun (h372 : ¬ ((Int32.ofNat (sb_lk cs n (rd_sk cs n (sb_re 97 122 cs n (rd_sk cs n p))))) ≠ (Int32.ofNat 33))) => ?_)
        · skip
          rw [ne_eq, i32_eq (by omega) (by omega)] at h372
          refine wp_st 1 (f' := (197, [some (.ref (b)), some (.int (sb_i jn)), some (.int (Int32.ofNat (96 + (rg_R S)))), none], [.int (Int32.ofNat 0), .int (Int32.ofNat (96 + (rg_R S))), .ref (b + 23)], A364)) rfl ?_
          refine rw_as (j := 34) (n := 96 + (rg_R S)) (v := .int (sb_i false)) h366 rfl rfl rfl (Or.inr (Or.inr ⟨rfl, rfl, rfl⟩)) (show _ < 144 from by omega) (sb_narrow_z false) rfl (fun A373 h374 f375 => ?_)
          have f376 := f368.trans f375
          rw [rf_c_u (by decide)] at h374
          refine wp_st 2 (f' := (200, [some (.ref (b)), some (.int (sb_i jn)), some (.int (Int32.ofNat (96 + (rg_R S)))), none], [.ref (b), .ref (b)], A373)) rfl ?_
          refine rw_gr h374 rfl rfl rfl rfl rfl rfl ?_
          refine wp_st 1 (f' := (204, [some (.ref (b)), some (.int (sb_i jn)), some (.int (Int32.ofNat (96 + (rg_R S)))), none], [.int (Int32.ofNat (96 + (rg_R S))), .ref (b + 23), .ref (b)], A373)) rfl ?_
          refine rw_al (j := 34) (n := 96 + (rg_R S)) (v := .int (Int32.ofNat 0)) h374 rfl rfl rfl (Or.inr (Or.inr (Or.inr (Or.inl ⟨rfl, rfl⟩)))) rfl (show _ < 144 from by omega) (by rw [rf_c_ne (show 34 ≠ 17 ∧ 34 ≠ 18 ∧ 34 ≠ 28 ∧ 34 ≠ 29 by decide), rf_u_eq]; rfl) rfl ?_
          refine wp_izT rfl rfl (show (Int32.ofNat 0) = (Int32.ofNat 0) from by decide) ?_
          refine wp_st 1 (f' := (218, [some (.ref (b)), some (.int (sb_i jn)), some (.int (Int32.ofNat (96 + (rg_R S)))), none], [.ref (b), .ref (b)], A373)) rfl ?_
          refine rw_gf (v := .int (Int32.ofNat (rd_sk cs n (sb_re 97 122 cs n (rd_sk cs n p))))) h374 rfl rfl rfl rfl (rfl) rfl ?_
          refine rw_pf (v := .int (Int32.ofNat (rd_sk cs n (sb_re 97 122 cs n (rd_sk cs n p))))) h374 rfl rfl rfl rfl rfl rfl (fun A377 h378 f379 => ?_)
          have f380 := f376.trans f379
          rw [rf_c17] at h378
          refine wp_st 2 (f' := (227, [some (.ref (b)), some (.int (sb_i jn)), some (.int (Int32.ofNat (96 + (rg_R S)))), none], [.int (Int32.ofNat 61), .ref (b)], A377)) rfl ?_
          by_cases c381 : sb_lk cs n (rd_sk cs n (sb_re 97 122 cs n (rd_sk cs n p))) = 61
          · skip
            have c381p : rd_sk cs n (sb_re 97 122 cs n (rd_sk cs n p)) < n := sb_lk_pos (cs := cs) (by omega)
            obtain ⟨A382, g383, h384, f385⟩ := (show rf_go _ _ _ _ _ _ (rf_c (rf_u (rf_u (rf_u (rf_u (rf_u s 40 0 (.int (Int32.ofNat (rg_R S + 1)))) 35 (96 + (rg_R S)) (.int (sb_i jn))) 32 (96 + (rg_R S)) (.int (Int32.ofNat o9))) 33 (96 + (rg_R S)) (.int (Int32.ofNat 0))) 34 (96 + (rg_R S)) (.int (sb_i false))) (rd_sk cs n (sb_re 97 122 cs n (rd_sk cs n p)) + 1) (-1) (Int64.ofNat (cs.getD (rd_sk cs n p) 0 - 96)) (rd_sk cs n p)) from by have e := rr_need (d := d - 1) (c := 61) (by omega) (by omega) (by omega) (show rf_tx (rf_u (rf_u (rf_u (rf_u (rf_u s 40 0 (.int (Int32.ofNat (rg_R S + 1)))) 35 (96 + (rg_R S)) (.int (sb_i jn))) 32 (96 + (rg_R S)) (.int (Int32.ofNat o9))) 33 (96 + (rg_R S)) (.int (Int32.ofNat 0))) 34 (96 + (rg_R S)) (.int (sb_i false))) cs n from hx) h378; rw [if_pos c381] at e; exact e)
            have f386 := f380.trans f385
            refine wp_cv (A' := A382) (v := none) rfl rfl rfl rfl rfl (show _ from h378.1) (by omega) (g383) rfl ?_
            show am_wp d 151 (230, [some (.ref (b)), some (.int (sb_i jn)), some (.int (Int32.ofNat (96 + (rg_R S)))), none], [], A382) _
            refine wp_st 1 (f' := (231, [some (.ref (b)), some (.int (sb_i jn)), some (.int (Int32.ofNat (96 + (rg_R S)))), none], [.ref (b)], A382)) rfl ?_
            refine rw_gr h384 rfl rfl rfl rfl rfl rfl ?_
            refine wp_st 3 (f' := (239, [some (.ref (b)), some (.int (sb_i jn)), some (.int (Int32.ofNat (96 + (rg_R S)))), none], [.ref (b), .int (Int32.ofNat 128), .int (Int32.ofNat (96 + (rg_R S))), .ref (b + 25)], A382)) rfl ?_
            refine rw_gf (v := .int (Int32.ofNat (rg_G S))) h384 rfl rfl rfl rfl (hs.2.1) rfl ?_
            refine wp_st 1 (f' := (243, [some (.ref (b)), some (.int (sb_i jn)), some (.int (Int32.ofNat (96 + (rg_R S)))), none], [.int ((Int32.ofNat 128) + (Int32.ofNat (rg_G S))), .int (Int32.ofNat (96 + (rg_R S))), .ref (b + 25)], A382)) rfl ?_
            rw [i32_add (128) (rg_G S)]
            refine rw_as (j := 36) (n := 96 + (rg_R S)) (v := .int (Int32.ofNat (128 + (rg_G S)))) h384 rfl rfl rfl (Or.inl ⟨rfl, rfl, rfl⟩) (show _ < 144 from by omega) rfl rfl (fun A387 h388 f389 => ?_)
            have f390 := f386.trans f389
            rw [rf_c_u (by decide)] at h388
            refine wp_st 1 (f' := (245, [some (.ref (b)), some (.int (sb_i jn)), some (.int (Int32.ofNat (96 + (rg_R S)))), none], [.ref (b)], A387)) rfl ?_
            refine rw_gr h388 rfl rfl rfl rfl rfl rfl ?_
            refine wp_st 2 (f' := (250, [some (.ref (b)), some (.int (sb_i jn)), some (.int (Int32.ofNat (96 + (rg_R S)))), none], [.int (Int32.ofNat 0), .int (Int32.ofNat (96 + (rg_R S))), .ref (b + 26)], A387)) rfl ?_
            refine rw_as (j := 37) (n := 96 + (rg_R S)) (v := .int (Int32.ofNat 0)) h388 rfl rfl rfl (Or.inl ⟨rfl, rfl, rfl⟩) (show _ < 144 from by omega) rfl rfl (fun A391 h392 f393 => ?_)
            have f394 := f390.trans f393
            rw [rf_c_u (by decide)] at h392
            refine wp_st 2 (f' := (253, [some (.ref (b)), some (.int (sb_i jn)), some (.int (Int32.ofNat (96 + (rg_R S)))), some (.int (Int32.ofNat 1))], [], A391)) rfl ?_
            have hres : ru_rel cs n (!jn) p S = ru_rngs cs n 60 (rd_sk cs n (sb_re 97 122 cs n (rd_sk cs n p)) + 1) (rg_addr S o9 0 false (!jn)) := by simp [ru_rel, ru_rel2, ru_mod, hop, h370, h372, c381]
            rw [hres]
            have hX : rs_X s (rf_u (rf_u (rf_u (rf_u (rf_u (rf_u (rf_u s 40 0 (.int (Int32.ofNat (rg_R S + 1)))) 35 (96 + (rg_R S)) (.int (sb_i jn))) 32 (96 + (rg_R S)) (.int (Int32.ofNat o9))) 33 (96 + (rg_R S)) (.int (Int32.ofNat 0))) 34 (96 + (rg_R S)) (.int (sb_i false))) 36 (96 + (rg_R S)) (.int (Int32.ofNat (128 + (rg_G S))))) 37 (96 + (rg_R S)) (.int (Int32.ofNat 0))) := ((((((((rs_X.refl s).u (by unfold rs_sc; omega)).u (by unfold rs_sc; omega)).u (by unfold rs_sc; omega)).u (by unfold rs_sc; omega)).u (by unfold rs_sc; omega)).u (by unfold rs_sc; omega)).u (by unfold rs_sc; omega))
            have hs9 : rs_S (rf_u (rf_u (rf_u (rf_u (rf_u (rf_u (rf_u s 40 0 (.int (Int32.ofNat (rg_R S + 1)))) 35 (96 + (rg_R S)) (.int (sb_i jn))) 32 (96 + (rg_R S)) (.int (Int32.ofNat o9))) 33 (96 + (rg_R S)) (.int (Int32.ofNat 0))) 34 (96 + (rg_R S)) (.int (sb_i false))) 36 (96 + (rg_R S)) (.int (Int32.ofNat (128 + (rg_G S))))) 37 (96 + (rg_R S)) (.int (Int32.ofNat 0))) (rg_addr S o9 0 false (!jn)) := hs.addr (by simp only [rf_u_if]; simp) (by simp only [rf_u_if]; simp) (by simp only [rf_u_if]; simp) (by simp only [rf_u_if]; simp) (by simp only [rf_u_if]; simp) (by simp only [rf_u_if]; simp) (by simp only [rf_u_if]; simp) (fun j i q1 q2 => by simp only [rf_u_if]; repeat (rw [if_neg (by omega)]))
            obtain ⟨z, z1, z2⟩ := rq_rl (z1 := sb_i jn) (by omega) 60 (rd_sk cs n (sb_re 97 122 cs n (rd_sk cs n p)) + 1) _ _ (rg_addr S o9 0 false (!jn)) _ _ (by omega) (by omega) (by rw [rg_addr_R]; omega) (by rw [rg_addr_R]; omega) (by rw [rg_addr_G]; omega) (hX.tx hx) hs9 h392
            exact ⟨z, z1, z2.tr hX f394⟩
          · skip
            obtain ⟨A395, g396, h397, f398⟩ := (show rf_go _ _ _ _ _ _ (rf_c (rf_u (rf_u (rf_u (rf_u (rf_u s 40 0 (.int (Int32.ofNat (rg_R S + 1)))) 35 (96 + (rg_R S)) (.int (sb_i jn))) 32 (96 + (rg_R S)) (.int (Int32.ofNat o9))) 33 (96 + (rg_R S)) (.int (Int32.ofNat 0))) 34 (96 + (rg_R S)) (.int (sb_i false))) (rd_sk cs n (sb_re 97 122 cs n (rd_sk cs n p)) + 1) (Int32.ofNat (rd_sk cs n (sb_re 97 122 cs n (rd_sk cs n p)))) (Int64.ofNat (cs.getD (rd_sk cs n p) 0 - 96)) (rd_sk cs n p)) from by have e := rr_need (d := d - 1) (c := 61) (by omega) (by omega) (by omega) (show rf_tx (rf_u (rf_u (rf_u (rf_u (rf_u s 40 0 (.int (Int32.ofNat (rg_R S + 1)))) 35 (96 + (rg_R S)) (.int (sb_i jn))) 32 (96 + (rg_R S)) (.int (Int32.ofNat o9))) 33 (96 + (rg_R S)) (.int (Int32.ofNat 0))) 34 (96 + (rg_R S)) (.int (sb_i false))) cs n from hx) h378; rw [if_neg c381, rf_w_m] at e; exact e)
            have f399 := f380.trans f398
            refine wp_cv (A' := A395) (v := none) rfl rfl rfl rfl rfl (show _ from h378.1) (by omega) (g396) rfl ?_
            show am_wp d 151 (230, [some (.ref (b)), some (.int (sb_i jn)), some (.int (Int32.ofNat (96 + (rg_R S)))), none], [], A395) _
            refine wp_st 1 (f' := (231, [some (.ref (b)), some (.int (sb_i jn)), some (.int (Int32.ofNat (96 + (rg_R S)))), none], [.ref (b)], A395)) rfl ?_
            refine rw_gr h397 rfl rfl rfl rfl rfl rfl ?_
            refine wp_st 3 (f' := (239, [some (.ref (b)), some (.int (sb_i jn)), some (.int (Int32.ofNat (96 + (rg_R S)))), none], [.ref (b), .int (Int32.ofNat 128), .int (Int32.ofNat (96 + (rg_R S))), .ref (b + 25)], A395)) rfl ?_
            refine rw_gf (v := .int (Int32.ofNat (rg_G S))) h397 rfl rfl rfl rfl (hs.2.1) rfl ?_
            refine wp_st 1 (f' := (243, [some (.ref (b)), some (.int (sb_i jn)), some (.int (Int32.ofNat (96 + (rg_R S)))), none], [.int ((Int32.ofNat 128) + (Int32.ofNat (rg_G S))), .int (Int32.ofNat (96 + (rg_R S))), .ref (b + 25)], A395)) rfl ?_
            rw [i32_add (128) (rg_G S)]
            refine rw_as (j := 36) (n := 96 + (rg_R S)) (v := .int (Int32.ofNat (128 + (rg_G S)))) h397 rfl rfl rfl (Or.inl ⟨rfl, rfl, rfl⟩) (show _ < 144 from by omega) rfl rfl (fun A400 h401 f402 => ?_)
            have f403 := f399.trans f402
            rw [rf_c_u (by decide)] at h401
            refine wp_st 1 (f' := (245, [some (.ref (b)), some (.int (sb_i jn)), some (.int (Int32.ofNat (96 + (rg_R S)))), none], [.ref (b)], A400)) rfl ?_
            refine rw_gr h401 rfl rfl rfl rfl rfl rfl ?_
            refine wp_st 2 (f' := (250, [some (.ref (b)), some (.int (sb_i jn)), some (.int (Int32.ofNat (96 + (rg_R S)))), none], [.int (Int32.ofNat 0), .int (Int32.ofNat (96 + (rg_R S))), .ref (b + 26)], A400)) rfl ?_
            refine rw_as (j := 37) (n := 96 + (rg_R S)) (v := .int (Int32.ofNat 0)) h401 rfl rfl rfl (Or.inl ⟨rfl, rfl, rfl⟩) (show _ < 144 from by omega) rfl rfl (fun A404 h405 f406 => ?_)
            have f407 := f403.trans f406
            rw [rf_c_u (by decide)] at h405
            refine wp_st 2 (f' := (253, [some (.ref (b)), some (.int (sb_i jn)), some (.int (Int32.ofNat (96 + (rg_R S)))), some (.int (Int32.ofNat 1))], [], A404)) rfl ?_
            refine wp_st 1 (f' := (254, [some (.ref (b)), some (.int (sb_i jn)), some (.int (Int32.ofNat (96 + (rg_R S)))), some (.int (Int32.ofNat 1))], [.int (Int32.ofNat 1)], A404)) rfl ?_
            refine wp_izF rfl rfl (show ¬ ((Int32.ofNat 1) = (Int32.ofNat 0)) from by decide) ?_
            refine wp_st 1 (f' := (258, [some (.ref (b)), some (.int (sb_i jn)), some (.int (Int32.ofNat (96 + (rg_R S)))), some (.int (Int32.ofNat 1))], [.ref (b)], A404)) rfl ?_
            refine rw_gf (v := .int (Int32.ofNat (rd_sk cs n (sb_re 97 122 cs n (rd_sk cs n p))))) h405 rfl rfl rfl rfl (rfl) rfl ?_
            refine wp_izT rfl rfl (show Int32.ofNat 0 ≤ (Int32.ofNat (rd_sk cs n (sb_re 97 122 cs n (rd_sk cs n p)))) from Int32.not_lt.mp (Int32.ofNat_not_neg (by omega))) ?_
            refine wp_rt rfl rfl rfl ?_
            have hres : ru_rel cs n (!jn) p S = .error (rd_sk cs n (sb_re 97 122 cs n (rd_sk cs n p))) := by simp [ru_rel, ru_rel2, ru_mod, hop, h370, h372, c381]
            rw [hres]
            exact rq_Q_er (k := rg_R S + 1) h405 (by simp only [rf_u_if]; simp) (by omega) (by omega) ((((((((rs_X.refl s).u (by unfold rs_sc; omega)).u (by unfold rs_sc; omega)).u (by unfold rs_sc; omega)).u (by unfold rs_sc; omega)).u (by unfold rs_sc; omega)).u (by unfold rs_sc; omega)).u (by unfold rs_sc; omega)) f407
        · skip
          rw [ne_eq, i32_eq (by omega) (by omega)] at h372
          replace h372 := Decidable.not_not.mp h372
          have h372p : rd_sk cs n (sb_re 97 122 cs n (rd_sk cs n p)) < n := sb_lk_pos (cs := cs) (by omega)
          refine wp_st 2 (f' := (197, [some (.ref (b)), some (.int (sb_i jn)), some (.int (Int32.ofNat (96 + (rg_R S)))), none], [.int (Int32.ofNat 1), .int (Int32.ofNat (96 + (rg_R S))), .ref (b + 23)], A364)) rfl ?_
          refine rw_as (j := 34) (n := 96 + (rg_R S)) (v := .int (sb_i true)) h366 rfl rfl rfl (Or.inr (Or.inr ⟨rfl, rfl, rfl⟩)) (show _ < 144 from by omega) (sb_narrow_z true) rfl (fun A408 h409 f410 => ?_)
          have f411 := f368.trans f410
          rw [rf_c_u (by decide)] at h409
          refine wp_st 2 (f' := (200, [some (.ref (b)), some (.int (sb_i jn)), some (.int (Int32.ofNat (96 + (rg_R S)))), none], [.ref (b), .ref (b)], A408)) rfl ?_
          refine rw_gr h409 rfl rfl rfl rfl rfl rfl ?_
          refine wp_st 1 (f' := (204, [some (.ref (b)), some (.int (sb_i jn)), some (.int (Int32.ofNat (96 + (rg_R S)))), none], [.int (Int32.ofNat (96 + (rg_R S))), .ref (b + 23), .ref (b)], A408)) rfl ?_
          refine rw_al (j := 34) (n := 96 + (rg_R S)) (v := .int (Int32.ofNat 1)) h409 rfl rfl rfl (Or.inr (Or.inr (Or.inr (Or.inl ⟨rfl, rfl⟩)))) rfl (show _ < 144 from by omega) (by rw [rf_c_ne (show 34 ≠ 17 ∧ 34 ≠ 18 ∧ 34 ≠ 28 ∧ 34 ≠ 29 by decide), rf_u_eq]; rfl) rfl ?_
          refine wp_izF rfl rfl (show ¬ ((Int32.ofNat 1) = (Int32.ofNat 0)) from by decide) ?_
          refine wp_st 1 (f' := (209, [some (.ref (b)), some (.int (sb_i jn)), some (.int (Int32.ofNat (96 + (rg_R S)))), none], [.ref (b), .ref (b)], A408)) rfl ?_
          refine rw_gf (v := .int (Int32.ofNat (rd_sk cs n (sb_re 97 122 cs n (rd_sk cs n p))))) h409 rfl rfl rfl rfl (rfl) rfl ?_
          refine wp_st 2 (f' := (214, [some (.ref (b)), some (.int (sb_i jn)), some (.int (Int32.ofNat (96 + (rg_R S)))), none], [.int ((Int32.ofNat (rd_sk cs n (sb_re 97 122 cs n (rd_sk cs n p)))) + (Int32.ofNat 1)), .ref (b)], A408)) rfl ?_
          rw [i32_add (rd_sk cs n (sb_re 97 122 cs n (rd_sk cs n p))) (1)]
          refine wp_st 1 (f' := (221, [some (.ref (b)), some (.int (sb_i jn)), some (.int (Int32.ofNat (96 + (rg_R S)))), none], [.int (Int32.ofNat (rd_sk cs n (sb_re 97 122 cs n (rd_sk cs n p)) + 1)), .ref (b)], A408)) rfl ?_
          refine rw_pf (v := .int (Int32.ofNat (rd_sk cs n (sb_re 97 122 cs n (rd_sk cs n p)) + 1))) h409 rfl rfl rfl rfl rfl rfl (fun A412 h413 f414 => ?_)
          have f415 := f411.trans f414
          rw [rf_c17] at h413
          refine wp_st 2 (f' := (227, [some (.ref (b)), some (.int (sb_i jn)), some (.int (Int32.ofNat (96 + (rg_R S)))), none], [.int (Int32.ofNat 61), .ref (b)], A412)) rfl ?_
          by_cases c416 : sb_lk cs n (rd_sk cs n (sb_re 97 122 cs n (rd_sk cs n p)) + 1) = 61
          · skip
            have c416p : rd_sk cs n (sb_re 97 122 cs n (rd_sk cs n p)) + 1 < n := sb_lk_pos (cs := cs) (by omega)
            obtain ⟨A417, g418, h419, f420⟩ := (show rf_go _ _ _ _ _ _ (rf_c (rf_u (rf_u (rf_u (rf_u (rf_u s 40 0 (.int (Int32.ofNat (rg_R S + 1)))) 35 (96 + (rg_R S)) (.int (sb_i jn))) 32 (96 + (rg_R S)) (.int (Int32.ofNat o9))) 33 (96 + (rg_R S)) (.int (Int32.ofNat 0))) 34 (96 + (rg_R S)) (.int (sb_i true))) (rd_sk cs n (sb_re 97 122 cs n (rd_sk cs n p)) + 1 + 1) (-1) (Int64.ofNat (cs.getD (rd_sk cs n p) 0 - 96)) (rd_sk cs n p)) from by have e := rr_need (d := d - 1) (c := 61) (by omega) (by omega) (by omega) (show rf_tx (rf_u (rf_u (rf_u (rf_u (rf_u s 40 0 (.int (Int32.ofNat (rg_R S + 1)))) 35 (96 + (rg_R S)) (.int (sb_i jn))) 32 (96 + (rg_R S)) (.int (Int32.ofNat o9))) 33 (96 + (rg_R S)) (.int (Int32.ofNat 0))) 34 (96 + (rg_R S)) (.int (sb_i true))) cs n from hx) h413; rw [if_pos c416] at e; exact e)
            have f421 := f415.trans f420
            refine wp_cv (A' := A417) (v := none) rfl rfl rfl rfl rfl (show _ from h413.1) (by omega) (g418) rfl ?_
            show am_wp d 151 (230, [some (.ref (b)), some (.int (sb_i jn)), some (.int (Int32.ofNat (96 + (rg_R S)))), none], [], A417) _
            refine wp_st 1 (f' := (231, [some (.ref (b)), some (.int (sb_i jn)), some (.int (Int32.ofNat (96 + (rg_R S)))), none], [.ref (b)], A417)) rfl ?_
            refine rw_gr h419 rfl rfl rfl rfl rfl rfl ?_
            refine wp_st 3 (f' := (239, [some (.ref (b)), some (.int (sb_i jn)), some (.int (Int32.ofNat (96 + (rg_R S)))), none], [.ref (b), .int (Int32.ofNat 128), .int (Int32.ofNat (96 + (rg_R S))), .ref (b + 25)], A417)) rfl ?_
            refine rw_gf (v := .int (Int32.ofNat (rg_G S))) h419 rfl rfl rfl rfl (hs.2.1) rfl ?_
            refine wp_st 1 (f' := (243, [some (.ref (b)), some (.int (sb_i jn)), some (.int (Int32.ofNat (96 + (rg_R S)))), none], [.int ((Int32.ofNat 128) + (Int32.ofNat (rg_G S))), .int (Int32.ofNat (96 + (rg_R S))), .ref (b + 25)], A417)) rfl ?_
            rw [i32_add (128) (rg_G S)]
            refine rw_as (j := 36) (n := 96 + (rg_R S)) (v := .int (Int32.ofNat (128 + (rg_G S)))) h419 rfl rfl rfl (Or.inl ⟨rfl, rfl, rfl⟩) (show _ < 144 from by omega) rfl rfl (fun A422 h423 f424 => ?_)
            have f425 := f421.trans f424
            rw [rf_c_u (by decide)] at h423
            refine wp_st 1 (f' := (245, [some (.ref (b)), some (.int (sb_i jn)), some (.int (Int32.ofNat (96 + (rg_R S)))), none], [.ref (b)], A422)) rfl ?_
            refine rw_gr h423 rfl rfl rfl rfl rfl rfl ?_
            refine wp_st 2 (f' := (250, [some (.ref (b)), some (.int (sb_i jn)), some (.int (Int32.ofNat (96 + (rg_R S)))), none], [.int (Int32.ofNat 0), .int (Int32.ofNat (96 + (rg_R S))), .ref (b + 26)], A422)) rfl ?_
            refine rw_as (j := 37) (n := 96 + (rg_R S)) (v := .int (Int32.ofNat 0)) h423 rfl rfl rfl (Or.inl ⟨rfl, rfl, rfl⟩) (show _ < 144 from by omega) rfl rfl (fun A426 h427 f428 => ?_)
            have f429 := f425.trans f428
            rw [rf_c_u (by decide)] at h427
            refine wp_st 2 (f' := (253, [some (.ref (b)), some (.int (sb_i jn)), some (.int (Int32.ofNat (96 + (rg_R S)))), some (.int (Int32.ofNat 1))], [], A426)) rfl ?_
            have hres : ru_rel cs n (!jn) p S = ru_rngs cs n 60 (rd_sk cs n (sb_re 97 122 cs n (rd_sk cs n p)) + 1 + 1) (rg_addr S o9 0 true (!jn)) := by simp [ru_rel, ru_rel2, ru_mod, hop, h370, h372, c416]
            rw [hres]
            have hX : rs_X s (rf_u (rf_u (rf_u (rf_u (rf_u (rf_u (rf_u s 40 0 (.int (Int32.ofNat (rg_R S + 1)))) 35 (96 + (rg_R S)) (.int (sb_i jn))) 32 (96 + (rg_R S)) (.int (Int32.ofNat o9))) 33 (96 + (rg_R S)) (.int (Int32.ofNat 0))) 34 (96 + (rg_R S)) (.int (sb_i true))) 36 (96 + (rg_R S)) (.int (Int32.ofNat (128 + (rg_G S))))) 37 (96 + (rg_R S)) (.int (Int32.ofNat 0))) := ((((((((rs_X.refl s).u (by unfold rs_sc; omega)).u (by unfold rs_sc; omega)).u (by unfold rs_sc; omega)).u (by unfold rs_sc; omega)).u (by unfold rs_sc; omega)).u (by unfold rs_sc; omega)).u (by unfold rs_sc; omega))
            have hs9 : rs_S (rf_u (rf_u (rf_u (rf_u (rf_u (rf_u (rf_u s 40 0 (.int (Int32.ofNat (rg_R S + 1)))) 35 (96 + (rg_R S)) (.int (sb_i jn))) 32 (96 + (rg_R S)) (.int (Int32.ofNat o9))) 33 (96 + (rg_R S)) (.int (Int32.ofNat 0))) 34 (96 + (rg_R S)) (.int (sb_i true))) 36 (96 + (rg_R S)) (.int (Int32.ofNat (128 + (rg_G S))))) 37 (96 + (rg_R S)) (.int (Int32.ofNat 0))) (rg_addr S o9 0 true (!jn)) := hs.addr (by simp only [rf_u_if]; simp) (by simp only [rf_u_if]; simp) (by simp only [rf_u_if]; simp) (by simp only [rf_u_if]; simp) (by simp only [rf_u_if]; simp) (by simp only [rf_u_if]; simp) (by simp only [rf_u_if]; simp) (fun j i q1 q2 => by simp only [rf_u_if]; repeat (rw [if_neg (by omega)]))
            obtain ⟨z, z1, z2⟩ := rq_rl (z1 := sb_i jn) (by omega) 60 (rd_sk cs n (sb_re 97 122 cs n (rd_sk cs n p)) + 1 + 1) _ _ (rg_addr S o9 0 true (!jn)) _ _ (by omega) (by omega) (by rw [rg_addr_R]; omega) (by rw [rg_addr_R]; omega) (by rw [rg_addr_G]; omega) (hX.tx hx) hs9 h427
            exact ⟨z, z1, z2.tr hX f429⟩
          · skip
            obtain ⟨A430, g431, h432, f433⟩ := (show rf_go _ _ _ _ _ _ (rf_c (rf_u (rf_u (rf_u (rf_u (rf_u s 40 0 (.int (Int32.ofNat (rg_R S + 1)))) 35 (96 + (rg_R S)) (.int (sb_i jn))) 32 (96 + (rg_R S)) (.int (Int32.ofNat o9))) 33 (96 + (rg_R S)) (.int (Int32.ofNat 0))) 34 (96 + (rg_R S)) (.int (sb_i true))) (rd_sk cs n (sb_re 97 122 cs n (rd_sk cs n p)) + 1 + 1) (Int32.ofNat (rd_sk cs n (sb_re 97 122 cs n (rd_sk cs n p)) + 1)) (Int64.ofNat (cs.getD (rd_sk cs n p) 0 - 96)) (rd_sk cs n p)) from by have e := rr_need (d := d - 1) (c := 61) (by omega) (by omega) (by omega) (show rf_tx (rf_u (rf_u (rf_u (rf_u (rf_u s 40 0 (.int (Int32.ofNat (rg_R S + 1)))) 35 (96 + (rg_R S)) (.int (sb_i jn))) 32 (96 + (rg_R S)) (.int (Int32.ofNat o9))) 33 (96 + (rg_R S)) (.int (Int32.ofNat 0))) 34 (96 + (rg_R S)) (.int (sb_i true))) cs n from hx) h413; rw [if_neg c416, rf_w_m] at e; exact e)
            have f434 := f415.trans f433
            refine wp_cv (A' := A430) (v := none) rfl rfl rfl rfl rfl (show _ from h413.1) (by omega) (g431) rfl ?_
            show am_wp d 151 (230, [some (.ref (b)), some (.int (sb_i jn)), some (.int (Int32.ofNat (96 + (rg_R S)))), none], [], A430) _
            refine wp_st 1 (f' := (231, [some (.ref (b)), some (.int (sb_i jn)), some (.int (Int32.ofNat (96 + (rg_R S)))), none], [.ref (b)], A430)) rfl ?_
            refine rw_gr h432 rfl rfl rfl rfl rfl rfl ?_
            refine wp_st 3 (f' := (239, [some (.ref (b)), some (.int (sb_i jn)), some (.int (Int32.ofNat (96 + (rg_R S)))), none], [.ref (b), .int (Int32.ofNat 128), .int (Int32.ofNat (96 + (rg_R S))), .ref (b + 25)], A430)) rfl ?_
            refine rw_gf (v := .int (Int32.ofNat (rg_G S))) h432 rfl rfl rfl rfl (hs.2.1) rfl ?_
            refine wp_st 1 (f' := (243, [some (.ref (b)), some (.int (sb_i jn)), some (.int (Int32.ofNat (96 + (rg_R S)))), none], [.int ((Int32.ofNat 128) + (Int32.ofNat (rg_G S))), .int (Int32.ofNat (96 + (rg_R S))), .ref (b + 25)], A430)) rfl ?_
            rw [i32_add (128) (rg_G S)]
            refine rw_as (j := 36) (n := 96 + (rg_R S)) (v := .int (Int32.ofNat (128 + (rg_G S)))) h432 rfl rfl rfl (Or.inl ⟨rfl, rfl, rfl⟩) (show _ < 144 from by omega) rfl rfl (fun A435 h436 f437 => ?_)
            have f438 := f434.trans f437
            rw [rf_c_u (by decide)] at h436
            refine wp_st 1 (f' := (245, [some (.ref (b)), some (.int (sb_i jn)), some (.int (Int32.ofNat (96 + (rg_R S)))), none], [.ref (b)], A435)) rfl ?_
            refine rw_gr h436 rfl rfl rfl rfl rfl rfl ?_
            refine wp_st 2 (f' := (250, [some (.ref (b)), some (.int (sb_i jn)), some (.int (Int32.ofNat (96 + (rg_R S)))), none], [.int (Int32.ofNat 0), .int (Int32.ofNat (96 + (rg_R S))), .ref (b + 26)], A435)) rfl ?_
            refine rw_as (j := 37) (n := 96 + (rg_R S)) (v := .int (Int32.ofNat 0)) h436 rfl rfl rfl (Or.inl ⟨rfl, rfl, rfl⟩) (show _ < 144 from by omega) rfl rfl (fun A439 h440 f441 => ?_)
            have f442 := f438.trans f441
            rw [rf_c_u (by decide)] at h440
            refine wp_st 2 (f' := (253, [some (.ref (b)), some (.int (sb_i jn)), some (.int (Int32.ofNat (96 + (rg_R S)))), some (.int (Int32.ofNat 1))], [], A439)) rfl ?_
            refine wp_st 1 (f' := (254, [some (.ref (b)), some (.int (sb_i jn)), some (.int (Int32.ofNat (96 + (rg_R S)))), some (.int (Int32.ofNat 1))], [.int (Int32.ofNat 1)], A439)) rfl ?_
            refine wp_izF rfl rfl (show ¬ ((Int32.ofNat 1) = (Int32.ofNat 0)) from by decide) ?_
            refine wp_st 1 (f' := (258, [some (.ref (b)), some (.int (sb_i jn)), some (.int (Int32.ofNat (96 + (rg_R S)))), some (.int (Int32.ofNat 1))], [.ref (b)], A439)) rfl ?_
            refine rw_gf (v := .int (Int32.ofNat (rd_sk cs n (sb_re 97 122 cs n (rd_sk cs n p)) + 1))) h440 rfl rfl rfl rfl (rfl) rfl ?_
            refine wp_izT rfl rfl (show Int32.ofNat 0 ≤ (Int32.ofNat (rd_sk cs n (sb_re 97 122 cs n (rd_sk cs n p)) + 1)) from Int32.not_lt.mp (Int32.ofNat_not_neg (by omega))) ?_
            refine wp_rt rfl rfl rfl ?_
            have hres : ru_rel cs n (!jn) p S = .error (rd_sk cs n (sb_re 97 122 cs n (rd_sk cs n p)) + 1) := by simp [ru_rel, ru_rel2, ru_mod, hop, h370, h372, c416]
            rw [hres]
            exact rq_Q_er (k := rg_R S + 1) h440 (by simp only [rf_u_if]; simp) (by omega) (by omega) ((((((((rs_X.refl s).u (by unfold rs_sc; omega)).u (by unfold rs_sc; omega)).u (by unfold rs_sc; omega)).u (by unfold rs_sc; omega)).u (by unfold rs_sc; omega)).u (by unfold rs_sc; omega)).u (by unfold rs_sc; omega)) f442
      · skip
        rw [ne_eq, i32_eq (by omega) (by omega)] at h370
        replace h370 := Decidable.not_not.mp h370
        have h370p : rd_sk cs n (sb_re 97 122 cs n (rd_sk cs n p)) < n := sb_lk_pos (cs := cs) (by omega)
        refine wp_st 1 (f' := (111, [some (.ref (b)), some (.int (sb_i jn)), some (.int (Int32.ofNat (96 + (rg_R S)))), none], [.ref (b)], A364)) rfl ?_
        refine rw_gf (v := .int ((-1))) h366 rfl rfl rfl rfl (rfl) rfl ?_
        refine wp_izF rfl rfl (show ¬ ((Int32.ofNat 0) ≤ (-1 : Int32)) from by decide) ?_
        refine wp_st 2 (f' := (119, [some (.ref (b)), some (.int (sb_i jn)), some (.int (Int32.ofNat (96 + (rg_R S)))), none], [.ref (b), .ref (b)], A364)) rfl ?_
        refine rw_gf (v := .int (Int32.ofNat (rd_sk cs n (sb_re 97 122 cs n (rd_sk cs n p))))) h366 rfl rfl rfl rfl (rfl) rfl ?_
        refine wp_st 2 (f' := (124, [some (.ref (b)), some (.int (sb_i jn)), some (.int (Int32.ofNat (96 + (rg_R S)))), none], [.int ((Int32.ofNat (rd_sk cs n (sb_re 97 122 cs n (rd_sk cs n p)))) + (Int32.ofNat 1)), .ref (b)], A364)) rfl ?_
        rw [i32_add (rd_sk cs n (sb_re 97 122 cs n (rd_sk cs n p))) (1)]
        refine rw_pf (v := .int (Int32.ofNat (rd_sk cs n (sb_re 97 122 cs n (rd_sk cs n p)) + 1))) h366 rfl rfl rfl rfl rfl rfl (fun A443 h444 f445 => ?_)
        have f446 := f368.trans f445
        rw [rf_c17] at h444
        refine wp_st 1 (f' := (128, [some (.ref (b)), some (.int (sb_i jn)), some (.int (Int32.ofNat (96 + (rg_R S)))), none], [.ref (b)], A443)) rfl ?_
        have k447 := rd_sk_gt (cs := cs) (n := n) (a := rd_sk cs n (sb_re 97 122 cs n (rd_sk cs n p)) + 1)
        obtain ⟨A448, g449, h450, f451⟩ := (show rf_go (d - 1) 129 [.ref b] A443 b none (rf_c (rf_u (rf_u (rf_u (rf_u s 40 0 (.int (Int32.ofNat (rg_R S + 1)))) 35 (96 + (rg_R S)) (.int (sb_i jn))) 32 (96 + (rg_R S)) (.int (Int32.ofNat o9))) 33 (96 + (rg_R S)) (.int (Int32.ofNat 0))) (rd_sk cs n (rd_sk cs n (sb_re 97 122 cs n (rd_sk cs n p)) + 1)) (-1) (Int64.ofNat (cs.getD (rd_sk cs n p) 0 - 96)) (rd_sk cs n p)) from rr_spaces (d := d - 1) (by omega) (by omega) (show rf_tx (rf_u (rf_u (rf_u (rf_u s 40 0 (.int (Int32.ofNat (rg_R S + 1)))) 35 (96 + (rg_R S)) (.int (sb_i jn))) 32 (96 + (rg_R S)) (.int (Int32.ofNat o9))) 33 (96 + (rg_R S)) (.int (Int32.ofNat 0))) cs n from hx) h444)
        have f452 := f446.trans f451
        refine wp_cv (A' := A448) (v := none) rfl rfl rfl rfl rfl (show _ from h444.1) (by omega) (g449) rfl ?_
        show am_wp d 151 (131, [some (.ref (b)), some (.int (sb_i jn)), some (.int (Int32.ofNat (96 + (rg_R S)))), none], [], A448) _
        refine wp_st 1 (f' := (132, [some (.ref (b)), some (.int (sb_i jn)), some (.int (Int32.ofNat (96 + (rg_R S)))), none], [.ref (b)], A448)) rfl ?_
        rcases u453 : rd_num cs n 4 (rd_sk cs n (rd_sk cs n (sb_re 97 122 cs n (rd_sk cs n p)) + 1)) with e454 | ⟨x455, v456⟩
        · skip
          have u453l := rd_num_er (by omega) u453
          have u453k := sb_re_le (lo := 48) (hi := 57) (cs := cs) (n := n) (a := rd_sk cs n (rd_sk cs n (sb_re 97 122 cs n (rd_sk cs n p)) + 1))
          have u453j := u453k.2.1 (by omega)
          obtain ⟨A457, g458, h459, f460⟩ := (show rf_go _ _ _ _ _ _ (rf_c (rf_u (rf_u (rf_u (rf_u s 40 0 (.int (Int32.ofNat (rg_R S + 1)))) 35 (96 + (rg_R S)) (.int (sb_i jn))) 32 (96 + (rg_R S)) (.int (Int32.ofNat o9))) 33 (96 + (rg_R S)) (.int (Int32.ofNat 0))) (sb_re 48 57 cs n (rd_sk cs n (rd_sk cs n (sb_re 97 122 cs n (rd_sk cs n p)) + 1))) (Int32.ofNat e454) (rf_nr cs (rd_sk cs n (rd_sk cs n (sb_re 97 122 cs n (rd_sk cs n p)) + 1)) (sb_re 48 57 cs n (rd_sk cs n (rd_sk cs n (sb_re 97 122 cs n (rd_sk cs n p)) + 1)) - (rd_sk cs n (rd_sk cs n (sb_re 97 122 cs n (rd_sk cs n p)) + 1)))) (rd_sk cs n (rd_sk cs n (sb_re 97 122 cs n (rd_sk cs n p)) + 1))) from by have q := rr_dig (d := d - 1) (by omega) (by omega) (show rf_tx (rf_u (rf_u (rf_u (rf_u s 40 0 (.int (Int32.ofNat (rg_R S + 1)))) 35 (96 + (rg_R S)) (.int (sb_i jn))) 32 (96 + (rg_R S)) (.int (Int32.ofNat o9))) 33 (96 + (rg_R S)) (.int (Int32.ofNat 0))) cs n from hx) h450; rw [rf_dig_er u453] at q; exact q)
          have f461 := f452.trans f460
          refine wp_cv (A' := A457) (v := none) rfl rfl rfl rfl rfl (show _ from h450.1) (by omega) (g458) rfl ?_
          show am_wp d 151 (135, [some (.ref (b)), some (.int (sb_i jn)), some (.int (Int32.ofNat (96 + (rg_R S)))), none], [], A457) _
          refine wp_st 1 (f' := (136, [some (.ref (b)), some (.int (sb_i jn)), some (.int (Int32.ofNat (96 + (rg_R S)))), none], [.ref (b)], A457)) rfl ?_
          refine rw_gr h459 rfl rfl rfl rfl rfl rfl ?_
          refine wp_st 2 (f' := (141, [some (.ref (b)), some (.int (sb_i jn)), some (.int (Int32.ofNat (96 + (rg_R S)))), none], [.ref (b), .int (Int32.ofNat (96 + (rg_R S))), .ref (b + 22)], A457)) rfl ?_
          refine rw_gf (v := .long (rf_nr cs (rd_sk cs n (rd_sk cs n (sb_re 97 122 cs n (rd_sk cs n p)) + 1)) (sb_re 48 57 cs n (rd_sk cs n (rd_sk cs n (sb_re 97 122 cs n (rd_sk cs n p)) + 1)) - (rd_sk cs n (rd_sk cs n (sb_re 97 122 cs n (rd_sk cs n p)) + 1))))) h459 rfl rfl rfl rfl (rfl) rfl ?_
          refine wp_st 1 (f' := (145, [some (.ref (b)), some (.int (sb_i jn)), some (.int (Int32.ofNat (96 + (rg_R S)))), none], [.int ((rf_nr cs (rd_sk cs n (rd_sk cs n (sb_re 97 122 cs n (rd_sk cs n p)) + 1)) (sb_re 48 57 cs n (rd_sk cs n (rd_sk cs n (sb_re 97 122 cs n (rd_sk cs n p)) + 1)) - (rd_sk cs n (rd_sk cs n (sb_re 97 122 cs n (rd_sk cs n p)) + 1)))).toInt32), .int (Int32.ofNat (96 + (rg_R S))), .ref (b + 22)], A457)) rfl ?_
          refine rw_as (j := 33) (n := 96 + (rg_R S)) (v := .int ((rf_nr cs (rd_sk cs n (rd_sk cs n (sb_re 97 122 cs n (rd_sk cs n p)) + 1)) (sb_re 48 57 cs n (rd_sk cs n (rd_sk cs n (sb_re 97 122 cs n (rd_sk cs n p)) + 1)) - (rd_sk cs n (rd_sk cs n (sb_re 97 122 cs n (rd_sk cs n p)) + 1)))).toInt32)) h459 rfl rfl rfl (Or.inl ⟨rfl, rfl, rfl⟩) (show _ < 144 from by omega) rfl rfl (fun A462 h463 f464 => ?_)
          have f465 := f461.trans f464
          rw [rf_c_u (by decide)] at h463
          refine wp_st 1 (f' := (147, [some (.ref (b)), some (.int (sb_i jn)), some (.int (Int32.ofNat (96 + (rg_R S)))), none], [.ref (b)], A462)) rfl ?_
          refine rw_gf (v := .int (Int32.ofNat e454)) h463 rfl rfl rfl rfl (rfl) rfl ?_
          refine wp_izT rfl rfl (show Int32.ofNat 0 ≤ (Int32.ofNat e454) from Int32.not_lt.mp (Int32.ofNat_not_neg (by omega))) ?_
          refine wp_st 1 (f' := (171, [some (.ref (b)), some (.int (sb_i jn)), some (.int (Int32.ofNat (96 + (rg_R S)))), none], [.ref (b)], A462)) rfl ?_
          have k466 := rd_sk_gt (cs := cs) (n := n) (a := sb_re 48 57 cs n (rd_sk cs n (rd_sk cs n (sb_re 97 122 cs n (rd_sk cs n p)) + 1)))
          obtain ⟨A467, g468, h469, f470⟩ := (show rf_go (d - 1) 129 [.ref b] A462 b none (rf_c (rf_u (rf_u (rf_u (rf_u (rf_u s 40 0 (.int (Int32.ofNat (rg_R S + 1)))) 35 (96 + (rg_R S)) (.int (sb_i jn))) 32 (96 + (rg_R S)) (.int (Int32.ofNat o9))) 33 (96 + (rg_R S)) (.int (Int32.ofNat 0))) 33 (96 + (rg_R S)) (.int ((rf_nr cs (rd_sk cs n (rd_sk cs n (sb_re 97 122 cs n (rd_sk cs n p)) + 1)) (sb_re 48 57 cs n (rd_sk cs n (rd_sk cs n (sb_re 97 122 cs n (rd_sk cs n p)) + 1)) - (rd_sk cs n (rd_sk cs n (sb_re 97 122 cs n (rd_sk cs n p)) + 1)))).toInt32))) (rd_sk cs n (sb_re 48 57 cs n (rd_sk cs n (rd_sk cs n (sb_re 97 122 cs n (rd_sk cs n p)) + 1)))) (Int32.ofNat e454) (rf_nr cs (rd_sk cs n (rd_sk cs n (sb_re 97 122 cs n (rd_sk cs n p)) + 1)) (sb_re 48 57 cs n (rd_sk cs n (rd_sk cs n (sb_re 97 122 cs n (rd_sk cs n p)) + 1)) - (rd_sk cs n (rd_sk cs n (sb_re 97 122 cs n (rd_sk cs n p)) + 1)))) (rd_sk cs n (rd_sk cs n (sb_re 97 122 cs n (rd_sk cs n p)) + 1))) from rr_spaces (d := d - 1) (by omega) (by omega) (show rf_tx (rf_u (rf_u (rf_u (rf_u (rf_u s 40 0 (.int (Int32.ofNat (rg_R S + 1)))) 35 (96 + (rg_R S)) (.int (sb_i jn))) 32 (96 + (rg_R S)) (.int (Int32.ofNat o9))) 33 (96 + (rg_R S)) (.int (Int32.ofNat 0))) 33 (96 + (rg_R S)) (.int ((rf_nr cs (rd_sk cs n (rd_sk cs n (sb_re 97 122 cs n (rd_sk cs n p)) + 1)) (sb_re 48 57 cs n (rd_sk cs n (rd_sk cs n (sb_re 97 122 cs n (rd_sk cs n p)) + 1)) - (rd_sk cs n (rd_sk cs n (sb_re 97 122 cs n (rd_sk cs n p)) + 1)))).toInt32))) cs n from hx) h463)
          have f471 := f465.trans f470
          refine wp_cv (A' := A467) (v := none) rfl rfl rfl rfl rfl (show _ from h463.1) (by omega) (g468) rfl ?_
          show am_wp d 151 (174, [some (.ref (b)), some (.int (sb_i jn)), some (.int (Int32.ofNat (96 + (rg_R S)))), none], [], A467) _
          refine wp_st 1 (f' := (175, [some (.ref (b)), some (.int (sb_i jn)), some (.int (Int32.ofNat (96 + (rg_R S)))), none], [.ref (b)], A467)) rfl ?_
          refine rw_gr h469 rfl rfl rfl rfl rfl rfl ?_
          refine wp_st 3 (f' := (181, [some (.ref (b)), some (.int (sb_i jn)), some (.int (Int32.ofNat (96 + (rg_R S)))), none], [.ref (b), .ref (b), .int (Int32.ofNat (96 + (rg_R S))), .ref (b + 23)], A467)) rfl ?_
          refine rw_gf (v := .int (Int32.ofNat (rd_sk cs n (sb_re 48 57 cs n (rd_sk cs n (rd_sk cs n (sb_re 97 122 cs n (rd_sk cs n p)) + 1)))))) h469 rfl rfl rfl rfl (rfl) rfl ?_
          have l472 := hlk (rd_sk cs n (sb_re 48 57 cs n (rd_sk cs n (rd_sk cs n (sb_re 97 122 cs n (rd_sk cs n p)) + 1))))
          refine wp_cv (A' := A467) (v := some (.int (Int32.ofNat (sb_lk cs n (rd_sk cs n (sb_re 48 57 cs n (rd_sk cs n (rd_sk cs n (sb_re 97 122 cs n (rd_sk cs n p)) + 1)))))))) rfl rfl rfl rfl rfl (show _ from h469.1) (by omega) (rr_look (by omega) (show rf_tx (rf_u (rf_u (rf_u (rf_u (rf_u s 40 0 (.int (Int32.ofNat (rg_R S + 1)))) 35 (96 + (rg_R S)) (.int (sb_i jn))) 32 (96 + (rg_R S)) (.int (Int32.ofNat o9))) 33 (96 + (rg_R S)) (.int (Int32.ofNat 0))) 33 (96 + (rg_R S)) (.int ((rf_nr cs (rd_sk cs n (rd_sk cs n (sb_re 97 122 cs n (rd_sk cs n p)) + 1)) (sb_re 48 57 cs n (rd_sk cs n (rd_sk cs n (sb_re 97 122 cs n (rd_sk cs n p)) + 1)) - (rd_sk cs n (rd_sk cs n (sb_re 97 122 cs n (rd_sk cs n p)) + 1)))).toInt32))) cs n from hx) h469) rfl ?_
          show am_wp d 151 (187, [some (.ref (b)), some (.int (sb_i jn)), some (.int (Int32.ofNat (96 + (rg_R S)))), none], [.int (Int32.ofNat (sb_lk cs n (rd_sk cs n (sb_re 48 57 cs n (rd_sk cs n (rd_sk cs n (sb_re 97 122 cs n (rd_sk cs n p)) + 1)))))), .int (Int32.ofNat (96 + (rg_R S))), .ref (b + 23)], A467) _
          refine wp_st 1 (f' := (189, [some (.ref (b)), some (.int (sb_i jn)), some (.int (Int32.ofNat (96 + (rg_R S)))), none], [.int (Int32.ofNat 33), .int (Int32.ofNat (sb_lk cs n (rd_sk cs n (sb_re 48 57 cs n (rd_sk cs n (rd_sk cs n (sb_re 97 122 cs n (rd_sk cs n p)) + 1)))))), .int (Int32.ofNat (96 + (rg_R S))), .ref (b + 23)], A467)) rfl ?_
          refine wp_if rfl rfl rfl (fun (h473 : (Int32.ofNat (sb_lk cs n (rd_sk cs n (sb_re 48 57 cs n (rd_sk cs n (rd_sk cs n (sb_re 97 122 cs n (rd_sk cs n p)) + 1)))))) ≠ (Int32.ofNat 33)) => ?_) (fun (h473 : ¬ ((Int32.ofNat (sb_lk cs n (rd_sk cs n (sb_re 48 57 cs n (rd_sk cs n (rd_sk cs n (sb_re 97 122 cs n (rd_sk cs n p)) + 1)))))) ≠ (Int32.ofNat 33))) => ?_)
          · skip
            rw [ne_eq, i32_eq (by omega) (by omega)] at h473
            refine wp_st 1 (f' := (197, [some (.ref (b)), some (.int (sb_i jn)), some (.int (Int32.ofNat (96 + (rg_R S)))), none], [.int (Int32.ofNat 0), .int (Int32.ofNat (96 + (rg_R S))), .ref (b + 23)], A467)) rfl ?_
            refine rw_as (j := 34) (n := 96 + (rg_R S)) (v := .int (sb_i false)) h469 rfl rfl rfl (Or.inr (Or.inr ⟨rfl, rfl, rfl⟩)) (show _ < 144 from by omega) (sb_narrow_z false) rfl (fun A474 h475 f476 => ?_)
            have f477 := f471.trans f476
            rw [rf_c_u (by decide)] at h475
            refine wp_st 2 (f' := (200, [some (.ref (b)), some (.int (sb_i jn)), some (.int (Int32.ofNat (96 + (rg_R S)))), none], [.ref (b), .ref (b)], A474)) rfl ?_
            refine rw_gr h475 rfl rfl rfl rfl rfl rfl ?_
            refine wp_st 1 (f' := (204, [some (.ref (b)), some (.int (sb_i jn)), some (.int (Int32.ofNat (96 + (rg_R S)))), none], [.int (Int32.ofNat (96 + (rg_R S))), .ref (b + 23), .ref (b)], A474)) rfl ?_
            refine rw_al (j := 34) (n := 96 + (rg_R S)) (v := .int (Int32.ofNat 0)) h475 rfl rfl rfl (Or.inr (Or.inr (Or.inr (Or.inl ⟨rfl, rfl⟩)))) rfl (show _ < 144 from by omega) (by rw [rf_c_ne (show 34 ≠ 17 ∧ 34 ≠ 18 ∧ 34 ≠ 28 ∧ 34 ≠ 29 by decide), rf_u_eq]; rfl) rfl ?_
            refine wp_izT rfl rfl (show (Int32.ofNat 0) = (Int32.ofNat 0) from by decide) ?_
            refine wp_st 1 (f' := (218, [some (.ref (b)), some (.int (sb_i jn)), some (.int (Int32.ofNat (96 + (rg_R S)))), none], [.ref (b), .ref (b)], A474)) rfl ?_
            refine rw_gf (v := .int (Int32.ofNat (rd_sk cs n (sb_re 48 57 cs n (rd_sk cs n (rd_sk cs n (sb_re 97 122 cs n (rd_sk cs n p)) + 1)))))) h475 rfl rfl rfl rfl (rfl) rfl ?_
            refine rw_pf (v := .int (Int32.ofNat (rd_sk cs n (sb_re 48 57 cs n (rd_sk cs n (rd_sk cs n (sb_re 97 122 cs n (rd_sk cs n p)) + 1)))))) h475 rfl rfl rfl rfl rfl rfl (fun A478 h479 f480 => ?_)
            have f481 := f477.trans f480
            rw [rf_c17] at h479
            refine wp_st 2 (f' := (227, [some (.ref (b)), some (.int (sb_i jn)), some (.int (Int32.ofNat (96 + (rg_R S)))), none], [.int (Int32.ofNat 61), .ref (b)], A478)) rfl ?_
            by_cases c482 : sb_lk cs n (rd_sk cs n (sb_re 48 57 cs n (rd_sk cs n (rd_sk cs n (sb_re 97 122 cs n (rd_sk cs n p)) + 1)))) = 61
            · skip
              have c482p : rd_sk cs n (sb_re 48 57 cs n (rd_sk cs n (rd_sk cs n (sb_re 97 122 cs n (rd_sk cs n p)) + 1))) < n := sb_lk_pos (cs := cs) (by omega)
              obtain ⟨A483, g484, h485, f486⟩ := (show rf_go _ _ _ _ _ _ (rf_c (rf_u (rf_u (rf_u (rf_u (rf_u (rf_u s 40 0 (.int (Int32.ofNat (rg_R S + 1)))) 35 (96 + (rg_R S)) (.int (sb_i jn))) 32 (96 + (rg_R S)) (.int (Int32.ofNat o9))) 33 (96 + (rg_R S)) (.int (Int32.ofNat 0))) 33 (96 + (rg_R S)) (.int ((rf_nr cs (rd_sk cs n (rd_sk cs n (sb_re 97 122 cs n (rd_sk cs n p)) + 1)) (sb_re 48 57 cs n (rd_sk cs n (rd_sk cs n (sb_re 97 122 cs n (rd_sk cs n p)) + 1)) - (rd_sk cs n (rd_sk cs n (sb_re 97 122 cs n (rd_sk cs n p)) + 1)))).toInt32))) 34 (96 + (rg_R S)) (.int (sb_i false))) (rd_sk cs n (sb_re 48 57 cs n (rd_sk cs n (rd_sk cs n (sb_re 97 122 cs n (rd_sk cs n p)) + 1))) + 1) (Int32.ofNat e454) (rf_nr cs (rd_sk cs n (rd_sk cs n (sb_re 97 122 cs n (rd_sk cs n p)) + 1)) (sb_re 48 57 cs n (rd_sk cs n (rd_sk cs n (sb_re 97 122 cs n (rd_sk cs n p)) + 1)) - (rd_sk cs n (rd_sk cs n (sb_re 97 122 cs n (rd_sk cs n p)) + 1)))) (rd_sk cs n (rd_sk cs n (sb_re 97 122 cs n (rd_sk cs n p)) + 1))) from by have e := rr_need (d := d - 1) (c := 61) (by omega) (by omega) (by omega) (show rf_tx (rf_u (rf_u (rf_u (rf_u (rf_u (rf_u s 40 0 (.int (Int32.ofNat (rg_R S + 1)))) 35 (96 + (rg_R S)) (.int (sb_i jn))) 32 (96 + (rg_R S)) (.int (Int32.ofNat o9))) 33 (96 + (rg_R S)) (.int (Int32.ofNat 0))) 33 (96 + (rg_R S)) (.int ((rf_nr cs (rd_sk cs n (rd_sk cs n (sb_re 97 122 cs n (rd_sk cs n p)) + 1)) (sb_re 48 57 cs n (rd_sk cs n (rd_sk cs n (sb_re 97 122 cs n (rd_sk cs n p)) + 1)) - (rd_sk cs n (rd_sk cs n (sb_re 97 122 cs n (rd_sk cs n p)) + 1)))).toInt32))) 34 (96 + (rg_R S)) (.int (sb_i false))) cs n from hx) h479; rw [if_pos c482] at e; exact e)
              have f487 := f481.trans f486
              refine wp_cv (A' := A483) (v := none) rfl rfl rfl rfl rfl (show _ from h479.1) (by omega) (g484) rfl ?_
              show am_wp d 151 (230, [some (.ref (b)), some (.int (sb_i jn)), some (.int (Int32.ofNat (96 + (rg_R S)))), none], [], A483) _
              refine wp_st 1 (f' := (231, [some (.ref (b)), some (.int (sb_i jn)), some (.int (Int32.ofNat (96 + (rg_R S)))), none], [.ref (b)], A483)) rfl ?_
              refine rw_gr h485 rfl rfl rfl rfl rfl rfl ?_
              refine wp_st 3 (f' := (239, [some (.ref (b)), some (.int (sb_i jn)), some (.int (Int32.ofNat (96 + (rg_R S)))), none], [.ref (b), .int (Int32.ofNat 128), .int (Int32.ofNat (96 + (rg_R S))), .ref (b + 25)], A483)) rfl ?_
              refine rw_gf (v := .int (Int32.ofNat (rg_G S))) h485 rfl rfl rfl rfl (hs.2.1) rfl ?_
              refine wp_st 1 (f' := (243, [some (.ref (b)), some (.int (sb_i jn)), some (.int (Int32.ofNat (96 + (rg_R S)))), none], [.int ((Int32.ofNat 128) + (Int32.ofNat (rg_G S))), .int (Int32.ofNat (96 + (rg_R S))), .ref (b + 25)], A483)) rfl ?_
              rw [i32_add (128) (rg_G S)]
              refine rw_as (j := 36) (n := 96 + (rg_R S)) (v := .int (Int32.ofNat (128 + (rg_G S)))) h485 rfl rfl rfl (Or.inl ⟨rfl, rfl, rfl⟩) (show _ < 144 from by omega) rfl rfl (fun A488 h489 f490 => ?_)
              have f491 := f487.trans f490
              rw [rf_c_u (by decide)] at h489
              refine wp_st 1 (f' := (245, [some (.ref (b)), some (.int (sb_i jn)), some (.int (Int32.ofNat (96 + (rg_R S)))), none], [.ref (b)], A488)) rfl ?_
              refine rw_gr h489 rfl rfl rfl rfl rfl rfl ?_
              refine wp_st 2 (f' := (250, [some (.ref (b)), some (.int (sb_i jn)), some (.int (Int32.ofNat (96 + (rg_R S)))), none], [.int (Int32.ofNat 0), .int (Int32.ofNat (96 + (rg_R S))), .ref (b + 26)], A488)) rfl ?_
              refine rw_as (j := 37) (n := 96 + (rg_R S)) (v := .int (Int32.ofNat 0)) h489 rfl rfl rfl (Or.inl ⟨rfl, rfl, rfl⟩) (show _ < 144 from by omega) rfl rfl (fun A492 h493 f494 => ?_)
              have f495 := f491.trans f494
              rw [rf_c_u (by decide)] at h493
              refine wp_st 2 (f' := (253, [some (.ref (b)), some (.int (sb_i jn)), some (.int (Int32.ofNat (96 + (rg_R S)))), some (.int (Int32.ofNat 1))], [], A492)) rfl ?_
              refine wp_st 1 (f' := (254, [some (.ref (b)), some (.int (sb_i jn)), some (.int (Int32.ofNat (96 + (rg_R S)))), some (.int (Int32.ofNat 1))], [.int (Int32.ofNat 1)], A492)) rfl ?_
              refine wp_izF rfl rfl (show ¬ ((Int32.ofNat 1) = (Int32.ofNat 0)) from by decide) ?_
              refine wp_st 1 (f' := (258, [some (.ref (b)), some (.int (sb_i jn)), some (.int (Int32.ofNat (96 + (rg_R S)))), some (.int (Int32.ofNat 1))], [.ref (b)], A492)) rfl ?_
              refine rw_gf (v := .int (Int32.ofNat e454)) h493 rfl rfl rfl rfl (rfl) rfl ?_
              refine wp_izT rfl rfl (show Int32.ofNat 0 ≤ (Int32.ofNat e454) from Int32.not_lt.mp (Int32.ofNat_not_neg (by omega))) ?_
              refine wp_rt rfl rfl rfl ?_
              have hres : ru_rel cs n (!jn) p S = .error (e454) := by simp [ru_rel, ru_rel2, ru_mod, hop, h370, u453, h473, c482]
              rw [hres]
              exact rq_Q_er (k := rg_R S + 1) h493 (by simp only [rf_u_if]; simp) (by omega) (by omega) (((((((((rs_X.refl s).u (by unfold rs_sc; omega)).u (by unfold rs_sc; omega)).u (by unfold rs_sc; omega)).u (by unfold rs_sc; omega)).u (by unfold rs_sc; omega)).u (by unfold rs_sc; omega)).u (by unfold rs_sc; omega)).u (by unfold rs_sc; omega)) f495
            · skip
              obtain ⟨A496, g497, h498, f499⟩ := (show rf_go _ _ _ _ _ _ (rf_c (rf_u (rf_u (rf_u (rf_u (rf_u (rf_u s 40 0 (.int (Int32.ofNat (rg_R S + 1)))) 35 (96 + (rg_R S)) (.int (sb_i jn))) 32 (96 + (rg_R S)) (.int (Int32.ofNat o9))) 33 (96 + (rg_R S)) (.int (Int32.ofNat 0))) 33 (96 + (rg_R S)) (.int ((rf_nr cs (rd_sk cs n (rd_sk cs n (sb_re 97 122 cs n (rd_sk cs n p)) + 1)) (sb_re 48 57 cs n (rd_sk cs n (rd_sk cs n (sb_re 97 122 cs n (rd_sk cs n p)) + 1)) - (rd_sk cs n (rd_sk cs n (sb_re 97 122 cs n (rd_sk cs n p)) + 1)))).toInt32))) 34 (96 + (rg_R S)) (.int (sb_i false))) (rd_sk cs n (sb_re 48 57 cs n (rd_sk cs n (rd_sk cs n (sb_re 97 122 cs n (rd_sk cs n p)) + 1))) + 1) (Int32.ofNat e454) (rf_nr cs (rd_sk cs n (rd_sk cs n (sb_re 97 122 cs n (rd_sk cs n p)) + 1)) (sb_re 48 57 cs n (rd_sk cs n (rd_sk cs n (sb_re 97 122 cs n (rd_sk cs n p)) + 1)) - (rd_sk cs n (rd_sk cs n (sb_re 97 122 cs n (rd_sk cs n p)) + 1)))) (rd_sk cs n (rd_sk cs n (sb_re 97 122 cs n (rd_sk cs n p)) + 1))) from by have e := rr_need (d := d - 1) (c := 61) (by omega) (by omega) (by omega) (show rf_tx (rf_u (rf_u (rf_u (rf_u (rf_u (rf_u s 40 0 (.int (Int32.ofNat (rg_R S + 1)))) 35 (96 + (rg_R S)) (.int (sb_i jn))) 32 (96 + (rg_R S)) (.int (Int32.ofNat o9))) 33 (96 + (rg_R S)) (.int (Int32.ofNat 0))) 33 (96 + (rg_R S)) (.int ((rf_nr cs (rd_sk cs n (rd_sk cs n (sb_re 97 122 cs n (rd_sk cs n p)) + 1)) (sb_re 48 57 cs n (rd_sk cs n (rd_sk cs n (sb_re 97 122 cs n (rd_sk cs n p)) + 1)) - (rd_sk cs n (rd_sk cs n (sb_re 97 122 cs n (rd_sk cs n p)) + 1)))).toInt32))) 34 (96 + (rg_R S)) (.int (sb_i false))) cs n from hx) h479; rw [if_neg c482, rf_w_n (by omega)] at e; exact e)
              have f500 := f481.trans f499
              refine wp_cv (A' := A496) (v := none) rfl rfl rfl rfl rfl (show _ from h479.1) (by omega) (g497) rfl ?_
              show am_wp d 151 (230, [some (.ref (b)), some (.int (sb_i jn)), some (.int (Int32.ofNat (96 + (rg_R S)))), none], [], A496) _
              refine wp_st 1 (f' := (231, [some (.ref (b)), some (.int (sb_i jn)), some (.int (Int32.ofNat (96 + (rg_R S)))), none], [.ref (b)], A496)) rfl ?_
              refine rw_gr h498 rfl rfl rfl rfl rfl rfl ?_
              refine wp_st 3 (f' := (239, [some (.ref (b)), some (.int (sb_i jn)), some (.int (Int32.ofNat (96 + (rg_R S)))), none], [.ref (b), .int (Int32.ofNat 128), .int (Int32.ofNat (96 + (rg_R S))), .ref (b + 25)], A496)) rfl ?_
              refine rw_gf (v := .int (Int32.ofNat (rg_G S))) h498 rfl rfl rfl rfl (hs.2.1) rfl ?_
              refine wp_st 1 (f' := (243, [some (.ref (b)), some (.int (sb_i jn)), some (.int (Int32.ofNat (96 + (rg_R S)))), none], [.int ((Int32.ofNat 128) + (Int32.ofNat (rg_G S))), .int (Int32.ofNat (96 + (rg_R S))), .ref (b + 25)], A496)) rfl ?_
              rw [i32_add (128) (rg_G S)]
              refine rw_as (j := 36) (n := 96 + (rg_R S)) (v := .int (Int32.ofNat (128 + (rg_G S)))) h498 rfl rfl rfl (Or.inl ⟨rfl, rfl, rfl⟩) (show _ < 144 from by omega) rfl rfl (fun A501 h502 f503 => ?_)
              have f504 := f500.trans f503
              rw [rf_c_u (by decide)] at h502
              refine wp_st 1 (f' := (245, [some (.ref (b)), some (.int (sb_i jn)), some (.int (Int32.ofNat (96 + (rg_R S)))), none], [.ref (b)], A501)) rfl ?_
              refine rw_gr h502 rfl rfl rfl rfl rfl rfl ?_
              refine wp_st 2 (f' := (250, [some (.ref (b)), some (.int (sb_i jn)), some (.int (Int32.ofNat (96 + (rg_R S)))), none], [.int (Int32.ofNat 0), .int (Int32.ofNat (96 + (rg_R S))), .ref (b + 26)], A501)) rfl ?_
              refine rw_as (j := 37) (n := 96 + (rg_R S)) (v := .int (Int32.ofNat 0)) h502 rfl rfl rfl (Or.inl ⟨rfl, rfl, rfl⟩) (show _ < 144 from by omega) rfl rfl (fun A505 h506 f507 => ?_)
              have f508 := f504.trans f507
              rw [rf_c_u (by decide)] at h506
              refine wp_st 2 (f' := (253, [some (.ref (b)), some (.int (sb_i jn)), some (.int (Int32.ofNat (96 + (rg_R S)))), some (.int (Int32.ofNat 1))], [], A505)) rfl ?_
              refine wp_st 1 (f' := (254, [some (.ref (b)), some (.int (sb_i jn)), some (.int (Int32.ofNat (96 + (rg_R S)))), some (.int (Int32.ofNat 1))], [.int (Int32.ofNat 1)], A505)) rfl ?_
              refine wp_izF rfl rfl (show ¬ ((Int32.ofNat 1) = (Int32.ofNat 0)) from by decide) ?_
              refine wp_st 1 (f' := (258, [some (.ref (b)), some (.int (sb_i jn)), some (.int (Int32.ofNat (96 + (rg_R S)))), some (.int (Int32.ofNat 1))], [.ref (b)], A505)) rfl ?_
              refine rw_gf (v := .int (Int32.ofNat e454)) h506 rfl rfl rfl rfl (rfl) rfl ?_
              refine wp_izT rfl rfl (show Int32.ofNat 0 ≤ (Int32.ofNat e454) from Int32.not_lt.mp (Int32.ofNat_not_neg (by omega))) ?_
              refine wp_rt rfl rfl rfl ?_
              have hres : ru_rel cs n (!jn) p S = .error (e454) := by simp [ru_rel, ru_rel2, ru_mod, hop, h370, u453, h473, c482]
              rw [hres]
              exact rq_Q_er (k := rg_R S + 1) h506 (by simp only [rf_u_if]; simp) (by omega) (by omega) (((((((((rs_X.refl s).u (by unfold rs_sc; omega)).u (by unfold rs_sc; omega)).u (by unfold rs_sc; omega)).u (by unfold rs_sc; omega)).u (by unfold rs_sc; omega)).u (by unfold rs_sc; omega)).u (by unfold rs_sc; omega)).u (by unfold rs_sc; omega)) f508
          · skip
            rw [ne_eq, i32_eq (by omega) (by omega)] at h473
            replace h473 := Decidable.not_not.mp h473
            have h473p : rd_sk cs n (sb_re 48 57 cs n (rd_sk cs n (rd_sk cs n (sb_re 97 122 cs n (rd_sk cs n p)) + 1))) < n := sb_lk_pos (cs := cs) (by omega)
            refine wp_st 2 (f' := (197, [some (.ref (b)), some (.int (sb_i jn)), some (.int (Int32.ofNat (96 + (rg_R S)))), none], [.int (Int32.ofNat 1), .int (Int32.ofNat (96 + (rg_R S))), .ref (b + 23)], A467)) rfl ?_
            refine rw_as (j := 34) (n := 96 + (rg_R S)) (v := .int (sb_i true)) h469 rfl rfl rfl (Or.inr (Or.inr ⟨rfl, rfl, rfl⟩)) (show _ < 144 from by omega) (sb_narrow_z true) rfl (fun A509 h510 f511 => ?_)
            have f512 := f471.trans f511
            rw [rf_c_u (by decide)] at h510
            refine wp_st 2 (f' := (200, [some (.ref (b)), some (.int (sb_i jn)), some (.int (Int32.ofNat (96 + (rg_R S)))), none], [.ref (b), .ref (b)], A509)) rfl ?_
            refine rw_gr h510 rfl rfl rfl rfl rfl rfl ?_
            refine wp_st 1 (f' := (204, [some (.ref (b)), some (.int (sb_i jn)), some (.int (Int32.ofNat (96 + (rg_R S)))), none], [.int (Int32.ofNat (96 + (rg_R S))), .ref (b + 23), .ref (b)], A509)) rfl ?_
            refine rw_al (j := 34) (n := 96 + (rg_R S)) (v := .int (Int32.ofNat 1)) h510 rfl rfl rfl (Or.inr (Or.inr (Or.inr (Or.inl ⟨rfl, rfl⟩)))) rfl (show _ < 144 from by omega) (by rw [rf_c_ne (show 34 ≠ 17 ∧ 34 ≠ 18 ∧ 34 ≠ 28 ∧ 34 ≠ 29 by decide), rf_u_eq]; rfl) rfl ?_
            refine wp_izF rfl rfl (show ¬ ((Int32.ofNat 1) = (Int32.ofNat 0)) from by decide) ?_
            refine wp_st 1 (f' := (209, [some (.ref (b)), some (.int (sb_i jn)), some (.int (Int32.ofNat (96 + (rg_R S)))), none], [.ref (b), .ref (b)], A509)) rfl ?_
            refine rw_gf (v := .int (Int32.ofNat (rd_sk cs n (sb_re 48 57 cs n (rd_sk cs n (rd_sk cs n (sb_re 97 122 cs n (rd_sk cs n p)) + 1)))))) h510 rfl rfl rfl rfl (rfl) rfl ?_
            refine wp_st 2 (f' := (214, [some (.ref (b)), some (.int (sb_i jn)), some (.int (Int32.ofNat (96 + (rg_R S)))), none], [.int ((Int32.ofNat (rd_sk cs n (sb_re 48 57 cs n (rd_sk cs n (rd_sk cs n (sb_re 97 122 cs n (rd_sk cs n p)) + 1))))) + (Int32.ofNat 1)), .ref (b)], A509)) rfl ?_
            rw [i32_add (rd_sk cs n (sb_re 48 57 cs n (rd_sk cs n (rd_sk cs n (sb_re 97 122 cs n (rd_sk cs n p)) + 1)))) (1)]
            refine wp_st 1 (f' := (221, [some (.ref (b)), some (.int (sb_i jn)), some (.int (Int32.ofNat (96 + (rg_R S)))), none], [.int (Int32.ofNat (rd_sk cs n (sb_re 48 57 cs n (rd_sk cs n (rd_sk cs n (sb_re 97 122 cs n (rd_sk cs n p)) + 1))) + 1)), .ref (b)], A509)) rfl ?_
            refine rw_pf (v := .int (Int32.ofNat (rd_sk cs n (sb_re 48 57 cs n (rd_sk cs n (rd_sk cs n (sb_re 97 122 cs n (rd_sk cs n p)) + 1))) + 1))) h510 rfl rfl rfl rfl rfl rfl (fun A513 h514 f515 => ?_)
            have f516 := f512.trans f515
            rw [rf_c17] at h514
            refine wp_st 2 (f' := (227, [some (.ref (b)), some (.int (sb_i jn)), some (.int (Int32.ofNat (96 + (rg_R S)))), none], [.int (Int32.ofNat 61), .ref (b)], A513)) rfl ?_
            by_cases c517 : sb_lk cs n (rd_sk cs n (sb_re 48 57 cs n (rd_sk cs n (rd_sk cs n (sb_re 97 122 cs n (rd_sk cs n p)) + 1))) + 1) = 61
            · skip
              have c517p : rd_sk cs n (sb_re 48 57 cs n (rd_sk cs n (rd_sk cs n (sb_re 97 122 cs n (rd_sk cs n p)) + 1))) + 1 < n := sb_lk_pos (cs := cs) (by omega)
              obtain ⟨A518, g519, h520, f521⟩ := (show rf_go _ _ _ _ _ _ (rf_c (rf_u (rf_u (rf_u (rf_u (rf_u (rf_u s 40 0 (.int (Int32.ofNat (rg_R S + 1)))) 35 (96 + (rg_R S)) (.int (sb_i jn))) 32 (96 + (rg_R S)) (.int (Int32.ofNat o9))) 33 (96 + (rg_R S)) (.int (Int32.ofNat 0))) 33 (96 + (rg_R S)) (.int ((rf_nr cs (rd_sk cs n (rd_sk cs n (sb_re 97 122 cs n (rd_sk cs n p)) + 1)) (sb_re 48 57 cs n (rd_sk cs n (rd_sk cs n (sb_re 97 122 cs n (rd_sk cs n p)) + 1)) - (rd_sk cs n (rd_sk cs n (sb_re 97 122 cs n (rd_sk cs n p)) + 1)))).toInt32))) 34 (96 + (rg_R S)) (.int (sb_i true))) (rd_sk cs n (sb_re 48 57 cs n (rd_sk cs n (rd_sk cs n (sb_re 97 122 cs n (rd_sk cs n p)) + 1))) + 1 + 1) (Int32.ofNat e454) (rf_nr cs (rd_sk cs n (rd_sk cs n (sb_re 97 122 cs n (rd_sk cs n p)) + 1)) (sb_re 48 57 cs n (rd_sk cs n (rd_sk cs n (sb_re 97 122 cs n (rd_sk cs n p)) + 1)) - (rd_sk cs n (rd_sk cs n (sb_re 97 122 cs n (rd_sk cs n p)) + 1)))) (rd_sk cs n (rd_sk cs n (sb_re 97 122 cs n (rd_sk cs n p)) + 1))) from by have e := rr_need (d := d - 1) (c := 61) (by omega) (by omega) (by omega) (show rf_tx (rf_u (rf_u (rf_u (rf_u (rf_u (rf_u s 40 0 (.int (Int32.ofNat (rg_R S + 1)))) 35 (96 + (rg_R S)) (.int (sb_i jn))) 32 (96 + (rg_R S)) (.int (Int32.ofNat o9))) 33 (96 + (rg_R S)) (.int (Int32.ofNat 0))) 33 (96 + (rg_R S)) (.int ((rf_nr cs (rd_sk cs n (rd_sk cs n (sb_re 97 122 cs n (rd_sk cs n p)) + 1)) (sb_re 48 57 cs n (rd_sk cs n (rd_sk cs n (sb_re 97 122 cs n (rd_sk cs n p)) + 1)) - (rd_sk cs n (rd_sk cs n (sb_re 97 122 cs n (rd_sk cs n p)) + 1)))).toInt32))) 34 (96 + (rg_R S)) (.int (sb_i true))) cs n from hx) h514; rw [if_pos c517] at e; exact e)
              have f522 := f516.trans f521
              refine wp_cv (A' := A518) (v := none) rfl rfl rfl rfl rfl (show _ from h514.1) (by omega) (g519) rfl ?_
              show am_wp d 151 (230, [some (.ref (b)), some (.int (sb_i jn)), some (.int (Int32.ofNat (96 + (rg_R S)))), none], [], A518) _
              refine wp_st 1 (f' := (231, [some (.ref (b)), some (.int (sb_i jn)), some (.int (Int32.ofNat (96 + (rg_R S)))), none], [.ref (b)], A518)) rfl ?_
              refine rw_gr h520 rfl rfl rfl rfl rfl rfl ?_
              refine wp_st 3 (f' := (239, [some (.ref (b)), some (.int (sb_i jn)), some (.int (Int32.ofNat (96 + (rg_R S)))), none], [.ref (b), .int (Int32.ofNat 128), .int (Int32.ofNat (96 + (rg_R S))), .ref (b + 25)], A518)) rfl ?_
              refine rw_gf (v := .int (Int32.ofNat (rg_G S))) h520 rfl rfl rfl rfl (hs.2.1) rfl ?_
              refine wp_st 1 (f' := (243, [some (.ref (b)), some (.int (sb_i jn)), some (.int (Int32.ofNat (96 + (rg_R S)))), none], [.int ((Int32.ofNat 128) + (Int32.ofNat (rg_G S))), .int (Int32.ofNat (96 + (rg_R S))), .ref (b + 25)], A518)) rfl ?_
              rw [i32_add (128) (rg_G S)]
              refine rw_as (j := 36) (n := 96 + (rg_R S)) (v := .int (Int32.ofNat (128 + (rg_G S)))) h520 rfl rfl rfl (Or.inl ⟨rfl, rfl, rfl⟩) (show _ < 144 from by omega) rfl rfl (fun A523 h524 f525 => ?_)
              have f526 := f522.trans f525
              rw [rf_c_u (by decide)] at h524
              refine wp_st 1 (f' := (245, [some (.ref (b)), some (.int (sb_i jn)), some (.int (Int32.ofNat (96 + (rg_R S)))), none], [.ref (b)], A523)) rfl ?_
              refine rw_gr h524 rfl rfl rfl rfl rfl rfl ?_
              refine wp_st 2 (f' := (250, [some (.ref (b)), some (.int (sb_i jn)), some (.int (Int32.ofNat (96 + (rg_R S)))), none], [.int (Int32.ofNat 0), .int (Int32.ofNat (96 + (rg_R S))), .ref (b + 26)], A523)) rfl ?_
              refine rw_as (j := 37) (n := 96 + (rg_R S)) (v := .int (Int32.ofNat 0)) h524 rfl rfl rfl (Or.inl ⟨rfl, rfl, rfl⟩) (show _ < 144 from by omega) rfl rfl (fun A527 h528 f529 => ?_)
              have f530 := f526.trans f529
              rw [rf_c_u (by decide)] at h528
              refine wp_st 2 (f' := (253, [some (.ref (b)), some (.int (sb_i jn)), some (.int (Int32.ofNat (96 + (rg_R S)))), some (.int (Int32.ofNat 1))], [], A527)) rfl ?_
              refine wp_st 1 (f' := (254, [some (.ref (b)), some (.int (sb_i jn)), some (.int (Int32.ofNat (96 + (rg_R S)))), some (.int (Int32.ofNat 1))], [.int (Int32.ofNat 1)], A527)) rfl ?_
              refine wp_izF rfl rfl (show ¬ ((Int32.ofNat 1) = (Int32.ofNat 0)) from by decide) ?_
              refine wp_st 1 (f' := (258, [some (.ref (b)), some (.int (sb_i jn)), some (.int (Int32.ofNat (96 + (rg_R S)))), some (.int (Int32.ofNat 1))], [.ref (b)], A527)) rfl ?_
              refine rw_gf (v := .int (Int32.ofNat e454)) h528 rfl rfl rfl rfl (rfl) rfl ?_
              refine wp_izT rfl rfl (show Int32.ofNat 0 ≤ (Int32.ofNat e454) from Int32.not_lt.mp (Int32.ofNat_not_neg (by omega))) ?_
              refine wp_rt rfl rfl rfl ?_
              have hres : ru_rel cs n (!jn) p S = .error (e454) := by simp [ru_rel, ru_rel2, ru_mod, hop, h370, u453, h473, c517]
              rw [hres]
              exact rq_Q_er (k := rg_R S + 1) h528 (by simp only [rf_u_if]; simp) (by omega) (by omega) (((((((((rs_X.refl s).u (by unfold rs_sc; omega)).u (by unfold rs_sc; omega)).u (by unfold rs_sc; omega)).u (by unfold rs_sc; omega)).u (by unfold rs_sc; omega)).u (by unfold rs_sc; omega)).u (by unfold rs_sc; omega)).u (by unfold rs_sc; omega)) f530
            · skip
              obtain ⟨A531, g532, h533, f534⟩ := (show rf_go _ _ _ _ _ _ (rf_c (rf_u (rf_u (rf_u (rf_u (rf_u (rf_u s 40 0 (.int (Int32.ofNat (rg_R S + 1)))) 35 (96 + (rg_R S)) (.int (sb_i jn))) 32 (96 + (rg_R S)) (.int (Int32.ofNat o9))) 33 (96 + (rg_R S)) (.int (Int32.ofNat 0))) 33 (96 + (rg_R S)) (.int ((rf_nr cs (rd_sk cs n (rd_sk cs n (sb_re 97 122 cs n (rd_sk cs n p)) + 1)) (sb_re 48 57 cs n (rd_sk cs n (rd_sk cs n (sb_re 97 122 cs n (rd_sk cs n p)) + 1)) - (rd_sk cs n (rd_sk cs n (sb_re 97 122 cs n (rd_sk cs n p)) + 1)))).toInt32))) 34 (96 + (rg_R S)) (.int (sb_i true))) (rd_sk cs n (sb_re 48 57 cs n (rd_sk cs n (rd_sk cs n (sb_re 97 122 cs n (rd_sk cs n p)) + 1))) + 1 + 1) (Int32.ofNat e454) (rf_nr cs (rd_sk cs n (rd_sk cs n (sb_re 97 122 cs n (rd_sk cs n p)) + 1)) (sb_re 48 57 cs n (rd_sk cs n (rd_sk cs n (sb_re 97 122 cs n (rd_sk cs n p)) + 1)) - (rd_sk cs n (rd_sk cs n (sb_re 97 122 cs n (rd_sk cs n p)) + 1)))) (rd_sk cs n (rd_sk cs n (sb_re 97 122 cs n (rd_sk cs n p)) + 1))) from by have e := rr_need (d := d - 1) (c := 61) (by omega) (by omega) (by omega) (show rf_tx (rf_u (rf_u (rf_u (rf_u (rf_u (rf_u s 40 0 (.int (Int32.ofNat (rg_R S + 1)))) 35 (96 + (rg_R S)) (.int (sb_i jn))) 32 (96 + (rg_R S)) (.int (Int32.ofNat o9))) 33 (96 + (rg_R S)) (.int (Int32.ofNat 0))) 33 (96 + (rg_R S)) (.int ((rf_nr cs (rd_sk cs n (rd_sk cs n (sb_re 97 122 cs n (rd_sk cs n p)) + 1)) (sb_re 48 57 cs n (rd_sk cs n (rd_sk cs n (sb_re 97 122 cs n (rd_sk cs n p)) + 1)) - (rd_sk cs n (rd_sk cs n (sb_re 97 122 cs n (rd_sk cs n p)) + 1)))).toInt32))) 34 (96 + (rg_R S)) (.int (sb_i true))) cs n from hx) h514; rw [if_neg c517, rf_w_n (by omega)] at e; exact e)
              have f535 := f516.trans f534
              refine wp_cv (A' := A531) (v := none) rfl rfl rfl rfl rfl (show _ from h514.1) (by omega) (g532) rfl ?_
              show am_wp d 151 (230, [some (.ref (b)), some (.int (sb_i jn)), some (.int (Int32.ofNat (96 + (rg_R S)))), none], [], A531) _
              refine wp_st 1 (f' := (231, [some (.ref (b)), some (.int (sb_i jn)), some (.int (Int32.ofNat (96 + (rg_R S)))), none], [.ref (b)], A531)) rfl ?_
              refine rw_gr h533 rfl rfl rfl rfl rfl rfl ?_
              refine wp_st 3 (f' := (239, [some (.ref (b)), some (.int (sb_i jn)), some (.int (Int32.ofNat (96 + (rg_R S)))), none], [.ref (b), .int (Int32.ofNat 128), .int (Int32.ofNat (96 + (rg_R S))), .ref (b + 25)], A531)) rfl ?_
              refine rw_gf (v := .int (Int32.ofNat (rg_G S))) h533 rfl rfl rfl rfl (hs.2.1) rfl ?_
              refine wp_st 1 (f' := (243, [some (.ref (b)), some (.int (sb_i jn)), some (.int (Int32.ofNat (96 + (rg_R S)))), none], [.int ((Int32.ofNat 128) + (Int32.ofNat (rg_G S))), .int (Int32.ofNat (96 + (rg_R S))), .ref (b + 25)], A531)) rfl ?_
              rw [i32_add (128) (rg_G S)]
              refine rw_as (j := 36) (n := 96 + (rg_R S)) (v := .int (Int32.ofNat (128 + (rg_G S)))) h533 rfl rfl rfl (Or.inl ⟨rfl, rfl, rfl⟩) (show _ < 144 from by omega) rfl rfl (fun A536 h537 f538 => ?_)
              have f539 := f535.trans f538
              rw [rf_c_u (by decide)] at h537
              refine wp_st 1 (f' := (245, [some (.ref (b)), some (.int (sb_i jn)), some (.int (Int32.ofNat (96 + (rg_R S)))), none], [.ref (b)], A536)) rfl ?_
              refine rw_gr h537 rfl rfl rfl rfl rfl rfl ?_
              refine wp_st 2 (f' := (250, [some (.ref (b)), some (.int (sb_i jn)), some (.int (Int32.ofNat (96 + (rg_R S)))), none], [.int (Int32.ofNat 0), .int (Int32.ofNat (96 + (rg_R S))), .ref (b + 26)], A536)) rfl ?_
              refine rw_as (j := 37) (n := 96 + (rg_R S)) (v := .int (Int32.ofNat 0)) h537 rfl rfl rfl (Or.inl ⟨rfl, rfl, rfl⟩) (show _ < 144 from by omega) rfl rfl (fun A540 h541 f542 => ?_)
              have f543 := f539.trans f542
              rw [rf_c_u (by decide)] at h541
              refine wp_st 2 (f' := (253, [some (.ref (b)), some (.int (sb_i jn)), some (.int (Int32.ofNat (96 + (rg_R S)))), some (.int (Int32.ofNat 1))], [], A540)) rfl ?_
              refine wp_st 1 (f' := (254, [some (.ref (b)), some (.int (sb_i jn)), some (.int (Int32.ofNat (96 + (rg_R S)))), some (.int (Int32.ofNat 1))], [.int (Int32.ofNat 1)], A540)) rfl ?_
              refine wp_izF rfl rfl (show ¬ ((Int32.ofNat 1) = (Int32.ofNat 0)) from by decide) ?_
              refine wp_st 1 (f' := (258, [some (.ref (b)), some (.int (sb_i jn)), some (.int (Int32.ofNat (96 + (rg_R S)))), some (.int (Int32.ofNat 1))], [.ref (b)], A540)) rfl ?_
              refine rw_gf (v := .int (Int32.ofNat e454)) h541 rfl rfl rfl rfl (rfl) rfl ?_
              refine wp_izT rfl rfl (show Int32.ofNat 0 ≤ (Int32.ofNat e454) from Int32.not_lt.mp (Int32.ofNat_not_neg (by omega))) ?_
              refine wp_rt rfl rfl rfl ?_
              have hres : ru_rel cs n (!jn) p S = .error (e454) := by simp [ru_rel, ru_rel2, ru_mod, hop, h370, u453, h473, c517]
              rw [hres]
              exact rq_Q_er (k := rg_R S + 1) h541 (by simp only [rf_u_if]; simp) (by omega) (by omega) (((((((((rs_X.refl s).u (by unfold rs_sc; omega)).u (by unfold rs_sc; omega)).u (by unfold rs_sc; omega)).u (by unfold rs_sc; omega)).u (by unfold rs_sc; omega)).u (by unfold rs_sc; omega)).u (by unfold rs_sc; omega)).u (by unfold rs_sc; omega)) f543
        · skip
          have u453l := rd_num_le (by omega) u453
          have u453v := rd_num_v (by omega) (by omega) u453
          obtain ⟨u4531, u4532, u4533⟩ := rf_dig_ok (by omega) u453
          obtain ⟨A544, g545, h546, f547⟩ := (show rf_go _ _ _ _ _ _ (rf_c (rf_u (rf_u (rf_u (rf_u s 40 0 (.int (Int32.ofNat (rg_R S + 1)))) 35 (96 + (rg_R S)) (.int (sb_i jn))) 32 (96 + (rg_R S)) (.int (Int32.ofNat o9))) 33 (96 + (rg_R S)) (.int (Int32.ofNat 0))) x455 (-1) (Int64.ofNat v456) (rd_sk cs n (rd_sk cs n (sb_re 97 122 cs n (rd_sk cs n p)) + 1))) from by have q := rr_dig (d := d - 1) (by omega) (by omega) (show rf_tx (rf_u (rf_u (rf_u (rf_u s 40 0 (.int (Int32.ofNat (rg_R S + 1)))) 35 (96 + (rg_R S)) (.int (sb_i jn))) 32 (96 + (rg_R S)) (.int (Int32.ofNat o9))) 33 (96 + (rg_R S)) (.int (Int32.ofNat 0))) cs n from hx) h450; rw [u4532, u4533, u4531] at q; exact q)
          have f548 := f452.trans f547
          refine wp_cv (A' := A544) (v := none) rfl rfl rfl rfl rfl (show _ from h450.1) (by omega) (g545) rfl ?_
          show am_wp d 151 (135, [some (.ref (b)), some (.int (sb_i jn)), some (.int (Int32.ofNat (96 + (rg_R S)))), none], [], A544) _
          refine wp_st 1 (f' := (136, [some (.ref (b)), some (.int (sb_i jn)), some (.int (Int32.ofNat (96 + (rg_R S)))), none], [.ref (b)], A544)) rfl ?_
          refine rw_gr h546 rfl rfl rfl rfl rfl rfl ?_
          refine wp_st 2 (f' := (141, [some (.ref (b)), some (.int (sb_i jn)), some (.int (Int32.ofNat (96 + (rg_R S)))), none], [.ref (b), .int (Int32.ofNat (96 + (rg_R S))), .ref (b + 22)], A544)) rfl ?_
          refine rw_gf (v := .long (Int64.ofNat v456)) h546 rfl rfl rfl rfl (rfl) rfl ?_
          refine wp_st 1 (f' := (145, [some (.ref (b)), some (.int (sb_i jn)), some (.int (Int32.ofNat (96 + (rg_R S)))), none], [.int ((Int64.ofNat v456).toInt32), .int (Int32.ofNat (96 + (rg_R S))), .ref (b + 22)], A544)) rfl ?_
          rw [i64_i32 (a := v456)]
          refine rw_as (j := 33) (n := 96 + (rg_R S)) (v := .int (Int32.ofNat v456)) h546 rfl rfl rfl (Or.inl ⟨rfl, rfl, rfl⟩) (show _ < 144 from by omega) rfl rfl (fun A549 h550 f551 => ?_)
          have f552 := f548.trans f551
          rw [rf_c_u (by decide)] at h550
          refine wp_st 1 (f' := (147, [some (.ref (b)), some (.int (sb_i jn)), some (.int (Int32.ofNat (96 + (rg_R S)))), none], [.ref (b)], A549)) rfl ?_
          refine rw_gf (v := .int ((-1))) h550 rfl rfl rfl rfl (rfl) rfl ?_
          refine wp_izF rfl rfl (show ¬ ((Int32.ofNat 0) ≤ (-1 : Int32)) from by decide) ?_
          refine wp_st 1 (f' := (154, [some (.ref (b)), some (.int (sb_i jn)), some (.int (Int32.ofNat (96 + (rg_R S)))), none], [.ref (b)], A549)) rfl ?_
          refine rw_gf (v := .long (Int64.ofNat v456)) h550 rfl rfl rfl rfl (rfl) rfl ?_
          refine wp_st 2 (f' := (159, [some (.ref (b)), some (.int (sb_i jn)), some (.int (Int32.ofNat (96 + (rg_R S)))), none], [.int (lg_cmp (Int64.ofNat v456) (Int64.ofNat 0))], A549)) rfl ?_
          refine wp_iz rfl rfl rfl (fun (h553 : (lg_cmp (Int64.ofNat v456) (Int64.ofNat 0)) ≠ (Int32.ofNat 0)) => ?_) (fun (h553 : ¬ ((lg_cmp (Int64.ofNat v456) (Int64.ofNat 0)) ≠ (Int32.ofNat 0))) => ?_)
          · skip
            have h553z : ¬ v456 = 0 := fun e => h553 ((lg_cmp_eq _ _).mpr ((i64_eq (by omega) (by omega)).mpr e))
            refine wp_st 1 (f' := (171, [some (.ref (b)), some (.int (sb_i jn)), some (.int (Int32.ofNat (96 + (rg_R S)))), none], [.ref (b)], A549)) rfl ?_
            have k554 := rd_sk_gt (cs := cs) (n := n) (a := x455)
            obtain ⟨A555, g556, h557, f558⟩ := (show rf_go (d - 1) 129 [.ref b] A549 b none (rf_c (rf_u (rf_u (rf_u (rf_u (rf_u s 40 0 (.int (Int32.ofNat (rg_R S + 1)))) 35 (96 + (rg_R S)) (.int (sb_i jn))) 32 (96 + (rg_R S)) (.int (Int32.ofNat o9))) 33 (96 + (rg_R S)) (.int (Int32.ofNat 0))) 33 (96 + (rg_R S)) (.int (Int32.ofNat v456))) (rd_sk cs n x455) (-1) (Int64.ofNat v456) (rd_sk cs n (rd_sk cs n (sb_re 97 122 cs n (rd_sk cs n p)) + 1))) from rr_spaces (d := d - 1) (by omega) (by omega) (show rf_tx (rf_u (rf_u (rf_u (rf_u (rf_u s 40 0 (.int (Int32.ofNat (rg_R S + 1)))) 35 (96 + (rg_R S)) (.int (sb_i jn))) 32 (96 + (rg_R S)) (.int (Int32.ofNat o9))) 33 (96 + (rg_R S)) (.int (Int32.ofNat 0))) 33 (96 + (rg_R S)) (.int (Int32.ofNat v456))) cs n from hx) h550)
            have f559 := f552.trans f558
            refine wp_cv (A' := A555) (v := none) rfl rfl rfl rfl rfl (show _ from h550.1) (by omega) (g556) rfl ?_
            show am_wp d 151 (174, [some (.ref (b)), some (.int (sb_i jn)), some (.int (Int32.ofNat (96 + (rg_R S)))), none], [], A555) _
            refine wp_st 1 (f' := (175, [some (.ref (b)), some (.int (sb_i jn)), some (.int (Int32.ofNat (96 + (rg_R S)))), none], [.ref (b)], A555)) rfl ?_
            refine rw_gr h557 rfl rfl rfl rfl rfl rfl ?_
            refine wp_st 3 (f' := (181, [some (.ref (b)), some (.int (sb_i jn)), some (.int (Int32.ofNat (96 + (rg_R S)))), none], [.ref (b), .ref (b), .int (Int32.ofNat (96 + (rg_R S))), .ref (b + 23)], A555)) rfl ?_
            refine rw_gf (v := .int (Int32.ofNat (rd_sk cs n x455))) h557 rfl rfl rfl rfl (rfl) rfl ?_
            have l560 := hlk (rd_sk cs n x455)
            refine wp_cv (A' := A555) (v := some (.int (Int32.ofNat (sb_lk cs n (rd_sk cs n x455))))) rfl rfl rfl rfl rfl (show _ from h557.1) (by omega) (rr_look (by omega) (show rf_tx (rf_u (rf_u (rf_u (rf_u (rf_u s 40 0 (.int (Int32.ofNat (rg_R S + 1)))) 35 (96 + (rg_R S)) (.int (sb_i jn))) 32 (96 + (rg_R S)) (.int (Int32.ofNat o9))) 33 (96 + (rg_R S)) (.int (Int32.ofNat 0))) 33 (96 + (rg_R S)) (.int (Int32.ofNat v456))) cs n from hx) h557) rfl ?_
            show am_wp d 151 (187, [some (.ref (b)), some (.int (sb_i jn)), some (.int (Int32.ofNat (96 + (rg_R S)))), none], [.int (Int32.ofNat (sb_lk cs n (rd_sk cs n x455))), .int (Int32.ofNat (96 + (rg_R S))), .ref (b + 23)], A555) _
            refine wp_st 1 (f' := (189, [some (.ref (b)), some (.int (sb_i jn)), some (.int (Int32.ofNat (96 + (rg_R S)))), none], [.int (Int32.ofNat 33), .int (Int32.ofNat (sb_lk cs n (rd_sk cs n x455))), .int (Int32.ofNat (96 + (rg_R S))), .ref (b + 23)], A555)) rfl ?_
            refine wp_if rfl rfl rfl (fun (h561 : (Int32.ofNat (sb_lk cs n (rd_sk cs n x455))) ≠ (Int32.ofNat 33)) => ?_) (fun (h561 : ¬ ((Int32.ofNat (sb_lk cs n (rd_sk cs n x455))) ≠ (Int32.ofNat 33))) => ?_)
            · skip
              rw [ne_eq, i32_eq (by omega) (by omega)] at h561
              refine wp_st 1 (f' := (197, [some (.ref (b)), some (.int (sb_i jn)), some (.int (Int32.ofNat (96 + (rg_R S)))), none], [.int (Int32.ofNat 0), .int (Int32.ofNat (96 + (rg_R S))), .ref (b + 23)], A555)) rfl ?_
              refine rw_as (j := 34) (n := 96 + (rg_R S)) (v := .int (sb_i false)) h557 rfl rfl rfl (Or.inr (Or.inr ⟨rfl, rfl, rfl⟩)) (show _ < 144 from by omega) (sb_narrow_z false) rfl (fun A562 h563 f564 => ?_)
              have f565 := f559.trans f564
              rw [rf_c_u (by decide)] at h563
              refine wp_st 2 (f' := (200, [some (.ref (b)), some (.int (sb_i jn)), some (.int (Int32.ofNat (96 + (rg_R S)))), none], [.ref (b), .ref (b)], A562)) rfl ?_
              refine rw_gr h563 rfl rfl rfl rfl rfl rfl ?_
              refine wp_st 1 (f' := (204, [some (.ref (b)), some (.int (sb_i jn)), some (.int (Int32.ofNat (96 + (rg_R S)))), none], [.int (Int32.ofNat (96 + (rg_R S))), .ref (b + 23), .ref (b)], A562)) rfl ?_
              refine rw_al (j := 34) (n := 96 + (rg_R S)) (v := .int (Int32.ofNat 0)) h563 rfl rfl rfl (Or.inr (Or.inr (Or.inr (Or.inl ⟨rfl, rfl⟩)))) rfl (show _ < 144 from by omega) (by rw [rf_c_ne (show 34 ≠ 17 ∧ 34 ≠ 18 ∧ 34 ≠ 28 ∧ 34 ≠ 29 by decide), rf_u_eq]; rfl) rfl ?_
              refine wp_izT rfl rfl (show (Int32.ofNat 0) = (Int32.ofNat 0) from by decide) ?_
              refine wp_st 1 (f' := (218, [some (.ref (b)), some (.int (sb_i jn)), some (.int (Int32.ofNat (96 + (rg_R S)))), none], [.ref (b), .ref (b)], A562)) rfl ?_
              refine rw_gf (v := .int (Int32.ofNat (rd_sk cs n x455))) h563 rfl rfl rfl rfl (rfl) rfl ?_
              refine rw_pf (v := .int (Int32.ofNat (rd_sk cs n x455))) h563 rfl rfl rfl rfl rfl rfl (fun A566 h567 f568 => ?_)
              have f569 := f565.trans f568
              rw [rf_c17] at h567
              refine wp_st 2 (f' := (227, [some (.ref (b)), some (.int (sb_i jn)), some (.int (Int32.ofNat (96 + (rg_R S)))), none], [.int (Int32.ofNat 61), .ref (b)], A566)) rfl ?_
              by_cases c570 : sb_lk cs n (rd_sk cs n x455) = 61
              · skip
                have c570p : rd_sk cs n x455 < n := sb_lk_pos (cs := cs) (by omega)
                obtain ⟨A571, g572, h573, f574⟩ := (show rf_go _ _ _ _ _ _ (rf_c (rf_u (rf_u (rf_u (rf_u (rf_u (rf_u s 40 0 (.int (Int32.ofNat (rg_R S + 1)))) 35 (96 + (rg_R S)) (.int (sb_i jn))) 32 (96 + (rg_R S)) (.int (Int32.ofNat o9))) 33 (96 + (rg_R S)) (.int (Int32.ofNat 0))) 33 (96 + (rg_R S)) (.int (Int32.ofNat v456))) 34 (96 + (rg_R S)) (.int (sb_i false))) (rd_sk cs n x455 + 1) (-1) (Int64.ofNat v456) (rd_sk cs n (rd_sk cs n (sb_re 97 122 cs n (rd_sk cs n p)) + 1))) from by have e := rr_need (d := d - 1) (c := 61) (by omega) (by omega) (by omega) (show rf_tx (rf_u (rf_u (rf_u (rf_u (rf_u (rf_u s 40 0 (.int (Int32.ofNat (rg_R S + 1)))) 35 (96 + (rg_R S)) (.int (sb_i jn))) 32 (96 + (rg_R S)) (.int (Int32.ofNat o9))) 33 (96 + (rg_R S)) (.int (Int32.ofNat 0))) 33 (96 + (rg_R S)) (.int (Int32.ofNat v456))) 34 (96 + (rg_R S)) (.int (sb_i false))) cs n from hx) h567; rw [if_pos c570] at e; exact e)
                have f575 := f569.trans f574
                refine wp_cv (A' := A571) (v := none) rfl rfl rfl rfl rfl (show _ from h567.1) (by omega) (g572) rfl ?_
                show am_wp d 151 (230, [some (.ref (b)), some (.int (sb_i jn)), some (.int (Int32.ofNat (96 + (rg_R S)))), none], [], A571) _
                refine wp_st 1 (f' := (231, [some (.ref (b)), some (.int (sb_i jn)), some (.int (Int32.ofNat (96 + (rg_R S)))), none], [.ref (b)], A571)) rfl ?_
                refine rw_gr h573 rfl rfl rfl rfl rfl rfl ?_
                refine wp_st 3 (f' := (239, [some (.ref (b)), some (.int (sb_i jn)), some (.int (Int32.ofNat (96 + (rg_R S)))), none], [.ref (b), .int (Int32.ofNat 128), .int (Int32.ofNat (96 + (rg_R S))), .ref (b + 25)], A571)) rfl ?_
                refine rw_gf (v := .int (Int32.ofNat (rg_G S))) h573 rfl rfl rfl rfl (hs.2.1) rfl ?_
                refine wp_st 1 (f' := (243, [some (.ref (b)), some (.int (sb_i jn)), some (.int (Int32.ofNat (96 + (rg_R S)))), none], [.int ((Int32.ofNat 128) + (Int32.ofNat (rg_G S))), .int (Int32.ofNat (96 + (rg_R S))), .ref (b + 25)], A571)) rfl ?_
                rw [i32_add (128) (rg_G S)]
                refine rw_as (j := 36) (n := 96 + (rg_R S)) (v := .int (Int32.ofNat (128 + (rg_G S)))) h573 rfl rfl rfl (Or.inl ⟨rfl, rfl, rfl⟩) (show _ < 144 from by omega) rfl rfl (fun A576 h577 f578 => ?_)
                have f579 := f575.trans f578
                rw [rf_c_u (by decide)] at h577
                refine wp_st 1 (f' := (245, [some (.ref (b)), some (.int (sb_i jn)), some (.int (Int32.ofNat (96 + (rg_R S)))), none], [.ref (b)], A576)) rfl ?_
                refine rw_gr h577 rfl rfl rfl rfl rfl rfl ?_
                refine wp_st 2 (f' := (250, [some (.ref (b)), some (.int (sb_i jn)), some (.int (Int32.ofNat (96 + (rg_R S)))), none], [.int (Int32.ofNat 0), .int (Int32.ofNat (96 + (rg_R S))), .ref (b + 26)], A576)) rfl ?_
                refine rw_as (j := 37) (n := 96 + (rg_R S)) (v := .int (Int32.ofNat 0)) h577 rfl rfl rfl (Or.inl ⟨rfl, rfl, rfl⟩) (show _ < 144 from by omega) rfl rfl (fun A580 h581 f582 => ?_)
                have f583 := f579.trans f582
                rw [rf_c_u (by decide)] at h581
                refine wp_st 2 (f' := (253, [some (.ref (b)), some (.int (sb_i jn)), some (.int (Int32.ofNat (96 + (rg_R S)))), some (.int (Int32.ofNat 1))], [], A580)) rfl ?_
                have hres : ru_rel cs n (!jn) p S = ru_rngs cs n 60 (rd_sk cs n x455 + 1) (rg_addr S o9 v456 false (!jn)) := by simp [ru_rel, ru_rel2, ru_mod, hop, h370, u453, h553z, h561, c570]
                rw [hres]
                have hX : rs_X s (rf_u (rf_u (rf_u (rf_u (rf_u (rf_u (rf_u (rf_u s 40 0 (.int (Int32.ofNat (rg_R S + 1)))) 35 (96 + (rg_R S)) (.int (sb_i jn))) 32 (96 + (rg_R S)) (.int (Int32.ofNat o9))) 33 (96 + (rg_R S)) (.int (Int32.ofNat 0))) 33 (96 + (rg_R S)) (.int (Int32.ofNat v456))) 34 (96 + (rg_R S)) (.int (sb_i false))) 36 (96 + (rg_R S)) (.int (Int32.ofNat (128 + (rg_G S))))) 37 (96 + (rg_R S)) (.int (Int32.ofNat 0))) := (((((((((rs_X.refl s).u (by unfold rs_sc; omega)).u (by unfold rs_sc; omega)).u (by unfold rs_sc; omega)).u (by unfold rs_sc; omega)).u (by unfold rs_sc; omega)).u (by unfold rs_sc; omega)).u (by unfold rs_sc; omega)).u (by unfold rs_sc; omega))
                have hs9 : rs_S (rf_u (rf_u (rf_u (rf_u (rf_u (rf_u (rf_u (rf_u s 40 0 (.int (Int32.ofNat (rg_R S + 1)))) 35 (96 + (rg_R S)) (.int (sb_i jn))) 32 (96 + (rg_R S)) (.int (Int32.ofNat o9))) 33 (96 + (rg_R S)) (.int (Int32.ofNat 0))) 33 (96 + (rg_R S)) (.int (Int32.ofNat v456))) 34 (96 + (rg_R S)) (.int (sb_i false))) 36 (96 + (rg_R S)) (.int (Int32.ofNat (128 + (rg_G S))))) 37 (96 + (rg_R S)) (.int (Int32.ofNat 0))) (rg_addr S o9 v456 false (!jn)) := hs.addr (by simp only [rf_u_if]; simp) (by simp only [rf_u_if]; simp) (by simp only [rf_u_if]; simp) (by simp only [rf_u_if]; simp) (by simp only [rf_u_if]; simp) (by simp only [rf_u_if]; simp) (by simp only [rf_u_if]; simp) (fun j i q1 q2 => by simp only [rf_u_if]; repeat (rw [if_neg (by omega)]))
                obtain ⟨z, z1, z2⟩ := rq_rl (z1 := sb_i jn) (by omega) 60 (rd_sk cs n x455 + 1) _ _ (rg_addr S o9 v456 false (!jn)) _ _ (by omega) (by omega) (by rw [rg_addr_R]; omega) (by rw [rg_addr_R]; omega) (by rw [rg_addr_G]; omega) (hX.tx hx) hs9 h581
                exact ⟨z, z1, z2.tr hX f583⟩
              · skip
                obtain ⟨A584, g585, h586, f587⟩ := (show rf_go _ _ _ _ _ _ (rf_c (rf_u (rf_u (rf_u (rf_u (rf_u (rf_u s 40 0 (.int (Int32.ofNat (rg_R S + 1)))) 35 (96 + (rg_R S)) (.int (sb_i jn))) 32 (96 + (rg_R S)) (.int (Int32.ofNat o9))) 33 (96 + (rg_R S)) (.int (Int32.ofNat 0))) 33 (96 + (rg_R S)) (.int (Int32.ofNat v456))) 34 (96 + (rg_R S)) (.int (sb_i false))) (rd_sk cs n x455 + 1) (Int32.ofNat (rd_sk cs n x455)) (Int64.ofNat v456) (rd_sk cs n (rd_sk cs n (sb_re 97 122 cs n (rd_sk cs n p)) + 1))) from by have e := rr_need (d := d - 1) (c := 61) (by omega) (by omega) (by omega) (show rf_tx (rf_u (rf_u (rf_u (rf_u (rf_u (rf_u s 40 0 (.int (Int32.ofNat (rg_R S + 1)))) 35 (96 + (rg_R S)) (.int (sb_i jn))) 32 (96 + (rg_R S)) (.int (Int32.ofNat o9))) 33 (96 + (rg_R S)) (.int (Int32.ofNat 0))) 33 (96 + (rg_R S)) (.int (Int32.ofNat v456))) 34 (96 + (rg_R S)) (.int (sb_i false))) cs n from hx) h567; rw [if_neg c570, rf_w_m] at e; exact e)
                have f588 := f569.trans f587
                refine wp_cv (A' := A584) (v := none) rfl rfl rfl rfl rfl (show _ from h567.1) (by omega) (g585) rfl ?_
                show am_wp d 151 (230, [some (.ref (b)), some (.int (sb_i jn)), some (.int (Int32.ofNat (96 + (rg_R S)))), none], [], A584) _
                refine wp_st 1 (f' := (231, [some (.ref (b)), some (.int (sb_i jn)), some (.int (Int32.ofNat (96 + (rg_R S)))), none], [.ref (b)], A584)) rfl ?_
                refine rw_gr h586 rfl rfl rfl rfl rfl rfl ?_
                refine wp_st 3 (f' := (239, [some (.ref (b)), some (.int (sb_i jn)), some (.int (Int32.ofNat (96 + (rg_R S)))), none], [.ref (b), .int (Int32.ofNat 128), .int (Int32.ofNat (96 + (rg_R S))), .ref (b + 25)], A584)) rfl ?_
                refine rw_gf (v := .int (Int32.ofNat (rg_G S))) h586 rfl rfl rfl rfl (hs.2.1) rfl ?_
                refine wp_st 1 (f' := (243, [some (.ref (b)), some (.int (sb_i jn)), some (.int (Int32.ofNat (96 + (rg_R S)))), none], [.int ((Int32.ofNat 128) + (Int32.ofNat (rg_G S))), .int (Int32.ofNat (96 + (rg_R S))), .ref (b + 25)], A584)) rfl ?_
                rw [i32_add (128) (rg_G S)]
                refine rw_as (j := 36) (n := 96 + (rg_R S)) (v := .int (Int32.ofNat (128 + (rg_G S)))) h586 rfl rfl rfl (Or.inl ⟨rfl, rfl, rfl⟩) (show _ < 144 from by omega) rfl rfl (fun A589 h590 f591 => ?_)
                have f592 := f588.trans f591
                rw [rf_c_u (by decide)] at h590
                refine wp_st 1 (f' := (245, [some (.ref (b)), some (.int (sb_i jn)), some (.int (Int32.ofNat (96 + (rg_R S)))), none], [.ref (b)], A589)) rfl ?_
                refine rw_gr h590 rfl rfl rfl rfl rfl rfl ?_
                refine wp_st 2 (f' := (250, [some (.ref (b)), some (.int (sb_i jn)), some (.int (Int32.ofNat (96 + (rg_R S)))), none], [.int (Int32.ofNat 0), .int (Int32.ofNat (96 + (rg_R S))), .ref (b + 26)], A589)) rfl ?_
                refine rw_as (j := 37) (n := 96 + (rg_R S)) (v := .int (Int32.ofNat 0)) h590 rfl rfl rfl (Or.inl ⟨rfl, rfl, rfl⟩) (show _ < 144 from by omega) rfl rfl (fun A593 h594 f595 => ?_)
                have f596 := f592.trans f595
                rw [rf_c_u (by decide)] at h594
                refine wp_st 2 (f' := (253, [some (.ref (b)), some (.int (sb_i jn)), some (.int (Int32.ofNat (96 + (rg_R S)))), some (.int (Int32.ofNat 1))], [], A593)) rfl ?_
                refine wp_st 1 (f' := (254, [some (.ref (b)), some (.int (sb_i jn)), some (.int (Int32.ofNat (96 + (rg_R S)))), some (.int (Int32.ofNat 1))], [.int (Int32.ofNat 1)], A593)) rfl ?_
                refine wp_izF rfl rfl (show ¬ ((Int32.ofNat 1) = (Int32.ofNat 0)) from by decide) ?_
                refine wp_st 1 (f' := (258, [some (.ref (b)), some (.int (sb_i jn)), some (.int (Int32.ofNat (96 + (rg_R S)))), some (.int (Int32.ofNat 1))], [.ref (b)], A593)) rfl ?_
                refine rw_gf (v := .int (Int32.ofNat (rd_sk cs n x455))) h594 rfl rfl rfl rfl (rfl) rfl ?_
                refine wp_izT rfl rfl (show Int32.ofNat 0 ≤ (Int32.ofNat (rd_sk cs n x455)) from Int32.not_lt.mp (Int32.ofNat_not_neg (by omega))) ?_
                refine wp_rt rfl rfl rfl ?_
                have hres : ru_rel cs n (!jn) p S = .error (rd_sk cs n x455) := by simp [ru_rel, ru_rel2, ru_mod, hop, h370, u453, h553z, h561, c570]
                rw [hres]
                exact rq_Q_er (k := rg_R S + 1) h594 (by simp only [rf_u_if]; simp) (by omega) (by omega) (((((((((rs_X.refl s).u (by unfold rs_sc; omega)).u (by unfold rs_sc; omega)).u (by unfold rs_sc; omega)).u (by unfold rs_sc; omega)).u (by unfold rs_sc; omega)).u (by unfold rs_sc; omega)).u (by unfold rs_sc; omega)).u (by unfold rs_sc; omega)) f596
            · skip
              rw [ne_eq, i32_eq (by omega) (by omega)] at h561
              replace h561 := Decidable.not_not.mp h561
              have h561p : rd_sk cs n x455 < n := sb_lk_pos (cs := cs) (by omega)
              refine wp_st 2 (f' := (197, [some (.ref (b)), some (.int (sb_i jn)), some (.int (Int32.ofNat (96 + (rg_R S)))), none], [.int (Int32.ofNat 1), .int (Int32.ofNat (96 + (rg_R S))), .ref (b + 23)], A555)) rfl ?_
              refine rw_as (j := 34) (n := 96 + (rg_R S)) (v := .int (sb_i true)) h557 rfl rfl rfl (Or.inr (Or.inr ⟨rfl, rfl, rfl⟩)) (show _ < 144 from by omega) (sb_narrow_z true) rfl (fun A597 h598 f599 => ?_)
              have f600 := f559.trans f599
              rw [rf_c_u (by decide)] at h598
              refine wp_st 2 (f' := (200, [some (.ref (b)), some (.int (sb_i jn)), some (.int (Int32.ofNat (96 + (rg_R S)))), none], [.ref (b), .ref (b)], A597)) rfl ?_
              refine rw_gr h598 rfl rfl rfl rfl rfl rfl ?_
              refine wp_st 1 (f' := (204, [some (.ref (b)), some (.int (sb_i jn)), some (.int (Int32.ofNat (96 + (rg_R S)))), none], [.int (Int32.ofNat (96 + (rg_R S))), .ref (b + 23), .ref (b)], A597)) rfl ?_
              refine rw_al (j := 34) (n := 96 + (rg_R S)) (v := .int (Int32.ofNat 1)) h598 rfl rfl rfl (Or.inr (Or.inr (Or.inr (Or.inl ⟨rfl, rfl⟩)))) rfl (show _ < 144 from by omega) (by rw [rf_c_ne (show 34 ≠ 17 ∧ 34 ≠ 18 ∧ 34 ≠ 28 ∧ 34 ≠ 29 by decide), rf_u_eq]; rfl) rfl ?_
              refine wp_izF rfl rfl (show ¬ ((Int32.ofNat 1) = (Int32.ofNat 0)) from by decide) ?_
              refine wp_st 1 (f' := (209, [some (.ref (b)), some (.int (sb_i jn)), some (.int (Int32.ofNat (96 + (rg_R S)))), none], [.ref (b), .ref (b)], A597)) rfl ?_
              refine rw_gf (v := .int (Int32.ofNat (rd_sk cs n x455))) h598 rfl rfl rfl rfl (rfl) rfl ?_
              refine wp_st 2 (f' := (214, [some (.ref (b)), some (.int (sb_i jn)), some (.int (Int32.ofNat (96 + (rg_R S)))), none], [.int ((Int32.ofNat (rd_sk cs n x455)) + (Int32.ofNat 1)), .ref (b)], A597)) rfl ?_
              rw [i32_add (rd_sk cs n x455) (1)]
              refine wp_st 1 (f' := (221, [some (.ref (b)), some (.int (sb_i jn)), some (.int (Int32.ofNat (96 + (rg_R S)))), none], [.int (Int32.ofNat (rd_sk cs n x455 + 1)), .ref (b)], A597)) rfl ?_
              refine rw_pf (v := .int (Int32.ofNat (rd_sk cs n x455 + 1))) h598 rfl rfl rfl rfl rfl rfl (fun A601 h602 f603 => ?_)
              have f604 := f600.trans f603
              rw [rf_c17] at h602
              refine wp_st 2 (f' := (227, [some (.ref (b)), some (.int (sb_i jn)), some (.int (Int32.ofNat (96 + (rg_R S)))), none], [.int (Int32.ofNat 61), .ref (b)], A601)) rfl ?_
              by_cases c605 : sb_lk cs n (rd_sk cs n x455 + 1) = 61
              · skip
                have c605p : rd_sk cs n x455 + 1 < n := sb_lk_pos (cs := cs) (by omega)
                obtain ⟨A606, g607, h608, f609⟩ := (show rf_go _ _ _ _ _ _ (rf_c (rf_u (rf_u (rf_u (rf_u (rf_u (rf_u s 40 0 (.int (Int32.ofNat (rg_R S + 1)))) 35 (96 + (rg_R S)) (.int (sb_i jn))) 32 (96 + (rg_R S)) (.int (Int32.ofNat o9))) 33 (96 + (rg_R S)) (.int (Int32.ofNat 0))) 33 (96 + (rg_R S)) (.int (Int32.ofNat v456))) 34 (96 + (rg_R S)) (.int (sb_i true))) (rd_sk cs n x455 + 1 + 1) (-1) (Int64.ofNat v456) (rd_sk cs n (rd_sk cs n (sb_re 97 122 cs n (rd_sk cs n p)) + 1))) from by have e := rr_need (d := d - 1) (c := 61) (by omega) (by omega) (by omega) (show rf_tx (rf_u (rf_u (rf_u (rf_u (rf_u (rf_u s 40 0 (.int (Int32.ofNat (rg_R S + 1)))) 35 (96 + (rg_R S)) (.int (sb_i jn))) 32 (96 + (rg_R S)) (.int (Int32.ofNat o9))) 33 (96 + (rg_R S)) (.int (Int32.ofNat 0))) 33 (96 + (rg_R S)) (.int (Int32.ofNat v456))) 34 (96 + (rg_R S)) (.int (sb_i true))) cs n from hx) h602; rw [if_pos c605] at e; exact e)
                have f610 := f604.trans f609
                refine wp_cv (A' := A606) (v := none) rfl rfl rfl rfl rfl (show _ from h602.1) (by omega) (g607) rfl ?_
                show am_wp d 151 (230, [some (.ref (b)), some (.int (sb_i jn)), some (.int (Int32.ofNat (96 + (rg_R S)))), none], [], A606) _
                refine wp_st 1 (f' := (231, [some (.ref (b)), some (.int (sb_i jn)), some (.int (Int32.ofNat (96 + (rg_R S)))), none], [.ref (b)], A606)) rfl ?_
                refine rw_gr h608 rfl rfl rfl rfl rfl rfl ?_
                refine wp_st 3 (f' := (239, [some (.ref (b)), some (.int (sb_i jn)), some (.int (Int32.ofNat (96 + (rg_R S)))), none], [.ref (b), .int (Int32.ofNat 128), .int (Int32.ofNat (96 + (rg_R S))), .ref (b + 25)], A606)) rfl ?_
                refine rw_gf (v := .int (Int32.ofNat (rg_G S))) h608 rfl rfl rfl rfl (hs.2.1) rfl ?_
                refine wp_st 1 (f' := (243, [some (.ref (b)), some (.int (sb_i jn)), some (.int (Int32.ofNat (96 + (rg_R S)))), none], [.int ((Int32.ofNat 128) + (Int32.ofNat (rg_G S))), .int (Int32.ofNat (96 + (rg_R S))), .ref (b + 25)], A606)) rfl ?_
                rw [i32_add (128) (rg_G S)]
                refine rw_as (j := 36) (n := 96 + (rg_R S)) (v := .int (Int32.ofNat (128 + (rg_G S)))) h608 rfl rfl rfl (Or.inl ⟨rfl, rfl, rfl⟩) (show _ < 144 from by omega) rfl rfl (fun A611 h612 f613 => ?_)
                have f614 := f610.trans f613
                rw [rf_c_u (by decide)] at h612
                refine wp_st 1 (f' := (245, [some (.ref (b)), some (.int (sb_i jn)), some (.int (Int32.ofNat (96 + (rg_R S)))), none], [.ref (b)], A611)) rfl ?_
                refine rw_gr h612 rfl rfl rfl rfl rfl rfl ?_
                refine wp_st 2 (f' := (250, [some (.ref (b)), some (.int (sb_i jn)), some (.int (Int32.ofNat (96 + (rg_R S)))), none], [.int (Int32.ofNat 0), .int (Int32.ofNat (96 + (rg_R S))), .ref (b + 26)], A611)) rfl ?_
                refine rw_as (j := 37) (n := 96 + (rg_R S)) (v := .int (Int32.ofNat 0)) h612 rfl rfl rfl (Or.inl ⟨rfl, rfl, rfl⟩) (show _ < 144 from by omega) rfl rfl (fun A615 h616 f617 => ?_)
                have f618 := f614.trans f617
                rw [rf_c_u (by decide)] at h616
                refine wp_st 2 (f' := (253, [some (.ref (b)), some (.int (sb_i jn)), some (.int (Int32.ofNat (96 + (rg_R S)))), some (.int (Int32.ofNat 1))], [], A615)) rfl ?_
                have hres : ru_rel cs n (!jn) p S = ru_rngs cs n 60 (rd_sk cs n x455 + 1 + 1) (rg_addr S o9 v456 true (!jn)) := by simp [ru_rel, ru_rel2, ru_mod, hop, h370, u453, h553z, h561, c605]
                rw [hres]
                have hX : rs_X s (rf_u (rf_u (rf_u (rf_u (rf_u (rf_u (rf_u (rf_u s 40 0 (.int (Int32.ofNat (rg_R S + 1)))) 35 (96 + (rg_R S)) (.int (sb_i jn))) 32 (96 + (rg_R S)) (.int (Int32.ofNat o9))) 33 (96 + (rg_R S)) (.int (Int32.ofNat 0))) 33 (96 + (rg_R S)) (.int (Int32.ofNat v456))) 34 (96 + (rg_R S)) (.int (sb_i true))) 36 (96 + (rg_R S)) (.int (Int32.ofNat (128 + (rg_G S))))) 37 (96 + (rg_R S)) (.int (Int32.ofNat 0))) := (((((((((rs_X.refl s).u (by unfold rs_sc; omega)).u (by unfold rs_sc; omega)).u (by unfold rs_sc; omega)).u (by unfold rs_sc; omega)).u (by unfold rs_sc; omega)).u (by unfold rs_sc; omega)).u (by unfold rs_sc; omega)).u (by unfold rs_sc; omega))
                have hs9 : rs_S (rf_u (rf_u (rf_u (rf_u (rf_u (rf_u (rf_u (rf_u s 40 0 (.int (Int32.ofNat (rg_R S + 1)))) 35 (96 + (rg_R S)) (.int (sb_i jn))) 32 (96 + (rg_R S)) (.int (Int32.ofNat o9))) 33 (96 + (rg_R S)) (.int (Int32.ofNat 0))) 33 (96 + (rg_R S)) (.int (Int32.ofNat v456))) 34 (96 + (rg_R S)) (.int (sb_i true))) 36 (96 + (rg_R S)) (.int (Int32.ofNat (128 + (rg_G S))))) 37 (96 + (rg_R S)) (.int (Int32.ofNat 0))) (rg_addr S o9 v456 true (!jn)) := hs.addr (by simp only [rf_u_if]; simp) (by simp only [rf_u_if]; simp) (by simp only [rf_u_if]; simp) (by simp only [rf_u_if]; simp) (by simp only [rf_u_if]; simp) (by simp only [rf_u_if]; simp) (by simp only [rf_u_if]; simp) (fun j i q1 q2 => by simp only [rf_u_if]; repeat (rw [if_neg (by omega)]))
                obtain ⟨z, z1, z2⟩ := rq_rl (z1 := sb_i jn) (by omega) 60 (rd_sk cs n x455 + 1 + 1) _ _ (rg_addr S o9 v456 true (!jn)) _ _ (by omega) (by omega) (by rw [rg_addr_R]; omega) (by rw [rg_addr_R]; omega) (by rw [rg_addr_G]; omega) (hX.tx hx) hs9 h616
                exact ⟨z, z1, z2.tr hX f618⟩
              · skip
                obtain ⟨A619, g620, h621, f622⟩ := (show rf_go _ _ _ _ _ _ (rf_c (rf_u (rf_u (rf_u (rf_u (rf_u (rf_u s 40 0 (.int (Int32.ofNat (rg_R S + 1)))) 35 (96 + (rg_R S)) (.int (sb_i jn))) 32 (96 + (rg_R S)) (.int (Int32.ofNat o9))) 33 (96 + (rg_R S)) (.int (Int32.ofNat 0))) 33 (96 + (rg_R S)) (.int (Int32.ofNat v456))) 34 (96 + (rg_R S)) (.int (sb_i true))) (rd_sk cs n x455 + 1 + 1) (Int32.ofNat (rd_sk cs n x455 + 1)) (Int64.ofNat v456) (rd_sk cs n (rd_sk cs n (sb_re 97 122 cs n (rd_sk cs n p)) + 1))) from by have e := rr_need (d := d - 1) (c := 61) (by omega) (by omega) (by omega) (show rf_tx (rf_u (rf_u (rf_u (rf_u (rf_u (rf_u s 40 0 (.int (Int32.ofNat (rg_R S + 1)))) 35 (96 + (rg_R S)) (.int (sb_i jn))) 32 (96 + (rg_R S)) (.int (Int32.ofNat o9))) 33 (96 + (rg_R S)) (.int (Int32.ofNat 0))) 33 (96 + (rg_R S)) (.int (Int32.ofNat v456))) 34 (96 + (rg_R S)) (.int (sb_i true))) cs n from hx) h602; rw [if_neg c605, rf_w_m] at e; exact e)
                have f623 := f604.trans f622
                refine wp_cv (A' := A619) (v := none) rfl rfl rfl rfl rfl (show _ from h602.1) (by omega) (g620) rfl ?_
                show am_wp d 151 (230, [some (.ref (b)), some (.int (sb_i jn)), some (.int (Int32.ofNat (96 + (rg_R S)))), none], [], A619) _
                refine wp_st 1 (f' := (231, [some (.ref (b)), some (.int (sb_i jn)), some (.int (Int32.ofNat (96 + (rg_R S)))), none], [.ref (b)], A619)) rfl ?_
                refine rw_gr h621 rfl rfl rfl rfl rfl rfl ?_
                refine wp_st 3 (f' := (239, [some (.ref (b)), some (.int (sb_i jn)), some (.int (Int32.ofNat (96 + (rg_R S)))), none], [.ref (b), .int (Int32.ofNat 128), .int (Int32.ofNat (96 + (rg_R S))), .ref (b + 25)], A619)) rfl ?_
                refine rw_gf (v := .int (Int32.ofNat (rg_G S))) h621 rfl rfl rfl rfl (hs.2.1) rfl ?_
                refine wp_st 1 (f' := (243, [some (.ref (b)), some (.int (sb_i jn)), some (.int (Int32.ofNat (96 + (rg_R S)))), none], [.int ((Int32.ofNat 128) + (Int32.ofNat (rg_G S))), .int (Int32.ofNat (96 + (rg_R S))), .ref (b + 25)], A619)) rfl ?_
                rw [i32_add (128) (rg_G S)]
                refine rw_as (j := 36) (n := 96 + (rg_R S)) (v := .int (Int32.ofNat (128 + (rg_G S)))) h621 rfl rfl rfl (Or.inl ⟨rfl, rfl, rfl⟩) (show _ < 144 from by omega) rfl rfl (fun A624 h625 f626 => ?_)
                have f627 := f623.trans f626
                rw [rf_c_u (by decide)] at h625
                refine wp_st 1 (f' := (245, [some (.ref (b)), some (.int (sb_i jn)), some (.int (Int32.ofNat (96 + (rg_R S)))), none], [.ref (b)], A624)) rfl ?_
                refine rw_gr h625 rfl rfl rfl rfl rfl rfl ?_
                refine wp_st 2 (f' := (250, [some (.ref (b)), some (.int (sb_i jn)), some (.int (Int32.ofNat (96 + (rg_R S)))), none], [.int (Int32.ofNat 0), .int (Int32.ofNat (96 + (rg_R S))), .ref (b + 26)], A624)) rfl ?_
                refine rw_as (j := 37) (n := 96 + (rg_R S)) (v := .int (Int32.ofNat 0)) h625 rfl rfl rfl (Or.inl ⟨rfl, rfl, rfl⟩) (show _ < 144 from by omega) rfl rfl (fun A628 h629 f630 => ?_)
                have f631 := f627.trans f630
                rw [rf_c_u (by decide)] at h629
                refine wp_st 2 (f' := (253, [some (.ref (b)), some (.int (sb_i jn)), some (.int (Int32.ofNat (96 + (rg_R S)))), some (.int (Int32.ofNat 1))], [], A628)) rfl ?_
                refine wp_st 1 (f' := (254, [some (.ref (b)), some (.int (sb_i jn)), some (.int (Int32.ofNat (96 + (rg_R S)))), some (.int (Int32.ofNat 1))], [.int (Int32.ofNat 1)], A628)) rfl ?_
                refine wp_izF rfl rfl (show ¬ ((Int32.ofNat 1) = (Int32.ofNat 0)) from by decide) ?_
                refine wp_st 1 (f' := (258, [some (.ref (b)), some (.int (sb_i jn)), some (.int (Int32.ofNat (96 + (rg_R S)))), some (.int (Int32.ofNat 1))], [.ref (b)], A628)) rfl ?_
                refine rw_gf (v := .int (Int32.ofNat (rd_sk cs n x455 + 1))) h629 rfl rfl rfl rfl (rfl) rfl ?_
                refine wp_izT rfl rfl (show Int32.ofNat 0 ≤ (Int32.ofNat (rd_sk cs n x455 + 1)) from Int32.not_lt.mp (Int32.ofNat_not_neg (by omega))) ?_
                refine wp_rt rfl rfl rfl ?_
                have hres : ru_rel cs n (!jn) p S = .error (rd_sk cs n x455 + 1) := by simp [ru_rel, ru_rel2, ru_mod, hop, h370, u453, h553z, h561, c605]
                rw [hres]
                exact rq_Q_er (k := rg_R S + 1) h629 (by simp only [rf_u_if]; simp) (by omega) (by omega) (((((((((rs_X.refl s).u (by unfold rs_sc; omega)).u (by unfold rs_sc; omega)).u (by unfold rs_sc; omega)).u (by unfold rs_sc; omega)).u (by unfold rs_sc; omega)).u (by unfold rs_sc; omega)).u (by unfold rs_sc; omega)).u (by unfold rs_sc; omega)) f631
          · skip
            replace h553 := Decidable.not_not.mp h553
            have h553z : v456 = 0 := (i64_eq (by omega) (by omega)).mp ((lg_cmp_eq _ _).mp h553)
            refine wp_st 2 (f' := (164, [some (.ref (b)), some (.int (sb_i jn)), some (.int (Int32.ofNat (96 + (rg_R S)))), none], [.ref (b), .ref (b)], A549)) rfl ?_
            refine rw_gf (v := .int (Int32.ofNat (rd_sk cs n (rd_sk cs n (sb_re 97 122 cs n (rd_sk cs n p)) + 1)))) h550 rfl rfl rfl rfl (rfl) rfl ?_
            obtain ⟨A632, g633, h634, f635⟩ := (show rf_go _ _ _ _ _ _ (rf_c (rf_u (rf_u (rf_u (rf_u (rf_u s 40 0 (.int (Int32.ofNat (rg_R S + 1)))) 35 (96 + (rg_R S)) (.int (sb_i jn))) 32 (96 + (rg_R S)) (.int (Int32.ofNat o9))) 33 (96 + (rg_R S)) (.int (Int32.ofNat 0))) 33 (96 + (rg_R S)) (.int (Int32.ofNat v456))) x455 (Int32.ofNat (rd_sk cs n (rd_sk cs n (sb_re 97 122 cs n (rd_sk cs n p)) + 1))) (Int64.ofNat v456) (rd_sk cs n (rd_sk cs n (sb_re 97 122 cs n (rd_sk cs n p)) + 1))) from by have e := rr_fail (d := d - 1) (x := rd_sk cs n (rd_sk cs n (sb_re 97 122 cs n (rd_sk cs n p)) + 1)) h550; rw [rf_w_m] at e; exact e)
            have f636 := f552.trans f635
            refine wp_cv (A' := A632) (v := none) rfl rfl rfl rfl rfl (show _ from h550.1) (by omega) (g633) rfl ?_
            show am_wp d 151 (170, [some (.ref (b)), some (.int (sb_i jn)), some (.int (Int32.ofNat (96 + (rg_R S)))), none], [], A632) _
            refine wp_st 1 (f' := (171, [some (.ref (b)), some (.int (sb_i jn)), some (.int (Int32.ofNat (96 + (rg_R S)))), none], [.ref (b)], A632)) rfl ?_
            have k637 := rd_sk_gt (cs := cs) (n := n) (a := x455)
            obtain ⟨A638, g639, h640, f641⟩ := (show rf_go (d - 1) 129 [.ref b] A632 b none (rf_c (rf_u (rf_u (rf_u (rf_u (rf_u s 40 0 (.int (Int32.ofNat (rg_R S + 1)))) 35 (96 + (rg_R S)) (.int (sb_i jn))) 32 (96 + (rg_R S)) (.int (Int32.ofNat o9))) 33 (96 + (rg_R S)) (.int (Int32.ofNat 0))) 33 (96 + (rg_R S)) (.int (Int32.ofNat v456))) (rd_sk cs n x455) (Int32.ofNat (rd_sk cs n (rd_sk cs n (sb_re 97 122 cs n (rd_sk cs n p)) + 1))) (Int64.ofNat v456) (rd_sk cs n (rd_sk cs n (sb_re 97 122 cs n (rd_sk cs n p)) + 1))) from rr_spaces (d := d - 1) (by omega) (by omega) (show rf_tx (rf_u (rf_u (rf_u (rf_u (rf_u s 40 0 (.int (Int32.ofNat (rg_R S + 1)))) 35 (96 + (rg_R S)) (.int (sb_i jn))) 32 (96 + (rg_R S)) (.int (Int32.ofNat o9))) 33 (96 + (rg_R S)) (.int (Int32.ofNat 0))) 33 (96 + (rg_R S)) (.int (Int32.ofNat v456))) cs n from hx) h634)
            have f642 := f636.trans f641
            refine wp_cv (A' := A638) (v := none) rfl rfl rfl rfl rfl (show _ from h634.1) (by omega) (g639) rfl ?_
            show am_wp d 151 (174, [some (.ref (b)), some (.int (sb_i jn)), some (.int (Int32.ofNat (96 + (rg_R S)))), none], [], A638) _
            refine wp_st 1 (f' := (175, [some (.ref (b)), some (.int (sb_i jn)), some (.int (Int32.ofNat (96 + (rg_R S)))), none], [.ref (b)], A638)) rfl ?_
            refine rw_gr h640 rfl rfl rfl rfl rfl rfl ?_
            refine wp_st 3 (f' := (181, [some (.ref (b)), some (.int (sb_i jn)), some (.int (Int32.ofNat (96 + (rg_R S)))), none], [.ref (b), .ref (b), .int (Int32.ofNat (96 + (rg_R S))), .ref (b + 23)], A638)) rfl ?_
            refine rw_gf (v := .int (Int32.ofNat (rd_sk cs n x455))) h640 rfl rfl rfl rfl (rfl) rfl ?_
            have l643 := hlk (rd_sk cs n x455)
            refine wp_cv (A' := A638) (v := some (.int (Int32.ofNat (sb_lk cs n (rd_sk cs n x455))))) rfl rfl rfl rfl rfl (show _ from h640.1) (by omega) (rr_look (by omega) (show rf_tx (rf_u (rf_u (rf_u (rf_u (rf_u s 40 0 (.int (Int32.ofNat (rg_R S + 1)))) 35 (96 + (rg_R S)) (.int (sb_i jn))) 32 (96 + (rg_R S)) (.int (Int32.ofNat o9))) 33 (96 + (rg_R S)) (.int (Int32.ofNat 0))) 33 (96 + (rg_R S)) (.int (Int32.ofNat v456))) cs n from hx) h640) rfl ?_
            show am_wp d 151 (187, [some (.ref (b)), some (.int (sb_i jn)), some (.int (Int32.ofNat (96 + (rg_R S)))), none], [.int (Int32.ofNat (sb_lk cs n (rd_sk cs n x455))), .int (Int32.ofNat (96 + (rg_R S))), .ref (b + 23)], A638) _
            refine wp_st 1 (f' := (189, [some (.ref (b)), some (.int (sb_i jn)), some (.int (Int32.ofNat (96 + (rg_R S)))), none], [.int (Int32.ofNat 33), .int (Int32.ofNat (sb_lk cs n (rd_sk cs n x455))), .int (Int32.ofNat (96 + (rg_R S))), .ref (b + 23)], A638)) rfl ?_
            refine wp_if rfl rfl rfl (fun (h644 : (Int32.ofNat (sb_lk cs n (rd_sk cs n x455))) ≠ (Int32.ofNat 33)) => ?_) (fun (h644 : ¬ ((Int32.ofNat (sb_lk cs n (rd_sk cs n x455))) ≠ (Int32.ofNat 33))) => ?_)
            · skip
              rw [ne_eq, i32_eq (by omega) (by omega)] at h644
              refine wp_st 1 (f' := (197, [some (.ref (b)), some (.int (sb_i jn)), some (.int (Int32.ofNat (96 + (rg_R S)))), none], [.int (Int32.ofNat 0), .int (Int32.ofNat (96 + (rg_R S))), .ref (b + 23)], A638)) rfl ?_
              refine rw_as (j := 34) (n := 96 + (rg_R S)) (v := .int (sb_i false)) h640 rfl rfl rfl (Or.inr (Or.inr ⟨rfl, rfl, rfl⟩)) (show _ < 144 from by omega) (sb_narrow_z false) rfl (fun A645 h646 f647 => ?_)
              have f648 := f642.trans f647
              rw [rf_c_u (by decide)] at h646
              refine wp_st 2 (f' := (200, [some (.ref (b)), some (.int (sb_i jn)), some (.int (Int32.ofNat (96 + (rg_R S)))), none], [.ref (b), .ref (b)], A645)) rfl ?_
              refine rw_gr h646 rfl rfl rfl rfl rfl rfl ?_
              refine wp_st 1 (f' := (204, [some (.ref (b)), some (.int (sb_i jn)), some (.int (Int32.ofNat (96 + (rg_R S)))), none], [.int (Int32.ofNat (96 + (rg_R S))), .ref (b + 23), .ref (b)], A645)) rfl ?_
              refine rw_al (j := 34) (n := 96 + (rg_R S)) (v := .int (Int32.ofNat 0)) h646 rfl rfl rfl (Or.inr (Or.inr (Or.inr (Or.inl ⟨rfl, rfl⟩)))) rfl (show _ < 144 from by omega) (by rw [rf_c_ne (show 34 ≠ 17 ∧ 34 ≠ 18 ∧ 34 ≠ 28 ∧ 34 ≠ 29 by decide), rf_u_eq]; rfl) rfl ?_
              refine wp_izT rfl rfl (show (Int32.ofNat 0) = (Int32.ofNat 0) from by decide) ?_
              refine wp_st 1 (f' := (218, [some (.ref (b)), some (.int (sb_i jn)), some (.int (Int32.ofNat (96 + (rg_R S)))), none], [.ref (b), .ref (b)], A645)) rfl ?_
              refine rw_gf (v := .int (Int32.ofNat (rd_sk cs n x455))) h646 rfl rfl rfl rfl (rfl) rfl ?_
              refine rw_pf (v := .int (Int32.ofNat (rd_sk cs n x455))) h646 rfl rfl rfl rfl rfl rfl (fun A649 h650 f651 => ?_)
              have f652 := f648.trans f651
              rw [rf_c17] at h650
              refine wp_st 2 (f' := (227, [some (.ref (b)), some (.int (sb_i jn)), some (.int (Int32.ofNat (96 + (rg_R S)))), none], [.int (Int32.ofNat 61), .ref (b)], A649)) rfl ?_
              by_cases c653 : sb_lk cs n (rd_sk cs n x455) = 61
              · skip
                have c653p : rd_sk cs n x455 < n := sb_lk_pos (cs := cs) (by omega)
                obtain ⟨A654, g655, h656, f657⟩ := (show rf_go _ _ _ _ _ _ (rf_c (rf_u (rf_u (rf_u (rf_u (rf_u (rf_u s 40 0 (.int (Int32.ofNat (rg_R S + 1)))) 35 (96 + (rg_R S)) (.int (sb_i jn))) 32 (96 + (rg_R S)) (.int (Int32.ofNat o9))) 33 (96 + (rg_R S)) (.int (Int32.ofNat 0))) 33 (96 + (rg_R S)) (.int (Int32.ofNat v456))) 34 (96 + (rg_R S)) (.int (sb_i false))) (rd_sk cs n x455 + 1) (Int32.ofNat (rd_sk cs n (rd_sk cs n (sb_re 97 122 cs n (rd_sk cs n p)) + 1))) (Int64.ofNat v456) (rd_sk cs n (rd_sk cs n (sb_re 97 122 cs n (rd_sk cs n p)) + 1))) from by have e := rr_need (d := d - 1) (c := 61) (by omega) (by omega) (by omega) (show rf_tx (rf_u (rf_u (rf_u (rf_u (rf_u (rf_u s 40 0 (.int (Int32.ofNat (rg_R S + 1)))) 35 (96 + (rg_R S)) (.int (sb_i jn))) 32 (96 + (rg_R S)) (.int (Int32.ofNat o9))) 33 (96 + (rg_R S)) (.int (Int32.ofNat 0))) 33 (96 + (rg_R S)) (.int (Int32.ofNat v456))) 34 (96 + (rg_R S)) (.int (sb_i false))) cs n from hx) h650; rw [if_pos c653] at e; exact e)
                have f658 := f652.trans f657
                refine wp_cv (A' := A654) (v := none) rfl rfl rfl rfl rfl (show _ from h650.1) (by omega) (g655) rfl ?_
                show am_wp d 151 (230, [some (.ref (b)), some (.int (sb_i jn)), some (.int (Int32.ofNat (96 + (rg_R S)))), none], [], A654) _
                refine wp_st 1 (f' := (231, [some (.ref (b)), some (.int (sb_i jn)), some (.int (Int32.ofNat (96 + (rg_R S)))), none], [.ref (b)], A654)) rfl ?_
                refine rw_gr h656 rfl rfl rfl rfl rfl rfl ?_
                refine wp_st 3 (f' := (239, [some (.ref (b)), some (.int (sb_i jn)), some (.int (Int32.ofNat (96 + (rg_R S)))), none], [.ref (b), .int (Int32.ofNat 128), .int (Int32.ofNat (96 + (rg_R S))), .ref (b + 25)], A654)) rfl ?_
                refine rw_gf (v := .int (Int32.ofNat (rg_G S))) h656 rfl rfl rfl rfl (hs.2.1) rfl ?_
                refine wp_st 1 (f' := (243, [some (.ref (b)), some (.int (sb_i jn)), some (.int (Int32.ofNat (96 + (rg_R S)))), none], [.int ((Int32.ofNat 128) + (Int32.ofNat (rg_G S))), .int (Int32.ofNat (96 + (rg_R S))), .ref (b + 25)], A654)) rfl ?_
                rw [i32_add (128) (rg_G S)]
                refine rw_as (j := 36) (n := 96 + (rg_R S)) (v := .int (Int32.ofNat (128 + (rg_G S)))) h656 rfl rfl rfl (Or.inl ⟨rfl, rfl, rfl⟩) (show _ < 144 from by omega) rfl rfl (fun A659 h660 f661 => ?_)
                have f662 := f658.trans f661
                rw [rf_c_u (by decide)] at h660
                refine wp_st 1 (f' := (245, [some (.ref (b)), some (.int (sb_i jn)), some (.int (Int32.ofNat (96 + (rg_R S)))), none], [.ref (b)], A659)) rfl ?_
                refine rw_gr h660 rfl rfl rfl rfl rfl rfl ?_
                refine wp_st 2 (f' := (250, [some (.ref (b)), some (.int (sb_i jn)), some (.int (Int32.ofNat (96 + (rg_R S)))), none], [.int (Int32.ofNat 0), .int (Int32.ofNat (96 + (rg_R S))), .ref (b + 26)], A659)) rfl ?_
                refine rw_as (j := 37) (n := 96 + (rg_R S)) (v := .int (Int32.ofNat 0)) h660 rfl rfl rfl (Or.inl ⟨rfl, rfl, rfl⟩) (show _ < 144 from by omega) rfl rfl (fun A663 h664 f665 => ?_)
                have f666 := f662.trans f665
                rw [rf_c_u (by decide)] at h664
                refine wp_st 2 (f' := (253, [some (.ref (b)), some (.int (sb_i jn)), some (.int (Int32.ofNat (96 + (rg_R S)))), some (.int (Int32.ofNat 1))], [], A663)) rfl ?_
                refine wp_st 1 (f' := (254, [some (.ref (b)), some (.int (sb_i jn)), some (.int (Int32.ofNat (96 + (rg_R S)))), some (.int (Int32.ofNat 1))], [.int (Int32.ofNat 1)], A663)) rfl ?_
                refine wp_izF rfl rfl (show ¬ ((Int32.ofNat 1) = (Int32.ofNat 0)) from by decide) ?_
                refine wp_st 1 (f' := (258, [some (.ref (b)), some (.int (sb_i jn)), some (.int (Int32.ofNat (96 + (rg_R S)))), some (.int (Int32.ofNat 1))], [.ref (b)], A663)) rfl ?_
                refine rw_gf (v := .int (Int32.ofNat (rd_sk cs n (rd_sk cs n (sb_re 97 122 cs n (rd_sk cs n p)) + 1)))) h664 rfl rfl rfl rfl (rfl) rfl ?_
                refine wp_izT rfl rfl (show Int32.ofNat 0 ≤ (Int32.ofNat (rd_sk cs n (rd_sk cs n (sb_re 97 122 cs n (rd_sk cs n p)) + 1))) from Int32.not_lt.mp (Int32.ofNat_not_neg (by omega))) ?_
                refine wp_rt rfl rfl rfl ?_
                have hres : ru_rel cs n (!jn) p S = .error (rd_sk cs n (rd_sk cs n (sb_re 97 122 cs n (rd_sk cs n p)) + 1)) := by simp [ru_rel, ru_rel2, ru_mod, hop, h370, u453, h553z, h644, c653]
                rw [hres]
                exact rq_Q_er (k := rg_R S + 1) h664 (by simp only [rf_u_if]; simp) (by omega) (by omega) (((((((((rs_X.refl s).u (by unfold rs_sc; omega)).u (by unfold rs_sc; omega)).u (by unfold rs_sc; omega)).u (by unfold rs_sc; omega)).u (by unfold rs_sc; omega)).u (by unfold rs_sc; omega)).u (by unfold rs_sc; omega)).u (by unfold rs_sc; omega)) f666
              · skip
                obtain ⟨A667, g668, h669, f670⟩ := (show rf_go _ _ _ _ _ _ (rf_c (rf_u (rf_u (rf_u (rf_u (rf_u (rf_u s 40 0 (.int (Int32.ofNat (rg_R S + 1)))) 35 (96 + (rg_R S)) (.int (sb_i jn))) 32 (96 + (rg_R S)) (.int (Int32.ofNat o9))) 33 (96 + (rg_R S)) (.int (Int32.ofNat 0))) 33 (96 + (rg_R S)) (.int (Int32.ofNat v456))) 34 (96 + (rg_R S)) (.int (sb_i false))) (rd_sk cs n x455 + 1) (Int32.ofNat (rd_sk cs n (rd_sk cs n (sb_re 97 122 cs n (rd_sk cs n p)) + 1))) (Int64.ofNat v456) (rd_sk cs n (rd_sk cs n (sb_re 97 122 cs n (rd_sk cs n p)) + 1))) from by have e := rr_need (d := d - 1) (c := 61) (by omega) (by omega) (by omega) (show rf_tx (rf_u (rf_u (rf_u (rf_u (rf_u (rf_u s 40 0 (.int (Int32.ofNat (rg_R S + 1)))) 35 (96 + (rg_R S)) (.int (sb_i jn))) 32 (96 + (rg_R S)) (.int (Int32.ofNat o9))) 33 (96 + (rg_R S)) (.int (Int32.ofNat 0))) 33 (96 + (rg_R S)) (.int (Int32.ofNat v456))) 34 (96 + (rg_R S)) (.int (sb_i false))) cs n from hx) h650; rw [if_neg c653, rf_w_n (by omega)] at e; exact e)
                have f671 := f652.trans f670
                refine wp_cv (A' := A667) (v := none) rfl rfl rfl rfl rfl (show _ from h650.1) (by omega) (g668) rfl ?_
                show am_wp d 151 (230, [some (.ref (b)), some (.int (sb_i jn)), some (.int (Int32.ofNat (96 + (rg_R S)))), none], [], A667) _
                refine wp_st 1 (f' := (231, [some (.ref (b)), some (.int (sb_i jn)), some (.int (Int32.ofNat (96 + (rg_R S)))), none], [.ref (b)], A667)) rfl ?_
                refine rw_gr h669 rfl rfl rfl rfl rfl rfl ?_
                refine wp_st 3 (f' := (239, [some (.ref (b)), some (.int (sb_i jn)), some (.int (Int32.ofNat (96 + (rg_R S)))), none], [.ref (b), .int (Int32.ofNat 128), .int (Int32.ofNat (96 + (rg_R S))), .ref (b + 25)], A667)) rfl ?_
                refine rw_gf (v := .int (Int32.ofNat (rg_G S))) h669 rfl rfl rfl rfl (hs.2.1) rfl ?_
                refine wp_st 1 (f' := (243, [some (.ref (b)), some (.int (sb_i jn)), some (.int (Int32.ofNat (96 + (rg_R S)))), none], [.int ((Int32.ofNat 128) + (Int32.ofNat (rg_G S))), .int (Int32.ofNat (96 + (rg_R S))), .ref (b + 25)], A667)) rfl ?_
                rw [i32_add (128) (rg_G S)]
                refine rw_as (j := 36) (n := 96 + (rg_R S)) (v := .int (Int32.ofNat (128 + (rg_G S)))) h669 rfl rfl rfl (Or.inl ⟨rfl, rfl, rfl⟩) (show _ < 144 from by omega) rfl rfl (fun A672 h673 f674 => ?_)
                have f675 := f671.trans f674
                rw [rf_c_u (by decide)] at h673
                refine wp_st 1 (f' := (245, [some (.ref (b)), some (.int (sb_i jn)), some (.int (Int32.ofNat (96 + (rg_R S)))), none], [.ref (b)], A672)) rfl ?_
                refine rw_gr h673 rfl rfl rfl rfl rfl rfl ?_
                refine wp_st 2 (f' := (250, [some (.ref (b)), some (.int (sb_i jn)), some (.int (Int32.ofNat (96 + (rg_R S)))), none], [.int (Int32.ofNat 0), .int (Int32.ofNat (96 + (rg_R S))), .ref (b + 26)], A672)) rfl ?_
                refine rw_as (j := 37) (n := 96 + (rg_R S)) (v := .int (Int32.ofNat 0)) h673 rfl rfl rfl (Or.inl ⟨rfl, rfl, rfl⟩) (show _ < 144 from by omega) rfl rfl (fun A676 h677 f678 => ?_)
                have f679 := f675.trans f678
                rw [rf_c_u (by decide)] at h677
                refine wp_st 2 (f' := (253, [some (.ref (b)), some (.int (sb_i jn)), some (.int (Int32.ofNat (96 + (rg_R S)))), some (.int (Int32.ofNat 1))], [], A676)) rfl ?_
                refine wp_st 1 (f' := (254, [some (.ref (b)), some (.int (sb_i jn)), some (.int (Int32.ofNat (96 + (rg_R S)))), some (.int (Int32.ofNat 1))], [.int (Int32.ofNat 1)], A676)) rfl ?_
                refine wp_izF rfl rfl (show ¬ ((Int32.ofNat 1) = (Int32.ofNat 0)) from by decide) ?_
                refine wp_st 1 (f' := (258, [some (.ref (b)), some (.int (sb_i jn)), some (.int (Int32.ofNat (96 + (rg_R S)))), some (.int (Int32.ofNat 1))], [.ref (b)], A676)) rfl ?_
                refine rw_gf (v := .int (Int32.ofNat (rd_sk cs n (rd_sk cs n (sb_re 97 122 cs n (rd_sk cs n p)) + 1)))) h677 rfl rfl rfl rfl (rfl) rfl ?_
                refine wp_izT rfl rfl (show Int32.ofNat 0 ≤ (Int32.ofNat (rd_sk cs n (rd_sk cs n (sb_re 97 122 cs n (rd_sk cs n p)) + 1))) from Int32.not_lt.mp (Int32.ofNat_not_neg (by omega))) ?_
                refine wp_rt rfl rfl rfl ?_
                have hres : ru_rel cs n (!jn) p S = .error (rd_sk cs n (rd_sk cs n (sb_re 97 122 cs n (rd_sk cs n p)) + 1)) := by simp [ru_rel, ru_rel2, ru_mod, hop, h370, u453, h553z, h644, c653]
                rw [hres]
                exact rq_Q_er (k := rg_R S + 1) h677 (by simp only [rf_u_if]; simp) (by omega) (by omega) (((((((((rs_X.refl s).u (by unfold rs_sc; omega)).u (by unfold rs_sc; omega)).u (by unfold rs_sc; omega)).u (by unfold rs_sc; omega)).u (by unfold rs_sc; omega)).u (by unfold rs_sc; omega)).u (by unfold rs_sc; omega)).u (by unfold rs_sc; omega)) f679
            · skip
              rw [ne_eq, i32_eq (by omega) (by omega)] at h644
              replace h644 := Decidable.not_not.mp h644
              have h644p : rd_sk cs n x455 < n := sb_lk_pos (cs := cs) (by omega)
              refine wp_st 2 (f' := (197, [some (.ref (b)), some (.int (sb_i jn)), some (.int (Int32.ofNat (96 + (rg_R S)))), none], [.int (Int32.ofNat 1), .int (Int32.ofNat (96 + (rg_R S))), .ref (b + 23)], A638)) rfl ?_
              refine rw_as (j := 34) (n := 96 + (rg_R S)) (v := .int (sb_i true)) h640 rfl rfl rfl (Or.inr (Or.inr ⟨rfl, rfl, rfl⟩)) (show _ < 144 from by omega) (sb_narrow_z true) rfl (fun A680 h681 f682 => ?_)
              have f683 := f642.trans f682
              rw [rf_c_u (by decide)] at h681
              refine wp_st 2 (f' := (200, [some (.ref (b)), some (.int (sb_i jn)), some (.int (Int32.ofNat (96 + (rg_R S)))), none], [.ref (b), .ref (b)], A680)) rfl ?_
              refine rw_gr h681 rfl rfl rfl rfl rfl rfl ?_
              refine wp_st 1 (f' := (204, [some (.ref (b)), some (.int (sb_i jn)), some (.int (Int32.ofNat (96 + (rg_R S)))), none], [.int (Int32.ofNat (96 + (rg_R S))), .ref (b + 23), .ref (b)], A680)) rfl ?_
              refine rw_al (j := 34) (n := 96 + (rg_R S)) (v := .int (Int32.ofNat 1)) h681 rfl rfl rfl (Or.inr (Or.inr (Or.inr (Or.inl ⟨rfl, rfl⟩)))) rfl (show _ < 144 from by omega) (by rw [rf_c_ne (show 34 ≠ 17 ∧ 34 ≠ 18 ∧ 34 ≠ 28 ∧ 34 ≠ 29 by decide), rf_u_eq]; rfl) rfl ?_
              refine wp_izF rfl rfl (show ¬ ((Int32.ofNat 1) = (Int32.ofNat 0)) from by decide) ?_
              refine wp_st 1 (f' := (209, [some (.ref (b)), some (.int (sb_i jn)), some (.int (Int32.ofNat (96 + (rg_R S)))), none], [.ref (b), .ref (b)], A680)) rfl ?_
              refine rw_gf (v := .int (Int32.ofNat (rd_sk cs n x455))) h681 rfl rfl rfl rfl (rfl) rfl ?_
              refine wp_st 2 (f' := (214, [some (.ref (b)), some (.int (sb_i jn)), some (.int (Int32.ofNat (96 + (rg_R S)))), none], [.int ((Int32.ofNat (rd_sk cs n x455)) + (Int32.ofNat 1)), .ref (b)], A680)) rfl ?_
              rw [i32_add (rd_sk cs n x455) (1)]
              refine wp_st 1 (f' := (221, [some (.ref (b)), some (.int (sb_i jn)), some (.int (Int32.ofNat (96 + (rg_R S)))), none], [.int (Int32.ofNat (rd_sk cs n x455 + 1)), .ref (b)], A680)) rfl ?_
              refine rw_pf (v := .int (Int32.ofNat (rd_sk cs n x455 + 1))) h681 rfl rfl rfl rfl rfl rfl (fun A684 h685 f686 => ?_)
              have f687 := f683.trans f686
              rw [rf_c17] at h685
              refine wp_st 2 (f' := (227, [some (.ref (b)), some (.int (sb_i jn)), some (.int (Int32.ofNat (96 + (rg_R S)))), none], [.int (Int32.ofNat 61), .ref (b)], A684)) rfl ?_
              by_cases c688 : sb_lk cs n (rd_sk cs n x455 + 1) = 61
              · skip
                have c688p : rd_sk cs n x455 + 1 < n := sb_lk_pos (cs := cs) (by omega)
                obtain ⟨A689, g690, h691, f692⟩ := (show rf_go _ _ _ _ _ _ (rf_c (rf_u (rf_u (rf_u (rf_u (rf_u (rf_u s 40 0 (.int (Int32.ofNat (rg_R S + 1)))) 35 (96 + (rg_R S)) (.int (sb_i jn))) 32 (96 + (rg_R S)) (.int (Int32.ofNat o9))) 33 (96 + (rg_R S)) (.int (Int32.ofNat 0))) 33 (96 + (rg_R S)) (.int (Int32.ofNat v456))) 34 (96 + (rg_R S)) (.int (sb_i true))) (rd_sk cs n x455 + 1 + 1) (Int32.ofNat (rd_sk cs n (rd_sk cs n (sb_re 97 122 cs n (rd_sk cs n p)) + 1))) (Int64.ofNat v456) (rd_sk cs n (rd_sk cs n (sb_re 97 122 cs n (rd_sk cs n p)) + 1))) from by have e := rr_need (d := d - 1) (c := 61) (by omega) (by omega) (by omega) (show rf_tx (rf_u (rf_u (rf_u (rf_u (rf_u (rf_u s 40 0 (.int (Int32.ofNat (rg_R S + 1)))) 35 (96 + (rg_R S)) (.int (sb_i jn))) 32 (96 + (rg_R S)) (.int (Int32.ofNat o9))) 33 (96 + (rg_R S)) (.int (Int32.ofNat 0))) 33 (96 + (rg_R S)) (.int (Int32.ofNat v456))) 34 (96 + (rg_R S)) (.int (sb_i true))) cs n from hx) h685; rw [if_pos c688] at e; exact e)
                have f693 := f687.trans f692
                refine wp_cv (A' := A689) (v := none) rfl rfl rfl rfl rfl (show _ from h685.1) (by omega) (g690) rfl ?_
                show am_wp d 151 (230, [some (.ref (b)), some (.int (sb_i jn)), some (.int (Int32.ofNat (96 + (rg_R S)))), none], [], A689) _
                refine wp_st 1 (f' := (231, [some (.ref (b)), some (.int (sb_i jn)), some (.int (Int32.ofNat (96 + (rg_R S)))), none], [.ref (b)], A689)) rfl ?_
                refine rw_gr h691 rfl rfl rfl rfl rfl rfl ?_
                refine wp_st 3 (f' := (239, [some (.ref (b)), some (.int (sb_i jn)), some (.int (Int32.ofNat (96 + (rg_R S)))), none], [.ref (b), .int (Int32.ofNat 128), .int (Int32.ofNat (96 + (rg_R S))), .ref (b + 25)], A689)) rfl ?_
                refine rw_gf (v := .int (Int32.ofNat (rg_G S))) h691 rfl rfl rfl rfl (hs.2.1) rfl ?_
                refine wp_st 1 (f' := (243, [some (.ref (b)), some (.int (sb_i jn)), some (.int (Int32.ofNat (96 + (rg_R S)))), none], [.int ((Int32.ofNat 128) + (Int32.ofNat (rg_G S))), .int (Int32.ofNat (96 + (rg_R S))), .ref (b + 25)], A689)) rfl ?_
                rw [i32_add (128) (rg_G S)]
                refine rw_as (j := 36) (n := 96 + (rg_R S)) (v := .int (Int32.ofNat (128 + (rg_G S)))) h691 rfl rfl rfl (Or.inl ⟨rfl, rfl, rfl⟩) (show _ < 144 from by omega) rfl rfl (fun A694 h695 f696 => ?_)
                have f697 := f693.trans f696
                rw [rf_c_u (by decide)] at h695
                refine wp_st 1 (f' := (245, [some (.ref (b)), some (.int (sb_i jn)), some (.int (Int32.ofNat (96 + (rg_R S)))), none], [.ref (b)], A694)) rfl ?_
                refine rw_gr h695 rfl rfl rfl rfl rfl rfl ?_
                refine wp_st 2 (f' := (250, [some (.ref (b)), some (.int (sb_i jn)), some (.int (Int32.ofNat (96 + (rg_R S)))), none], [.int (Int32.ofNat 0), .int (Int32.ofNat (96 + (rg_R S))), .ref (b + 26)], A694)) rfl ?_
                refine rw_as (j := 37) (n := 96 + (rg_R S)) (v := .int (Int32.ofNat 0)) h695 rfl rfl rfl (Or.inl ⟨rfl, rfl, rfl⟩) (show _ < 144 from by omega) rfl rfl (fun A698 h699 f700 => ?_)
                have f701 := f697.trans f700
                rw [rf_c_u (by decide)] at h699
                refine wp_st 2 (f' := (253, [some (.ref (b)), some (.int (sb_i jn)), some (.int (Int32.ofNat (96 + (rg_R S)))), some (.int (Int32.ofNat 1))], [], A698)) rfl ?_
                refine wp_st 1 (f' := (254, [some (.ref (b)), some (.int (sb_i jn)), some (.int (Int32.ofNat (96 + (rg_R S)))), some (.int (Int32.ofNat 1))], [.int (Int32.ofNat 1)], A698)) rfl ?_
                refine wp_izF rfl rfl (show ¬ ((Int32.ofNat 1) = (Int32.ofNat 0)) from by decide) ?_
                refine wp_st 1 (f' := (258, [some (.ref (b)), some (.int (sb_i jn)), some (.int (Int32.ofNat (96 + (rg_R S)))), some (.int (Int32.ofNat 1))], [.ref (b)], A698)) rfl ?_
                refine rw_gf (v := .int (Int32.ofNat (rd_sk cs n (rd_sk cs n (sb_re 97 122 cs n (rd_sk cs n p)) + 1)))) h699 rfl rfl rfl rfl (rfl) rfl ?_
                refine wp_izT rfl rfl (show Int32.ofNat 0 ≤ (Int32.ofNat (rd_sk cs n (rd_sk cs n (sb_re 97 122 cs n (rd_sk cs n p)) + 1))) from Int32.not_lt.mp (Int32.ofNat_not_neg (by omega))) ?_
                refine wp_rt rfl rfl rfl ?_
                have hres : ru_rel cs n (!jn) p S = .error (rd_sk cs n (rd_sk cs n (sb_re 97 122 cs n (rd_sk cs n p)) + 1)) := by simp [ru_rel, ru_rel2, ru_mod, hop, h370, u453, h553z, h644, c688]
                rw [hres]
                exact rq_Q_er (k := rg_R S + 1) h699 (by simp only [rf_u_if]; simp) (by omega) (by omega) (((((((((rs_X.refl s).u (by unfold rs_sc; omega)).u (by unfold rs_sc; omega)).u (by unfold rs_sc; omega)).u (by unfold rs_sc; omega)).u (by unfold rs_sc; omega)).u (by unfold rs_sc; omega)).u (by unfold rs_sc; omega)).u (by unfold rs_sc; omega)) f701
              · skip
                obtain ⟨A702, g703, h704, f705⟩ := (show rf_go _ _ _ _ _ _ (rf_c (rf_u (rf_u (rf_u (rf_u (rf_u (rf_u s 40 0 (.int (Int32.ofNat (rg_R S + 1)))) 35 (96 + (rg_R S)) (.int (sb_i jn))) 32 (96 + (rg_R S)) (.int (Int32.ofNat o9))) 33 (96 + (rg_R S)) (.int (Int32.ofNat 0))) 33 (96 + (rg_R S)) (.int (Int32.ofNat v456))) 34 (96 + (rg_R S)) (.int (sb_i true))) (rd_sk cs n x455 + 1 + 1) (Int32.ofNat (rd_sk cs n (rd_sk cs n (sb_re 97 122 cs n (rd_sk cs n p)) + 1))) (Int64.ofNat v456) (rd_sk cs n (rd_sk cs n (sb_re 97 122 cs n (rd_sk cs n p)) + 1))) from by have e := rr_need (d := d - 1) (c := 61) (by omega) (by omega) (by omega) (show rf_tx (rf_u (rf_u (rf_u (rf_u (rf_u (rf_u s 40 0 (.int (Int32.ofNat (rg_R S + 1)))) 35 (96 + (rg_R S)) (.int (sb_i jn))) 32 (96 + (rg_R S)) (.int (Int32.ofNat o9))) 33 (96 + (rg_R S)) (.int (Int32.ofNat 0))) 33 (96 + (rg_R S)) (.int (Int32.ofNat v456))) 34 (96 + (rg_R S)) (.int (sb_i true))) cs n from hx) h685; rw [if_neg c688, rf_w_n (by omega)] at e; exact e)
                have f706 := f687.trans f705
                refine wp_cv (A' := A702) (v := none) rfl rfl rfl rfl rfl (show _ from h685.1) (by omega) (g703) rfl ?_
                show am_wp d 151 (230, [some (.ref (b)), some (.int (sb_i jn)), some (.int (Int32.ofNat (96 + (rg_R S)))), none], [], A702) _
                refine wp_st 1 (f' := (231, [some (.ref (b)), some (.int (sb_i jn)), some (.int (Int32.ofNat (96 + (rg_R S)))), none], [.ref (b)], A702)) rfl ?_
                refine rw_gr h704 rfl rfl rfl rfl rfl rfl ?_
                refine wp_st 3 (f' := (239, [some (.ref (b)), some (.int (sb_i jn)), some (.int (Int32.ofNat (96 + (rg_R S)))), none], [.ref (b), .int (Int32.ofNat 128), .int (Int32.ofNat (96 + (rg_R S))), .ref (b + 25)], A702)) rfl ?_
                refine rw_gf (v := .int (Int32.ofNat (rg_G S))) h704 rfl rfl rfl rfl (hs.2.1) rfl ?_
                refine wp_st 1 (f' := (243, [some (.ref (b)), some (.int (sb_i jn)), some (.int (Int32.ofNat (96 + (rg_R S)))), none], [.int ((Int32.ofNat 128) + (Int32.ofNat (rg_G S))), .int (Int32.ofNat (96 + (rg_R S))), .ref (b + 25)], A702)) rfl ?_
                rw [i32_add (128) (rg_G S)]
                refine rw_as (j := 36) (n := 96 + (rg_R S)) (v := .int (Int32.ofNat (128 + (rg_G S)))) h704 rfl rfl rfl (Or.inl ⟨rfl, rfl, rfl⟩) (show _ < 144 from by omega) rfl rfl (fun A707 h708 f709 => ?_)
                have f710 := f706.trans f709
                rw [rf_c_u (by decide)] at h708
                refine wp_st 1 (f' := (245, [some (.ref (b)), some (.int (sb_i jn)), some (.int (Int32.ofNat (96 + (rg_R S)))), none], [.ref (b)], A707)) rfl ?_
                refine rw_gr h708 rfl rfl rfl rfl rfl rfl ?_
                refine wp_st 2 (f' := (250, [some (.ref (b)), some (.int (sb_i jn)), some (.int (Int32.ofNat (96 + (rg_R S)))), none], [.int (Int32.ofNat 0), .int (Int32.ofNat (96 + (rg_R S))), .ref (b + 26)], A707)) rfl ?_
                refine rw_as (j := 37) (n := 96 + (rg_R S)) (v := .int (Int32.ofNat 0)) h708 rfl rfl rfl (Or.inl ⟨rfl, rfl, rfl⟩) (show _ < 144 from by omega) rfl rfl (fun A711 h712 f713 => ?_)
                have f714 := f710.trans f713
                rw [rf_c_u (by decide)] at h712
                refine wp_st 2 (f' := (253, [some (.ref (b)), some (.int (sb_i jn)), some (.int (Int32.ofNat (96 + (rg_R S)))), some (.int (Int32.ofNat 1))], [], A711)) rfl ?_
                refine wp_st 1 (f' := (254, [some (.ref (b)), some (.int (sb_i jn)), some (.int (Int32.ofNat (96 + (rg_R S)))), some (.int (Int32.ofNat 1))], [.int (Int32.ofNat 1)], A711)) rfl ?_
                refine wp_izF rfl rfl (show ¬ ((Int32.ofNat 1) = (Int32.ofNat 0)) from by decide) ?_
                refine wp_st 1 (f' := (258, [some (.ref (b)), some (.int (sb_i jn)), some (.int (Int32.ofNat (96 + (rg_R S)))), some (.int (Int32.ofNat 1))], [.ref (b)], A711)) rfl ?_
                refine rw_gf (v := .int (Int32.ofNat (rd_sk cs n (rd_sk cs n (sb_re 97 122 cs n (rd_sk cs n p)) + 1)))) h712 rfl rfl rfl rfl (rfl) rfl ?_
                refine wp_izT rfl rfl (show Int32.ofNat 0 ≤ (Int32.ofNat (rd_sk cs n (rd_sk cs n (sb_re 97 122 cs n (rd_sk cs n p)) + 1))) from Int32.not_lt.mp (Int32.ofNat_not_neg (by omega))) ?_
                refine wp_rt rfl rfl rfl ?_
                have hres : ru_rel cs n (!jn) p S = .error (rd_sk cs n (rd_sk cs n (sb_re 97 122 cs n (rd_sk cs n p)) + 1)) := by simp [ru_rel, ru_rel2, ru_mod, hop, h370, u453, h553z, h644, c688]
                rw [hres]
                exact rq_Q_er (k := rg_R S + 1) h712 (by simp only [rf_u_if]; simp) (by omega) (by omega) (((((((((rs_X.refl s).u (by unfold rs_sc; omega)).u (by unfold rs_sc; omega)).u (by unfold rs_sc; omega)).u (by unfold rs_sc; omega)).u (by unfold rs_sc; omega)).u (by unfold rs_sc; omega)).u (by unfold rs_sc; omega)).u (by unfold rs_sc; omega)) f714
  · skip
    have hE : ¬ sb_re 97 122 cs n (rd_sk cs n p) = rd_sk cs n p := by omega
    have hop : ru_opnd cs n (rd_sk cs n p) = .error (rd_sk cs n p) := by unfold ru_opnd; rw [if_neg (by omega)]
    obtain ⟨N9, hN9, hN9a, hN9b⟩ := rf_rw_2 hltr (by omega) (by omega)
    obtain ⟨A715, g716, h717, f718⟩ := (show rf_go _ _ _ _ _ _ (rf_c (rf_u (rf_u s 40 0 (.int (Int32.ofNat (rg_R S + 1)))) 35 (96 + (rg_R S)) (.int (sb_i jn))) (sb_re 97 122 cs n (rd_sk cs n p)) (-1) (Int64.ofNat N9) (rd_sk cs n p)) from by have q := rr_let (d := d - 1) (many := 120) (by omega) (by omega) (by omega) (show rf_tx (rf_u (rf_u s 40 0 (.int (Int32.ofNat (rg_R S + 1)))) 35 (96 + (rg_R S)) (.int (sb_i jn))) cs n from hx) h12; rw [rf_let_ok (by omega) (by omega) hE, hN9] at q; exact q)
    have f719 := f14.trans f718
    refine wp_cv (A' := A715) (v := none) rfl rfl rfl rfl rfl (show _ from h12.1) (by omega) (g716) rfl ?_
    show am_wp d 151 (35, [some (.ref (b)), some (.int (sb_i jn)), some (.int (Int32.ofNat (96 + (rg_R S)))), none], [], A715) _
    refine wp_st 1 (f' := (36, [some (.ref (b)), some (.int (sb_i jn)), some (.int (Int32.ofNat (96 + (rg_R S)))), none], [.ref (b)], A715)) rfl ?_
    refine rw_gr h717 rfl rfl rfl rfl rfl rfl ?_
    refine wp_st 2 (f' := (41, [some (.ref (b)), some (.int (sb_i jn)), some (.int (Int32.ofNat (96 + (rg_R S)))), none], [.ref (b), .int (Int32.ofNat (96 + (rg_R S))), .ref (b + 21)], A715)) rfl ?_
    refine rw_gf (v := .long (Int64.ofNat N9)) h717 rfl rfl rfl rfl (rfl) rfl ?_
    refine wp_st 2 (f' := (48, [some (.ref (b)), some (.int (sb_i jn)), some (.int (Int32.ofNat (96 + (rg_R S)))), none], [.int (lg_cmp (Int64.ofNat N9) (26)), .int (Int32.ofNat (96 + (rg_R S))), .ref (b + 21)], A715)) rfl ?_
    refine wp_izT rfl rfl (show Int32.ofNat 0 < lg_cmp _ _ from (lg_cmp_gt _ _).mpr ((i64_lt (a := 26) (b := N9) (by omega) (by omega)).mpr (by omega))) ?_
    refine wp_st 2 (f' := (68, [some (.ref (b)), some (.int (sb_i jn)), some (.int (Int32.ofNat (96 + (rg_R S)))), none], [.int ((-1)), .int (Int32.ofNat (96 + (rg_R S))), .ref (b + 21)], A715)) rfl ?_
    refine rw_as (j := 32) (n := 96 + (rg_R S)) (v := .int ((-1))) h717 rfl rfl rfl (Or.inl ⟨rfl, rfl, rfl⟩) (show _ < 144 from by omega) rfl rfl (fun A720 h721 f722 => ?_)
    have f723 := f719.trans f722
    rw [rf_c_u (by decide)] at h721
    refine wp_st 1 (f' := (70, [some (.ref (b)), some (.int (sb_i jn)), some (.int (Int32.ofNat (96 + (rg_R S)))), none], [.ref (b)], A720)) rfl ?_
    refine rw_gr h721 rfl rfl rfl rfl rfl rfl ?_
    refine wp_st 1 (f' := (74, [some (.ref (b)), some (.int (sb_i jn)), some (.int (Int32.ofNat (96 + (rg_R S)))), none], [.int (Int32.ofNat (96 + (rg_R S))), .ref (b + 21)], A720)) rfl ?_
    refine rw_al (j := 32) (n := 96 + (rg_R S)) (v := .int ((-1))) h721 rfl rfl rfl (Or.inl ⟨rfl, rfl⟩) rfl (show _ < 144 from by omega) (by rw [rf_c_ne (show 32 ≠ 17 ∧ 32 ≠ 18 ∧ 32 ≠ 28 ∧ 32 ≠ 29 by decide), rf_u_eq]) rfl ?_
    refine wp_izF rfl rfl (show ¬ (Int32.ofNat 0 ≤ (-1 : Int32)) from by decide) ?_
    refine wp_st 2 (f' := (80, [some (.ref (b)), some (.int (sb_i jn)), some (.int (Int32.ofNat (96 + (rg_R S)))), none], [.ref (b), .ref (b)], A720)) rfl ?_
    refine rw_gf (v := .int (Int32.ofNat (rd_sk cs n p))) h721 rfl rfl rfl rfl (rfl) rfl ?_
    obtain ⟨A724, g725, h726, f727⟩ := (show rf_go _ _ _ _ _ _ (rf_c (rf_u (rf_u (rf_u s 40 0 (.int (Int32.ofNat (rg_R S + 1)))) 35 (96 + (rg_R S)) (.int (sb_i jn))) 32 (96 + (rg_R S)) (.int ((-1)))) (sb_re 97 122 cs n (rd_sk cs n p)) (Int32.ofNat (rd_sk cs n p)) (Int64.ofNat N9) (rd_sk cs n p)) from by have e := rr_fail (d := d - 1) (x := rd_sk cs n p) h721; rw [rf_w_m] at e; exact e)
    have f728 := f723.trans f727
    refine wp_cv (A' := A724) (v := none) rfl rfl rfl rfl rfl (show _ from h721.1) (by omega) (g725) rfl ?_
    show am_wp d 151 (86, [some (.ref (b)), some (.int (sb_i jn)), some (.int (Int32.ofNat (96 + (rg_R S)))), none], [], A724) _
    refine wp_st 1 (f' := (87, [some (.ref (b)), some (.int (sb_i jn)), some (.int (Int32.ofNat (96 + (rg_R S)))), none], [.ref (b)], A724)) rfl ?_
    refine rw_gr h726 rfl rfl rfl rfl rfl rfl ?_
    refine wp_st 2 (f' := (92, [some (.ref (b)), some (.int (sb_i jn)), some (.int (Int32.ofNat (96 + (rg_R S)))), none], [.int (Int32.ofNat 0), .int (Int32.ofNat (96 + (rg_R S))), .ref (b + 22)], A724)) rfl ?_
    refine rw_as (j := 33) (n := 96 + (rg_R S)) (v := .int (Int32.ofNat 0)) h726 rfl rfl rfl (Or.inl ⟨rfl, rfl, rfl⟩) (show _ < 144 from by omega) rfl rfl (fun A729 h730 f731 => ?_)
    have f732 := f728.trans f731
    rw [rf_c_u (by decide)] at h730
    refine wp_st 1 (f' := (94, [some (.ref (b)), some (.int (sb_i jn)), some (.int (Int32.ofNat (96 + (rg_R S)))), none], [.ref (b)], A729)) rfl ?_
    have k733 := rd_sk_gt (cs := cs) (n := n) (a := sb_re 97 122 cs n (rd_sk cs n p))
    obtain ⟨A734, g735, h736, f737⟩ := (show rf_go (d - 1) 129 [.ref b] A729 b none (rf_c (rf_u (rf_u (rf_u (rf_u s 40 0 (.int (Int32.ofNat (rg_R S + 1)))) 35 (96 + (rg_R S)) (.int (sb_i jn))) 32 (96 + (rg_R S)) (.int ((-1)))) 33 (96 + (rg_R S)) (.int (Int32.ofNat 0))) (rd_sk cs n (sb_re 97 122 cs n (rd_sk cs n p))) (Int32.ofNat (rd_sk cs n p)) (Int64.ofNat N9) (rd_sk cs n p)) from rr_spaces (d := d - 1) (by omega) (by omega) (show rf_tx (rf_u (rf_u (rf_u (rf_u s 40 0 (.int (Int32.ofNat (rg_R S + 1)))) 35 (96 + (rg_R S)) (.int (sb_i jn))) 32 (96 + (rg_R S)) (.int ((-1)))) 33 (96 + (rg_R S)) (.int (Int32.ofNat 0))) cs n from hx) h730)
    have f738 := f732.trans f737
    refine wp_cv (A' := A734) (v := none) rfl rfl rfl rfl rfl (show _ from h730.1) (by omega) (g735) rfl ?_
    show am_wp d 151 (97, [some (.ref (b)), some (.int (sb_i jn)), some (.int (Int32.ofNat (96 + (rg_R S)))), none], [], A734) _
    refine wp_st 2 (f' := (99, [some (.ref (b)), some (.int (sb_i jn)), some (.int (Int32.ofNat (96 + (rg_R S)))), none], [.ref (b), .ref (b)], A734)) rfl ?_
    refine rw_gf (v := .int (Int32.ofNat (rd_sk cs n (sb_re 97 122 cs n (rd_sk cs n p))))) h736 rfl rfl rfl rfl (rfl) rfl ?_
    have l739 := hlk (rd_sk cs n (sb_re 97 122 cs n (rd_sk cs n p)))
    refine wp_cv (A' := A734) (v := some (.int (Int32.ofNat (sb_lk cs n (rd_sk cs n (sb_re 97 122 cs n (rd_sk cs n p))))))) rfl rfl rfl rfl rfl (show _ from h736.1) (by omega) (rr_look (by omega) (show rf_tx (rf_u (rf_u (rf_u (rf_u s 40 0 (.int (Int32.ofNat (rg_R S + 1)))) 35 (96 + (rg_R S)) (.int (sb_i jn))) 32 (96 + (rg_R S)) (.int ((-1)))) 33 (96 + (rg_R S)) (.int (Int32.ofNat 0))) cs n from hx) h736) rfl ?_
    show am_wp d 151 (105, [some (.ref (b)), some (.int (sb_i jn)), some (.int (Int32.ofNat (96 + (rg_R S)))), none], [.int (Int32.ofNat (sb_lk cs n (rd_sk cs n (sb_re 97 122 cs n (rd_sk cs n p)))))], A734) _
    refine wp_st 1 (f' := (107, [some (.ref (b)), some (.int (sb_i jn)), some (.int (Int32.ofNat (96 + (rg_R S)))), none], [.int (Int32.ofNat 37), .int (Int32.ofNat (sb_lk cs n (rd_sk cs n (sb_re 97 122 cs n (rd_sk cs n p)))))], A734)) rfl ?_
    refine wp_if rfl rfl rfl (fun (h740 : (Int32.ofNat (sb_lk cs n (rd_sk cs n (sb_re 97 122 cs n (rd_sk cs n p))))) ≠ (Int32.ofNat 37)) => ?_) (fun (h740 : ¬ ((Int32.ofNat (sb_lk cs n (rd_sk cs n (sb_re 97 122 cs n (rd_sk cs n p))))) ≠ (Int32.ofNat 37))) => ?_)
    · skip
      rw [ne_eq, i32_eq (by omega) (by omega)] at h740
      refine wp_st 1 (f' := (175, [some (.ref (b)), some (.int (sb_i jn)), some (.int (Int32.ofNat (96 + (rg_R S)))), none], [.ref (b)], A734)) rfl ?_
      refine rw_gr h736 rfl rfl rfl rfl rfl rfl ?_
      refine wp_st 3 (f' := (181, [some (.ref (b)), some (.int (sb_i jn)), some (.int (Int32.ofNat (96 + (rg_R S)))), none], [.ref (b), .ref (b), .int (Int32.ofNat (96 + (rg_R S))), .ref (b + 23)], A734)) rfl ?_
      refine rw_gf (v := .int (Int32.ofNat (rd_sk cs n (sb_re 97 122 cs n (rd_sk cs n p))))) h736 rfl rfl rfl rfl (rfl) rfl ?_
      have l741 := hlk (rd_sk cs n (sb_re 97 122 cs n (rd_sk cs n p)))
      refine wp_cv (A' := A734) (v := some (.int (Int32.ofNat (sb_lk cs n (rd_sk cs n (sb_re 97 122 cs n (rd_sk cs n p))))))) rfl rfl rfl rfl rfl (show _ from h736.1) (by omega) (rr_look (by omega) (show rf_tx (rf_u (rf_u (rf_u (rf_u s 40 0 (.int (Int32.ofNat (rg_R S + 1)))) 35 (96 + (rg_R S)) (.int (sb_i jn))) 32 (96 + (rg_R S)) (.int ((-1)))) 33 (96 + (rg_R S)) (.int (Int32.ofNat 0))) cs n from hx) h736) rfl ?_
      show am_wp d 151 (187, [some (.ref (b)), some (.int (sb_i jn)), some (.int (Int32.ofNat (96 + (rg_R S)))), none], [.int (Int32.ofNat (sb_lk cs n (rd_sk cs n (sb_re 97 122 cs n (rd_sk cs n p))))), .int (Int32.ofNat (96 + (rg_R S))), .ref (b + 23)], A734) _
      refine wp_st 1 (f' := (189, [some (.ref (b)), some (.int (sb_i jn)), some (.int (Int32.ofNat (96 + (rg_R S)))), none], [.int (Int32.ofNat 33), .int (Int32.ofNat (sb_lk cs n (rd_sk cs n (sb_re 97 122 cs n (rd_sk cs n p))))), .int (Int32.ofNat (96 + (rg_R S))), .ref (b + 23)], A734)) rfl ?_
      refine wp_if rfl rfl rfl (fun (h742 : (Int32.ofNat (sb_lk cs n (rd_sk cs n (sb_re 97 122 cs n (rd_sk cs n p))))) ≠ (Int32.ofNat 33)) => ?_) (fun (h742 : ¬ ((Int32.ofNat (sb_lk cs n (rd_sk cs n (sb_re 97 122 cs n (rd_sk cs n p))))) ≠ (Int32.ofNat 33))) => ?_)
      · skip
        rw [ne_eq, i32_eq (by omega) (by omega)] at h742
        refine wp_st 1 (f' := (197, [some (.ref (b)), some (.int (sb_i jn)), some (.int (Int32.ofNat (96 + (rg_R S)))), none], [.int (Int32.ofNat 0), .int (Int32.ofNat (96 + (rg_R S))), .ref (b + 23)], A734)) rfl ?_
        refine rw_as (j := 34) (n := 96 + (rg_R S)) (v := .int (sb_i false)) h736 rfl rfl rfl (Or.inr (Or.inr ⟨rfl, rfl, rfl⟩)) (show _ < 144 from by omega) (sb_narrow_z false) rfl (fun A743 h744 f745 => ?_)
        have f746 := f738.trans f745
        rw [rf_c_u (by decide)] at h744
        refine wp_st 2 (f' := (200, [some (.ref (b)), some (.int (sb_i jn)), some (.int (Int32.ofNat (96 + (rg_R S)))), none], [.ref (b), .ref (b)], A743)) rfl ?_
        refine rw_gr h744 rfl rfl rfl rfl rfl rfl ?_
        refine wp_st 1 (f' := (204, [some (.ref (b)), some (.int (sb_i jn)), some (.int (Int32.ofNat (96 + (rg_R S)))), none], [.int (Int32.ofNat (96 + (rg_R S))), .ref (b + 23), .ref (b)], A743)) rfl ?_
        refine rw_al (j := 34) (n := 96 + (rg_R S)) (v := .int (Int32.ofNat 0)) h744 rfl rfl rfl (Or.inr (Or.inr (Or.inr (Or.inl ⟨rfl, rfl⟩)))) rfl (show _ < 144 from by omega) (by rw [rf_c_ne (show 34 ≠ 17 ∧ 34 ≠ 18 ∧ 34 ≠ 28 ∧ 34 ≠ 29 by decide), rf_u_eq]; rfl) rfl ?_
        refine wp_izT rfl rfl (show (Int32.ofNat 0) = (Int32.ofNat 0) from by decide) ?_
        refine wp_st 1 (f' := (218, [some (.ref (b)), some (.int (sb_i jn)), some (.int (Int32.ofNat (96 + (rg_R S)))), none], [.ref (b), .ref (b)], A743)) rfl ?_
        refine rw_gf (v := .int (Int32.ofNat (rd_sk cs n (sb_re 97 122 cs n (rd_sk cs n p))))) h744 rfl rfl rfl rfl (rfl) rfl ?_
        refine rw_pf (v := .int (Int32.ofNat (rd_sk cs n (sb_re 97 122 cs n (rd_sk cs n p))))) h744 rfl rfl rfl rfl rfl rfl (fun A747 h748 f749 => ?_)
        have f750 := f746.trans f749
        rw [rf_c17] at h748
        refine wp_st 2 (f' := (227, [some (.ref (b)), some (.int (sb_i jn)), some (.int (Int32.ofNat (96 + (rg_R S)))), none], [.int (Int32.ofNat 61), .ref (b)], A747)) rfl ?_
        by_cases c751 : sb_lk cs n (rd_sk cs n (sb_re 97 122 cs n (rd_sk cs n p))) = 61
        · skip
          have c751p : rd_sk cs n (sb_re 97 122 cs n (rd_sk cs n p)) < n := sb_lk_pos (cs := cs) (by omega)
          obtain ⟨A752, g753, h754, f755⟩ := (show rf_go _ _ _ _ _ _ (rf_c (rf_u (rf_u (rf_u (rf_u (rf_u s 40 0 (.int (Int32.ofNat (rg_R S + 1)))) 35 (96 + (rg_R S)) (.int (sb_i jn))) 32 (96 + (rg_R S)) (.int ((-1)))) 33 (96 + (rg_R S)) (.int (Int32.ofNat 0))) 34 (96 + (rg_R S)) (.int (sb_i false))) (rd_sk cs n (sb_re 97 122 cs n (rd_sk cs n p)) + 1) (Int32.ofNat (rd_sk cs n p)) (Int64.ofNat N9) (rd_sk cs n p)) from by have e := rr_need (d := d - 1) (c := 61) (by omega) (by omega) (by omega) (show rf_tx (rf_u (rf_u (rf_u (rf_u (rf_u s 40 0 (.int (Int32.ofNat (rg_R S + 1)))) 35 (96 + (rg_R S)) (.int (sb_i jn))) 32 (96 + (rg_R S)) (.int ((-1)))) 33 (96 + (rg_R S)) (.int (Int32.ofNat 0))) 34 (96 + (rg_R S)) (.int (sb_i false))) cs n from hx) h748; rw [if_pos c751] at e; exact e)
          have f756 := f750.trans f755
          refine wp_cv (A' := A752) (v := none) rfl rfl rfl rfl rfl (show _ from h748.1) (by omega) (g753) rfl ?_
          show am_wp d 151 (230, [some (.ref (b)), some (.int (sb_i jn)), some (.int (Int32.ofNat (96 + (rg_R S)))), none], [], A752) _
          refine wp_st 1 (f' := (231, [some (.ref (b)), some (.int (sb_i jn)), some (.int (Int32.ofNat (96 + (rg_R S)))), none], [.ref (b)], A752)) rfl ?_
          refine rw_gr h754 rfl rfl rfl rfl rfl rfl ?_
          refine wp_st 3 (f' := (239, [some (.ref (b)), some (.int (sb_i jn)), some (.int (Int32.ofNat (96 + (rg_R S)))), none], [.ref (b), .int (Int32.ofNat 128), .int (Int32.ofNat (96 + (rg_R S))), .ref (b + 25)], A752)) rfl ?_
          refine rw_gf (v := .int (Int32.ofNat (rg_G S))) h754 rfl rfl rfl rfl (hs.2.1) rfl ?_
          refine wp_st 1 (f' := (243, [some (.ref (b)), some (.int (sb_i jn)), some (.int (Int32.ofNat (96 + (rg_R S)))), none], [.int ((Int32.ofNat 128) + (Int32.ofNat (rg_G S))), .int (Int32.ofNat (96 + (rg_R S))), .ref (b + 25)], A752)) rfl ?_
          rw [i32_add (128) (rg_G S)]
          refine rw_as (j := 36) (n := 96 + (rg_R S)) (v := .int (Int32.ofNat (128 + (rg_G S)))) h754 rfl rfl rfl (Or.inl ⟨rfl, rfl, rfl⟩) (show _ < 144 from by omega) rfl rfl (fun A757 h758 f759 => ?_)
          have f760 := f756.trans f759
          rw [rf_c_u (by decide)] at h758
          refine wp_st 1 (f' := (245, [some (.ref (b)), some (.int (sb_i jn)), some (.int (Int32.ofNat (96 + (rg_R S)))), none], [.ref (b)], A757)) rfl ?_
          refine rw_gr h758 rfl rfl rfl rfl rfl rfl ?_
          refine wp_st 2 (f' := (250, [some (.ref (b)), some (.int (sb_i jn)), some (.int (Int32.ofNat (96 + (rg_R S)))), none], [.int (Int32.ofNat 0), .int (Int32.ofNat (96 + (rg_R S))), .ref (b + 26)], A757)) rfl ?_
          refine rw_as (j := 37) (n := 96 + (rg_R S)) (v := .int (Int32.ofNat 0)) h758 rfl rfl rfl (Or.inl ⟨rfl, rfl, rfl⟩) (show _ < 144 from by omega) rfl rfl (fun A761 h762 f763 => ?_)
          have f764 := f760.trans f763
          rw [rf_c_u (by decide)] at h762
          refine wp_st 2 (f' := (253, [some (.ref (b)), some (.int (sb_i jn)), some (.int (Int32.ofNat (96 + (rg_R S)))), some (.int (Int32.ofNat 1))], [], A761)) rfl ?_
          refine wp_st 1 (f' := (254, [some (.ref (b)), some (.int (sb_i jn)), some (.int (Int32.ofNat (96 + (rg_R S)))), some (.int (Int32.ofNat 1))], [.int (Int32.ofNat 1)], A761)) rfl ?_
          refine wp_izF rfl rfl (show ¬ ((Int32.ofNat 1) = (Int32.ofNat 0)) from by decide) ?_
          refine wp_st 1 (f' := (258, [some (.ref (b)), some (.int (sb_i jn)), some (.int (Int32.ofNat (96 + (rg_R S)))), some (.int (Int32.ofNat 1))], [.ref (b)], A761)) rfl ?_
          refine rw_gf (v := .int (Int32.ofNat (rd_sk cs n p))) h762 rfl rfl rfl rfl (rfl) rfl ?_
          refine wp_izT rfl rfl (show Int32.ofNat 0 ≤ (Int32.ofNat (rd_sk cs n p)) from Int32.not_lt.mp (Int32.ofNat_not_neg (by omega))) ?_
          refine wp_rt rfl rfl rfl ?_
          have hres : ru_rel cs n (!jn) p S = .error (rd_sk cs n p) := by simp [ru_rel, ru_rel2, ru_mod, hop, h740, h742, c751]
          rw [hres]
          exact rq_Q_er (k := rg_R S + 1) h762 (by simp only [rf_u_if]; simp) (by omega) (by omega) ((((((((rs_X.refl s).u (by unfold rs_sc; omega)).u (by unfold rs_sc; omega)).u (by unfold rs_sc; omega)).u (by unfold rs_sc; omega)).u (by unfold rs_sc; omega)).u (by unfold rs_sc; omega)).u (by unfold rs_sc; omega)) f764
        · skip
          obtain ⟨A765, g766, h767, f768⟩ := (show rf_go _ _ _ _ _ _ (rf_c (rf_u (rf_u (rf_u (rf_u (rf_u s 40 0 (.int (Int32.ofNat (rg_R S + 1)))) 35 (96 + (rg_R S)) (.int (sb_i jn))) 32 (96 + (rg_R S)) (.int ((-1)))) 33 (96 + (rg_R S)) (.int (Int32.ofNat 0))) 34 (96 + (rg_R S)) (.int (sb_i false))) (rd_sk cs n (sb_re 97 122 cs n (rd_sk cs n p)) + 1) (Int32.ofNat (rd_sk cs n p)) (Int64.ofNat N9) (rd_sk cs n p)) from by have e := rr_need (d := d - 1) (c := 61) (by omega) (by omega) (by omega) (show rf_tx (rf_u (rf_u (rf_u (rf_u (rf_u s 40 0 (.int (Int32.ofNat (rg_R S + 1)))) 35 (96 + (rg_R S)) (.int (sb_i jn))) 32 (96 + (rg_R S)) (.int ((-1)))) 33 (96 + (rg_R S)) (.int (Int32.ofNat 0))) 34 (96 + (rg_R S)) (.int (sb_i false))) cs n from hx) h748; rw [if_neg c751, rf_w_n (by omega)] at e; exact e)
          have f769 := f750.trans f768
          refine wp_cv (A' := A765) (v := none) rfl rfl rfl rfl rfl (show _ from h748.1) (by omega) (g766) rfl ?_
          show am_wp d 151 (230, [some (.ref (b)), some (.int (sb_i jn)), some (.int (Int32.ofNat (96 + (rg_R S)))), none], [], A765) _
          refine wp_st 1 (f' := (231, [some (.ref (b)), some (.int (sb_i jn)), some (.int (Int32.ofNat (96 + (rg_R S)))), none], [.ref (b)], A765)) rfl ?_
          refine rw_gr h767 rfl rfl rfl rfl rfl rfl ?_
          refine wp_st 3 (f' := (239, [some (.ref (b)), some (.int (sb_i jn)), some (.int (Int32.ofNat (96 + (rg_R S)))), none], [.ref (b), .int (Int32.ofNat 128), .int (Int32.ofNat (96 + (rg_R S))), .ref (b + 25)], A765)) rfl ?_
          refine rw_gf (v := .int (Int32.ofNat (rg_G S))) h767 rfl rfl rfl rfl (hs.2.1) rfl ?_
          refine wp_st 1 (f' := (243, [some (.ref (b)), some (.int (sb_i jn)), some (.int (Int32.ofNat (96 + (rg_R S)))), none], [.int ((Int32.ofNat 128) + (Int32.ofNat (rg_G S))), .int (Int32.ofNat (96 + (rg_R S))), .ref (b + 25)], A765)) rfl ?_
          rw [i32_add (128) (rg_G S)]
          refine rw_as (j := 36) (n := 96 + (rg_R S)) (v := .int (Int32.ofNat (128 + (rg_G S)))) h767 rfl rfl rfl (Or.inl ⟨rfl, rfl, rfl⟩) (show _ < 144 from by omega) rfl rfl (fun A770 h771 f772 => ?_)
          have f773 := f769.trans f772
          rw [rf_c_u (by decide)] at h771
          refine wp_st 1 (f' := (245, [some (.ref (b)), some (.int (sb_i jn)), some (.int (Int32.ofNat (96 + (rg_R S)))), none], [.ref (b)], A770)) rfl ?_
          refine rw_gr h771 rfl rfl rfl rfl rfl rfl ?_
          refine wp_st 2 (f' := (250, [some (.ref (b)), some (.int (sb_i jn)), some (.int (Int32.ofNat (96 + (rg_R S)))), none], [.int (Int32.ofNat 0), .int (Int32.ofNat (96 + (rg_R S))), .ref (b + 26)], A770)) rfl ?_
          refine rw_as (j := 37) (n := 96 + (rg_R S)) (v := .int (Int32.ofNat 0)) h771 rfl rfl rfl (Or.inl ⟨rfl, rfl, rfl⟩) (show _ < 144 from by omega) rfl rfl (fun A774 h775 f776 => ?_)
          have f777 := f773.trans f776
          rw [rf_c_u (by decide)] at h775
          refine wp_st 2 (f' := (253, [some (.ref (b)), some (.int (sb_i jn)), some (.int (Int32.ofNat (96 + (rg_R S)))), some (.int (Int32.ofNat 1))], [], A774)) rfl ?_
          refine wp_st 1 (f' := (254, [some (.ref (b)), some (.int (sb_i jn)), some (.int (Int32.ofNat (96 + (rg_R S)))), some (.int (Int32.ofNat 1))], [.int (Int32.ofNat 1)], A774)) rfl ?_
          refine wp_izF rfl rfl (show ¬ ((Int32.ofNat 1) = (Int32.ofNat 0)) from by decide) ?_
          refine wp_st 1 (f' := (258, [some (.ref (b)), some (.int (sb_i jn)), some (.int (Int32.ofNat (96 + (rg_R S)))), some (.int (Int32.ofNat 1))], [.ref (b)], A774)) rfl ?_
          refine rw_gf (v := .int (Int32.ofNat (rd_sk cs n p))) h775 rfl rfl rfl rfl (rfl) rfl ?_
          refine wp_izT rfl rfl (show Int32.ofNat 0 ≤ (Int32.ofNat (rd_sk cs n p)) from Int32.not_lt.mp (Int32.ofNat_not_neg (by omega))) ?_
          refine wp_rt rfl rfl rfl ?_
          have hres : ru_rel cs n (!jn) p S = .error (rd_sk cs n p) := by simp [ru_rel, ru_rel2, ru_mod, hop, h740, h742, c751]
          rw [hres]
          exact rq_Q_er (k := rg_R S + 1) h775 (by simp only [rf_u_if]; simp) (by omega) (by omega) ((((((((rs_X.refl s).u (by unfold rs_sc; omega)).u (by unfold rs_sc; omega)).u (by unfold rs_sc; omega)).u (by unfold rs_sc; omega)).u (by unfold rs_sc; omega)).u (by unfold rs_sc; omega)).u (by unfold rs_sc; omega)) f777
      · skip
        rw [ne_eq, i32_eq (by omega) (by omega)] at h742
        replace h742 := Decidable.not_not.mp h742
        have h742p : rd_sk cs n (sb_re 97 122 cs n (rd_sk cs n p)) < n := sb_lk_pos (cs := cs) (by omega)
        refine wp_st 2 (f' := (197, [some (.ref (b)), some (.int (sb_i jn)), some (.int (Int32.ofNat (96 + (rg_R S)))), none], [.int (Int32.ofNat 1), .int (Int32.ofNat (96 + (rg_R S))), .ref (b + 23)], A734)) rfl ?_
        refine rw_as (j := 34) (n := 96 + (rg_R S)) (v := .int (sb_i true)) h736 rfl rfl rfl (Or.inr (Or.inr ⟨rfl, rfl, rfl⟩)) (show _ < 144 from by omega) (sb_narrow_z true) rfl (fun A778 h779 f780 => ?_)
        have f781 := f738.trans f780
        rw [rf_c_u (by decide)] at h779
        refine wp_st 2 (f' := (200, [some (.ref (b)), some (.int (sb_i jn)), some (.int (Int32.ofNat (96 + (rg_R S)))), none], [.ref (b), .ref (b)], A778)) rfl ?_
        refine rw_gr h779 rfl rfl rfl rfl rfl rfl ?_
        refine wp_st 1 (f' := (204, [some (.ref (b)), some (.int (sb_i jn)), some (.int (Int32.ofNat (96 + (rg_R S)))), none], [.int (Int32.ofNat (96 + (rg_R S))), .ref (b + 23), .ref (b)], A778)) rfl ?_
        refine rw_al (j := 34) (n := 96 + (rg_R S)) (v := .int (Int32.ofNat 1)) h779 rfl rfl rfl (Or.inr (Or.inr (Or.inr (Or.inl ⟨rfl, rfl⟩)))) rfl (show _ < 144 from by omega) (by rw [rf_c_ne (show 34 ≠ 17 ∧ 34 ≠ 18 ∧ 34 ≠ 28 ∧ 34 ≠ 29 by decide), rf_u_eq]; rfl) rfl ?_
        refine wp_izF rfl rfl (show ¬ ((Int32.ofNat 1) = (Int32.ofNat 0)) from by decide) ?_
        refine wp_st 1 (f' := (209, [some (.ref (b)), some (.int (sb_i jn)), some (.int (Int32.ofNat (96 + (rg_R S)))), none], [.ref (b), .ref (b)], A778)) rfl ?_
        refine rw_gf (v := .int (Int32.ofNat (rd_sk cs n (sb_re 97 122 cs n (rd_sk cs n p))))) h779 rfl rfl rfl rfl (rfl) rfl ?_
        refine wp_st 2 (f' := (214, [some (.ref (b)), some (.int (sb_i jn)), some (.int (Int32.ofNat (96 + (rg_R S)))), none], [.int ((Int32.ofNat (rd_sk cs n (sb_re 97 122 cs n (rd_sk cs n p)))) + (Int32.ofNat 1)), .ref (b)], A778)) rfl ?_
        rw [i32_add (rd_sk cs n (sb_re 97 122 cs n (rd_sk cs n p))) (1)]
        refine wp_st 1 (f' := (221, [some (.ref (b)), some (.int (sb_i jn)), some (.int (Int32.ofNat (96 + (rg_R S)))), none], [.int (Int32.ofNat (rd_sk cs n (sb_re 97 122 cs n (rd_sk cs n p)) + 1)), .ref (b)], A778)) rfl ?_
        refine rw_pf (v := .int (Int32.ofNat (rd_sk cs n (sb_re 97 122 cs n (rd_sk cs n p)) + 1))) h779 rfl rfl rfl rfl rfl rfl (fun A782 h783 f784 => ?_)
        have f785 := f781.trans f784
        rw [rf_c17] at h783
        refine wp_st 2 (f' := (227, [some (.ref (b)), some (.int (sb_i jn)), some (.int (Int32.ofNat (96 + (rg_R S)))), none], [.int (Int32.ofNat 61), .ref (b)], A782)) rfl ?_
        by_cases c786 : sb_lk cs n (rd_sk cs n (sb_re 97 122 cs n (rd_sk cs n p)) + 1) = 61
        · skip
          have c786p : rd_sk cs n (sb_re 97 122 cs n (rd_sk cs n p)) + 1 < n := sb_lk_pos (cs := cs) (by omega)
          obtain ⟨A787, g788, h789, f790⟩ := (show rf_go _ _ _ _ _ _ (rf_c (rf_u (rf_u (rf_u (rf_u (rf_u s 40 0 (.int (Int32.ofNat (rg_R S + 1)))) 35 (96 + (rg_R S)) (.int (sb_i jn))) 32 (96 + (rg_R S)) (.int ((-1)))) 33 (96 + (rg_R S)) (.int (Int32.ofNat 0))) 34 (96 + (rg_R S)) (.int (sb_i true))) (rd_sk cs n (sb_re 97 122 cs n (rd_sk cs n p)) + 1 + 1) (Int32.ofNat (rd_sk cs n p)) (Int64.ofNat N9) (rd_sk cs n p)) from by have e := rr_need (d := d - 1) (c := 61) (by omega) (by omega) (by omega) (show rf_tx (rf_u (rf_u (rf_u (rf_u (rf_u s 40 0 (.int (Int32.ofNat (rg_R S + 1)))) 35 (96 + (rg_R S)) (.int (sb_i jn))) 32 (96 + (rg_R S)) (.int ((-1)))) 33 (96 + (rg_R S)) (.int (Int32.ofNat 0))) 34 (96 + (rg_R S)) (.int (sb_i true))) cs n from hx) h783; rw [if_pos c786] at e; exact e)
          have f791 := f785.trans f790
          refine wp_cv (A' := A787) (v := none) rfl rfl rfl rfl rfl (show _ from h783.1) (by omega) (g788) rfl ?_
          show am_wp d 151 (230, [some (.ref (b)), some (.int (sb_i jn)), some (.int (Int32.ofNat (96 + (rg_R S)))), none], [], A787) _
          refine wp_st 1 (f' := (231, [some (.ref (b)), some (.int (sb_i jn)), some (.int (Int32.ofNat (96 + (rg_R S)))), none], [.ref (b)], A787)) rfl ?_
          refine rw_gr h789 rfl rfl rfl rfl rfl rfl ?_
          refine wp_st 3 (f' := (239, [some (.ref (b)), some (.int (sb_i jn)), some (.int (Int32.ofNat (96 + (rg_R S)))), none], [.ref (b), .int (Int32.ofNat 128), .int (Int32.ofNat (96 + (rg_R S))), .ref (b + 25)], A787)) rfl ?_
          refine rw_gf (v := .int (Int32.ofNat (rg_G S))) h789 rfl rfl rfl rfl (hs.2.1) rfl ?_
          refine wp_st 1 (f' := (243, [some (.ref (b)), some (.int (sb_i jn)), some (.int (Int32.ofNat (96 + (rg_R S)))), none], [.int ((Int32.ofNat 128) + (Int32.ofNat (rg_G S))), .int (Int32.ofNat (96 + (rg_R S))), .ref (b + 25)], A787)) rfl ?_
          rw [i32_add (128) (rg_G S)]
          refine rw_as (j := 36) (n := 96 + (rg_R S)) (v := .int (Int32.ofNat (128 + (rg_G S)))) h789 rfl rfl rfl (Or.inl ⟨rfl, rfl, rfl⟩) (show _ < 144 from by omega) rfl rfl (fun A792 h793 f794 => ?_)
          have f795 := f791.trans f794
          rw [rf_c_u (by decide)] at h793
          refine wp_st 1 (f' := (245, [some (.ref (b)), some (.int (sb_i jn)), some (.int (Int32.ofNat (96 + (rg_R S)))), none], [.ref (b)], A792)) rfl ?_
          refine rw_gr h793 rfl rfl rfl rfl rfl rfl ?_
          refine wp_st 2 (f' := (250, [some (.ref (b)), some (.int (sb_i jn)), some (.int (Int32.ofNat (96 + (rg_R S)))), none], [.int (Int32.ofNat 0), .int (Int32.ofNat (96 + (rg_R S))), .ref (b + 26)], A792)) rfl ?_
          refine rw_as (j := 37) (n := 96 + (rg_R S)) (v := .int (Int32.ofNat 0)) h793 rfl rfl rfl (Or.inl ⟨rfl, rfl, rfl⟩) (show _ < 144 from by omega) rfl rfl (fun A796 h797 f798 => ?_)
          have f799 := f795.trans f798
          rw [rf_c_u (by decide)] at h797
          refine wp_st 2 (f' := (253, [some (.ref (b)), some (.int (sb_i jn)), some (.int (Int32.ofNat (96 + (rg_R S)))), some (.int (Int32.ofNat 1))], [], A796)) rfl ?_
          refine wp_st 1 (f' := (254, [some (.ref (b)), some (.int (sb_i jn)), some (.int (Int32.ofNat (96 + (rg_R S)))), some (.int (Int32.ofNat 1))], [.int (Int32.ofNat 1)], A796)) rfl ?_
          refine wp_izF rfl rfl (show ¬ ((Int32.ofNat 1) = (Int32.ofNat 0)) from by decide) ?_
          refine wp_st 1 (f' := (258, [some (.ref (b)), some (.int (sb_i jn)), some (.int (Int32.ofNat (96 + (rg_R S)))), some (.int (Int32.ofNat 1))], [.ref (b)], A796)) rfl ?_
          refine rw_gf (v := .int (Int32.ofNat (rd_sk cs n p))) h797 rfl rfl rfl rfl (rfl) rfl ?_
          refine wp_izT rfl rfl (show Int32.ofNat 0 ≤ (Int32.ofNat (rd_sk cs n p)) from Int32.not_lt.mp (Int32.ofNat_not_neg (by omega))) ?_
          refine wp_rt rfl rfl rfl ?_
          have hres : ru_rel cs n (!jn) p S = .error (rd_sk cs n p) := by simp [ru_rel, ru_rel2, ru_mod, hop, h740, h742, c786]
          rw [hres]
          exact rq_Q_er (k := rg_R S + 1) h797 (by simp only [rf_u_if]; simp) (by omega) (by omega) ((((((((rs_X.refl s).u (by unfold rs_sc; omega)).u (by unfold rs_sc; omega)).u (by unfold rs_sc; omega)).u (by unfold rs_sc; omega)).u (by unfold rs_sc; omega)).u (by unfold rs_sc; omega)).u (by unfold rs_sc; omega)) f799
        · skip
          obtain ⟨A800, g801, h802, f803⟩ := (show rf_go _ _ _ _ _ _ (rf_c (rf_u (rf_u (rf_u (rf_u (rf_u s 40 0 (.int (Int32.ofNat (rg_R S + 1)))) 35 (96 + (rg_R S)) (.int (sb_i jn))) 32 (96 + (rg_R S)) (.int ((-1)))) 33 (96 + (rg_R S)) (.int (Int32.ofNat 0))) 34 (96 + (rg_R S)) (.int (sb_i true))) (rd_sk cs n (sb_re 97 122 cs n (rd_sk cs n p)) + 1 + 1) (Int32.ofNat (rd_sk cs n p)) (Int64.ofNat N9) (rd_sk cs n p)) from by have e := rr_need (d := d - 1) (c := 61) (by omega) (by omega) (by omega) (show rf_tx (rf_u (rf_u (rf_u (rf_u (rf_u s 40 0 (.int (Int32.ofNat (rg_R S + 1)))) 35 (96 + (rg_R S)) (.int (sb_i jn))) 32 (96 + (rg_R S)) (.int ((-1)))) 33 (96 + (rg_R S)) (.int (Int32.ofNat 0))) 34 (96 + (rg_R S)) (.int (sb_i true))) cs n from hx) h783; rw [if_neg c786, rf_w_n (by omega)] at e; exact e)
          have f804 := f785.trans f803
          refine wp_cv (A' := A800) (v := none) rfl rfl rfl rfl rfl (show _ from h783.1) (by omega) (g801) rfl ?_
          show am_wp d 151 (230, [some (.ref (b)), some (.int (sb_i jn)), some (.int (Int32.ofNat (96 + (rg_R S)))), none], [], A800) _
          refine wp_st 1 (f' := (231, [some (.ref (b)), some (.int (sb_i jn)), some (.int (Int32.ofNat (96 + (rg_R S)))), none], [.ref (b)], A800)) rfl ?_
          refine rw_gr h802 rfl rfl rfl rfl rfl rfl ?_
          refine wp_st 3 (f' := (239, [some (.ref (b)), some (.int (sb_i jn)), some (.int (Int32.ofNat (96 + (rg_R S)))), none], [.ref (b), .int (Int32.ofNat 128), .int (Int32.ofNat (96 + (rg_R S))), .ref (b + 25)], A800)) rfl ?_
          refine rw_gf (v := .int (Int32.ofNat (rg_G S))) h802 rfl rfl rfl rfl (hs.2.1) rfl ?_
          refine wp_st 1 (f' := (243, [some (.ref (b)), some (.int (sb_i jn)), some (.int (Int32.ofNat (96 + (rg_R S)))), none], [.int ((Int32.ofNat 128) + (Int32.ofNat (rg_G S))), .int (Int32.ofNat (96 + (rg_R S))), .ref (b + 25)], A800)) rfl ?_
          rw [i32_add (128) (rg_G S)]
          refine rw_as (j := 36) (n := 96 + (rg_R S)) (v := .int (Int32.ofNat (128 + (rg_G S)))) h802 rfl rfl rfl (Or.inl ⟨rfl, rfl, rfl⟩) (show _ < 144 from by omega) rfl rfl (fun A805 h806 f807 => ?_)
          have f808 := f804.trans f807
          rw [rf_c_u (by decide)] at h806
          refine wp_st 1 (f' := (245, [some (.ref (b)), some (.int (sb_i jn)), some (.int (Int32.ofNat (96 + (rg_R S)))), none], [.ref (b)], A805)) rfl ?_
          refine rw_gr h806 rfl rfl rfl rfl rfl rfl ?_
          refine wp_st 2 (f' := (250, [some (.ref (b)), some (.int (sb_i jn)), some (.int (Int32.ofNat (96 + (rg_R S)))), none], [.int (Int32.ofNat 0), .int (Int32.ofNat (96 + (rg_R S))), .ref (b + 26)], A805)) rfl ?_
          refine rw_as (j := 37) (n := 96 + (rg_R S)) (v := .int (Int32.ofNat 0)) h806 rfl rfl rfl (Or.inl ⟨rfl, rfl, rfl⟩) (show _ < 144 from by omega) rfl rfl (fun A809 h810 f811 => ?_)
          have f812 := f808.trans f811
          rw [rf_c_u (by decide)] at h810
          refine wp_st 2 (f' := (253, [some (.ref (b)), some (.int (sb_i jn)), some (.int (Int32.ofNat (96 + (rg_R S)))), some (.int (Int32.ofNat 1))], [], A809)) rfl ?_
          refine wp_st 1 (f' := (254, [some (.ref (b)), some (.int (sb_i jn)), some (.int (Int32.ofNat (96 + (rg_R S)))), some (.int (Int32.ofNat 1))], [.int (Int32.ofNat 1)], A809)) rfl ?_
          refine wp_izF rfl rfl (show ¬ ((Int32.ofNat 1) = (Int32.ofNat 0)) from by decide) ?_
          refine wp_st 1 (f' := (258, [some (.ref (b)), some (.int (sb_i jn)), some (.int (Int32.ofNat (96 + (rg_R S)))), some (.int (Int32.ofNat 1))], [.ref (b)], A809)) rfl ?_
          refine rw_gf (v := .int (Int32.ofNat (rd_sk cs n p))) h810 rfl rfl rfl rfl (rfl) rfl ?_
          refine wp_izT rfl rfl (show Int32.ofNat 0 ≤ (Int32.ofNat (rd_sk cs n p)) from Int32.not_lt.mp (Int32.ofNat_not_neg (by omega))) ?_
          refine wp_rt rfl rfl rfl ?_
          have hres : ru_rel cs n (!jn) p S = .error (rd_sk cs n p) := by simp [ru_rel, ru_rel2, ru_mod, hop, h740, h742, c786]
          rw [hres]
          exact rq_Q_er (k := rg_R S + 1) h810 (by simp only [rf_u_if]; simp) (by omega) (by omega) ((((((((rs_X.refl s).u (by unfold rs_sc; omega)).u (by unfold rs_sc; omega)).u (by unfold rs_sc; omega)).u (by unfold rs_sc; omega)).u (by unfold rs_sc; omega)).u (by unfold rs_sc; omega)).u (by unfold rs_sc; omega)) f812
    · skip
      rw [ne_eq, i32_eq (by omega) (by omega)] at h740
      replace h740 := Decidable.not_not.mp h740
      have h740p : rd_sk cs n (sb_re 97 122 cs n (rd_sk cs n p)) < n := sb_lk_pos (cs := cs) (by omega)
      refine wp_st 1 (f' := (111, [some (.ref (b)), some (.int (sb_i jn)), some (.int (Int32.ofNat (96 + (rg_R S)))), none], [.ref (b)], A734)) rfl ?_
      refine rw_gf (v := .int (Int32.ofNat (rd_sk cs n p))) h736 rfl rfl rfl rfl (rfl) rfl ?_
      refine wp_izT rfl rfl (show Int32.ofNat 0 ≤ (Int32.ofNat (rd_sk cs n p)) from Int32.not_lt.mp (Int32.ofNat_not_neg (by omega))) ?_
      refine wp_st 1 (f' := (175, [some (.ref (b)), some (.int (sb_i jn)), some (.int (Int32.ofNat (96 + (rg_R S)))), none], [.ref (b)], A734)) rfl ?_
      refine rw_gr h736 rfl rfl rfl rfl rfl rfl ?_
      refine wp_st 3 (f' := (181, [some (.ref (b)), some (.int (sb_i jn)), some (.int (Int32.ofNat (96 + (rg_R S)))), none], [.ref (b), .ref (b), .int (Int32.ofNat (96 + (rg_R S))), .ref (b + 23)], A734)) rfl ?_
      refine rw_gf (v := .int (Int32.ofNat (rd_sk cs n (sb_re 97 122 cs n (rd_sk cs n p))))) h736 rfl rfl rfl rfl (rfl) rfl ?_
      have l813 := hlk (rd_sk cs n (sb_re 97 122 cs n (rd_sk cs n p)))
      refine wp_cv (A' := A734) (v := some (.int (Int32.ofNat (sb_lk cs n (rd_sk cs n (sb_re 97 122 cs n (rd_sk cs n p))))))) rfl rfl rfl rfl rfl (show _ from h736.1) (by omega) (rr_look (by omega) (show rf_tx (rf_u (rf_u (rf_u (rf_u s 40 0 (.int (Int32.ofNat (rg_R S + 1)))) 35 (96 + (rg_R S)) (.int (sb_i jn))) 32 (96 + (rg_R S)) (.int ((-1)))) 33 (96 + (rg_R S)) (.int (Int32.ofNat 0))) cs n from hx) h736) rfl ?_
      show am_wp d 151 (187, [some (.ref (b)), some (.int (sb_i jn)), some (.int (Int32.ofNat (96 + (rg_R S)))), none], [.int (Int32.ofNat (sb_lk cs n (rd_sk cs n (sb_re 97 122 cs n (rd_sk cs n p))))), .int (Int32.ofNat (96 + (rg_R S))), .ref (b + 23)], A734) _
      refine wp_st 1 (f' := (189, [some (.ref (b)), some (.int (sb_i jn)), some (.int (Int32.ofNat (96 + (rg_R S)))), none], [.int (Int32.ofNat 33), .int (Int32.ofNat (sb_lk cs n (rd_sk cs n (sb_re 97 122 cs n (rd_sk cs n p))))), .int (Int32.ofNat (96 + (rg_R S))), .ref (b + 23)], A734)) rfl ?_
      refine wp_if rfl rfl rfl (fun (h814 : (Int32.ofNat (sb_lk cs n (rd_sk cs n (sb_re 97 122 cs n (rd_sk cs n p))))) ≠ (Int32.ofNat 33)) => ?_) (fun (h814 : ¬ ((Int32.ofNat (sb_lk cs n (rd_sk cs n (sb_re 97 122 cs n (rd_sk cs n p))))) ≠ (Int32.ofNat 33))) => ?_)
      · skip
        rw [ne_eq, i32_eq (by omega) (by omega)] at h814
        refine wp_st 1 (f' := (197, [some (.ref (b)), some (.int (sb_i jn)), some (.int (Int32.ofNat (96 + (rg_R S)))), none], [.int (Int32.ofNat 0), .int (Int32.ofNat (96 + (rg_R S))), .ref (b + 23)], A734)) rfl ?_
        refine rw_as (j := 34) (n := 96 + (rg_R S)) (v := .int (sb_i false)) h736 rfl rfl rfl (Or.inr (Or.inr ⟨rfl, rfl, rfl⟩)) (show _ < 144 from by omega) (sb_narrow_z false) rfl (fun A815 h816 f817 => ?_)
        have f818 := f738.trans f817
        rw [rf_c_u (by decide)] at h816
        refine wp_st 2 (f' := (200, [some (.ref (b)), some (.int (sb_i jn)), some (.int (Int32.ofNat (96 + (rg_R S)))), none], [.ref (b), .ref (b)], A815)) rfl ?_
        refine rw_gr h816 rfl rfl rfl rfl rfl rfl ?_
        refine wp_st 1 (f' := (204, [some (.ref (b)), some (.int (sb_i jn)), some (.int (Int32.ofNat (96 + (rg_R S)))), none], [.int (Int32.ofNat (96 + (rg_R S))), .ref (b + 23), .ref (b)], A815)) rfl ?_
        refine rw_al (j := 34) (n := 96 + (rg_R S)) (v := .int (Int32.ofNat 0)) h816 rfl rfl rfl (Or.inr (Or.inr (Or.inr (Or.inl ⟨rfl, rfl⟩)))) rfl (show _ < 144 from by omega) (by rw [rf_c_ne (show 34 ≠ 17 ∧ 34 ≠ 18 ∧ 34 ≠ 28 ∧ 34 ≠ 29 by decide), rf_u_eq]; rfl) rfl ?_
        refine wp_izT rfl rfl (show (Int32.ofNat 0) = (Int32.ofNat 0) from by decide) ?_
        refine wp_st 1 (f' := (218, [some (.ref (b)), some (.int (sb_i jn)), some (.int (Int32.ofNat (96 + (rg_R S)))), none], [.ref (b), .ref (b)], A815)) rfl ?_
        refine rw_gf (v := .int (Int32.ofNat (rd_sk cs n (sb_re 97 122 cs n (rd_sk cs n p))))) h816 rfl rfl rfl rfl (rfl) rfl ?_
        refine rw_pf (v := .int (Int32.ofNat (rd_sk cs n (sb_re 97 122 cs n (rd_sk cs n p))))) h816 rfl rfl rfl rfl rfl rfl (fun A819 h820 f821 => ?_)
        have f822 := f818.trans f821
        rw [rf_c17] at h820
        refine wp_st 2 (f' := (227, [some (.ref (b)), some (.int (sb_i jn)), some (.int (Int32.ofNat (96 + (rg_R S)))), none], [.int (Int32.ofNat 61), .ref (b)], A819)) rfl ?_
        by_cases c823 : sb_lk cs n (rd_sk cs n (sb_re 97 122 cs n (rd_sk cs n p))) = 61
        · skip
          have c823p : rd_sk cs n (sb_re 97 122 cs n (rd_sk cs n p)) < n := sb_lk_pos (cs := cs) (by omega)
          obtain ⟨A824, g825, h826, f827⟩ := (show rf_go _ _ _ _ _ _ (rf_c (rf_u (rf_u (rf_u (rf_u (rf_u s 40 0 (.int (Int32.ofNat (rg_R S + 1)))) 35 (96 + (rg_R S)) (.int (sb_i jn))) 32 (96 + (rg_R S)) (.int ((-1)))) 33 (96 + (rg_R S)) (.int (Int32.ofNat 0))) 34 (96 + (rg_R S)) (.int (sb_i false))) (rd_sk cs n (sb_re 97 122 cs n (rd_sk cs n p)) + 1) (Int32.ofNat (rd_sk cs n p)) (Int64.ofNat N9) (rd_sk cs n p)) from by have e := rr_need (d := d - 1) (c := 61) (by omega) (by omega) (by omega) (show rf_tx (rf_u (rf_u (rf_u (rf_u (rf_u s 40 0 (.int (Int32.ofNat (rg_R S + 1)))) 35 (96 + (rg_R S)) (.int (sb_i jn))) 32 (96 + (rg_R S)) (.int ((-1)))) 33 (96 + (rg_R S)) (.int (Int32.ofNat 0))) 34 (96 + (rg_R S)) (.int (sb_i false))) cs n from hx) h820; rw [if_pos c823] at e; exact e)
          have f828 := f822.trans f827
          refine wp_cv (A' := A824) (v := none) rfl rfl rfl rfl rfl (show _ from h820.1) (by omega) (g825) rfl ?_
          show am_wp d 151 (230, [some (.ref (b)), some (.int (sb_i jn)), some (.int (Int32.ofNat (96 + (rg_R S)))), none], [], A824) _
          refine wp_st 1 (f' := (231, [some (.ref (b)), some (.int (sb_i jn)), some (.int (Int32.ofNat (96 + (rg_R S)))), none], [.ref (b)], A824)) rfl ?_
          refine rw_gr h826 rfl rfl rfl rfl rfl rfl ?_
          refine wp_st 3 (f' := (239, [some (.ref (b)), some (.int (sb_i jn)), some (.int (Int32.ofNat (96 + (rg_R S)))), none], [.ref (b), .int (Int32.ofNat 128), .int (Int32.ofNat (96 + (rg_R S))), .ref (b + 25)], A824)) rfl ?_
          refine rw_gf (v := .int (Int32.ofNat (rg_G S))) h826 rfl rfl rfl rfl (hs.2.1) rfl ?_
          refine wp_st 1 (f' := (243, [some (.ref (b)), some (.int (sb_i jn)), some (.int (Int32.ofNat (96 + (rg_R S)))), none], [.int ((Int32.ofNat 128) + (Int32.ofNat (rg_G S))), .int (Int32.ofNat (96 + (rg_R S))), .ref (b + 25)], A824)) rfl ?_
          rw [i32_add (128) (rg_G S)]
          refine rw_as (j := 36) (n := 96 + (rg_R S)) (v := .int (Int32.ofNat (128 + (rg_G S)))) h826 rfl rfl rfl (Or.inl ⟨rfl, rfl, rfl⟩) (show _ < 144 from by omega) rfl rfl (fun A829 h830 f831 => ?_)
          have f832 := f828.trans f831
          rw [rf_c_u (by decide)] at h830
          refine wp_st 1 (f' := (245, [some (.ref (b)), some (.int (sb_i jn)), some (.int (Int32.ofNat (96 + (rg_R S)))), none], [.ref (b)], A829)) rfl ?_
          refine rw_gr h830 rfl rfl rfl rfl rfl rfl ?_
          refine wp_st 2 (f' := (250, [some (.ref (b)), some (.int (sb_i jn)), some (.int (Int32.ofNat (96 + (rg_R S)))), none], [.int (Int32.ofNat 0), .int (Int32.ofNat (96 + (rg_R S))), .ref (b + 26)], A829)) rfl ?_
          refine rw_as (j := 37) (n := 96 + (rg_R S)) (v := .int (Int32.ofNat 0)) h830 rfl rfl rfl (Or.inl ⟨rfl, rfl, rfl⟩) (show _ < 144 from by omega) rfl rfl (fun A833 h834 f835 => ?_)
          have f836 := f832.trans f835
          rw [rf_c_u (by decide)] at h834
          refine wp_st 2 (f' := (253, [some (.ref (b)), some (.int (sb_i jn)), some (.int (Int32.ofNat (96 + (rg_R S)))), some (.int (Int32.ofNat 1))], [], A833)) rfl ?_
          refine wp_st 1 (f' := (254, [some (.ref (b)), some (.int (sb_i jn)), some (.int (Int32.ofNat (96 + (rg_R S)))), some (.int (Int32.ofNat 1))], [.int (Int32.ofNat 1)], A833)) rfl ?_
          refine wp_izF rfl rfl (show ¬ ((Int32.ofNat 1) = (Int32.ofNat 0)) from by decide) ?_
          refine wp_st 1 (f' := (258, [some (.ref (b)), some (.int (sb_i jn)), some (.int (Int32.ofNat (96 + (rg_R S)))), some (.int (Int32.ofNat 1))], [.ref (b)], A833)) rfl ?_
          refine rw_gf (v := .int (Int32.ofNat (rd_sk cs n p))) h834 rfl rfl rfl rfl (rfl) rfl ?_
          refine wp_izT rfl rfl (show Int32.ofNat 0 ≤ (Int32.ofNat (rd_sk cs n p)) from Int32.not_lt.mp (Int32.ofNat_not_neg (by omega))) ?_
          refine wp_rt rfl rfl rfl ?_
          have hres : ru_rel cs n (!jn) p S = .error (rd_sk cs n p) := by simp [ru_rel, ru_rel2, ru_mod, hop, h740, h814, c823]
          rw [hres]
          exact rq_Q_er (k := rg_R S + 1) h834 (by simp only [rf_u_if]; simp) (by omega) (by omega) ((((((((rs_X.refl s).u (by unfold rs_sc; omega)).u (by unfold rs_sc; omega)).u (by unfold rs_sc; omega)).u (by unfold rs_sc; omega)).u (by unfold rs_sc; omega)).u (by unfold rs_sc; omega)).u (by unfold rs_sc; omega)) f836
        · skip
          obtain ⟨A837, g838, h839, f840⟩ := (show rf_go _ _ _ _ _ _ (rf_c (rf_u (rf_u (rf_u (rf_u (rf_u s 40 0 (.int (Int32.ofNat (rg_R S + 1)))) 35 (96 + (rg_R S)) (.int (sb_i jn))) 32 (96 + (rg_R S)) (.int ((-1)))) 33 (96 + (rg_R S)) (.int (Int32.ofNat 0))) 34 (96 + (rg_R S)) (.int (sb_i false))) (rd_sk cs n (sb_re 97 122 cs n (rd_sk cs n p)) + 1) (Int32.ofNat (rd_sk cs n p)) (Int64.ofNat N9) (rd_sk cs n p)) from by have e := rr_need (d := d - 1) (c := 61) (by omega) (by omega) (by omega) (show rf_tx (rf_u (rf_u (rf_u (rf_u (rf_u s 40 0 (.int (Int32.ofNat (rg_R S + 1)))) 35 (96 + (rg_R S)) (.int (sb_i jn))) 32 (96 + (rg_R S)) (.int ((-1)))) 33 (96 + (rg_R S)) (.int (Int32.ofNat 0))) 34 (96 + (rg_R S)) (.int (sb_i false))) cs n from hx) h820; rw [if_neg c823, rf_w_n (by omega)] at e; exact e)
          have f841 := f822.trans f840
          refine wp_cv (A' := A837) (v := none) rfl rfl rfl rfl rfl (show _ from h820.1) (by omega) (g838) rfl ?_
          show am_wp d 151 (230, [some (.ref (b)), some (.int (sb_i jn)), some (.int (Int32.ofNat (96 + (rg_R S)))), none], [], A837) _
          refine wp_st 1 (f' := (231, [some (.ref (b)), some (.int (sb_i jn)), some (.int (Int32.ofNat (96 + (rg_R S)))), none], [.ref (b)], A837)) rfl ?_
          refine rw_gr h839 rfl rfl rfl rfl rfl rfl ?_
          refine wp_st 3 (f' := (239, [some (.ref (b)), some (.int (sb_i jn)), some (.int (Int32.ofNat (96 + (rg_R S)))), none], [.ref (b), .int (Int32.ofNat 128), .int (Int32.ofNat (96 + (rg_R S))), .ref (b + 25)], A837)) rfl ?_
          refine rw_gf (v := .int (Int32.ofNat (rg_G S))) h839 rfl rfl rfl rfl (hs.2.1) rfl ?_
          refine wp_st 1 (f' := (243, [some (.ref (b)), some (.int (sb_i jn)), some (.int (Int32.ofNat (96 + (rg_R S)))), none], [.int ((Int32.ofNat 128) + (Int32.ofNat (rg_G S))), .int (Int32.ofNat (96 + (rg_R S))), .ref (b + 25)], A837)) rfl ?_
          rw [i32_add (128) (rg_G S)]
          refine rw_as (j := 36) (n := 96 + (rg_R S)) (v := .int (Int32.ofNat (128 + (rg_G S)))) h839 rfl rfl rfl (Or.inl ⟨rfl, rfl, rfl⟩) (show _ < 144 from by omega) rfl rfl (fun A842 h843 f844 => ?_)
          have f845 := f841.trans f844
          rw [rf_c_u (by decide)] at h843
          refine wp_st 1 (f' := (245, [some (.ref (b)), some (.int (sb_i jn)), some (.int (Int32.ofNat (96 + (rg_R S)))), none], [.ref (b)], A842)) rfl ?_
          refine rw_gr h843 rfl rfl rfl rfl rfl rfl ?_
          refine wp_st 2 (f' := (250, [some (.ref (b)), some (.int (sb_i jn)), some (.int (Int32.ofNat (96 + (rg_R S)))), none], [.int (Int32.ofNat 0), .int (Int32.ofNat (96 + (rg_R S))), .ref (b + 26)], A842)) rfl ?_
          refine rw_as (j := 37) (n := 96 + (rg_R S)) (v := .int (Int32.ofNat 0)) h843 rfl rfl rfl (Or.inl ⟨rfl, rfl, rfl⟩) (show _ < 144 from by omega) rfl rfl (fun A846 h847 f848 => ?_)
          have f849 := f845.trans f848
          rw [rf_c_u (by decide)] at h847
          refine wp_st 2 (f' := (253, [some (.ref (b)), some (.int (sb_i jn)), some (.int (Int32.ofNat (96 + (rg_R S)))), some (.int (Int32.ofNat 1))], [], A846)) rfl ?_
          refine wp_st 1 (f' := (254, [some (.ref (b)), some (.int (sb_i jn)), some (.int (Int32.ofNat (96 + (rg_R S)))), some (.int (Int32.ofNat 1))], [.int (Int32.ofNat 1)], A846)) rfl ?_
          refine wp_izF rfl rfl (show ¬ ((Int32.ofNat 1) = (Int32.ofNat 0)) from by decide) ?_
          refine wp_st 1 (f' := (258, [some (.ref (b)), some (.int (sb_i jn)), some (.int (Int32.ofNat (96 + (rg_R S)))), some (.int (Int32.ofNat 1))], [.ref (b)], A846)) rfl ?_
          refine rw_gf (v := .int (Int32.ofNat (rd_sk cs n p))) h847 rfl rfl rfl rfl (rfl) rfl ?_
          refine wp_izT rfl rfl (show Int32.ofNat 0 ≤ (Int32.ofNat (rd_sk cs n p)) from Int32.not_lt.mp (Int32.ofNat_not_neg (by omega))) ?_
          refine wp_rt rfl rfl rfl ?_
          have hres : ru_rel cs n (!jn) p S = .error (rd_sk cs n p) := by simp [ru_rel, ru_rel2, ru_mod, hop, h740, h814, c823]
          rw [hres]
          exact rq_Q_er (k := rg_R S + 1) h847 (by simp only [rf_u_if]; simp) (by omega) (by omega) ((((((((rs_X.refl s).u (by unfold rs_sc; omega)).u (by unfold rs_sc; omega)).u (by unfold rs_sc; omega)).u (by unfold rs_sc; omega)).u (by unfold rs_sc; omega)).u (by unfold rs_sc; omega)).u (by unfold rs_sc; omega)) f849
      · skip
        rw [ne_eq, i32_eq (by omega) (by omega)] at h814
        replace h814 := Decidable.not_not.mp h814
        have h814p : rd_sk cs n (sb_re 97 122 cs n (rd_sk cs n p)) < n := sb_lk_pos (cs := cs) (by omega)
        refine wp_st 2 (f' := (197, [some (.ref (b)), some (.int (sb_i jn)), some (.int (Int32.ofNat (96 + (rg_R S)))), none], [.int (Int32.ofNat 1), .int (Int32.ofNat (96 + (rg_R S))), .ref (b + 23)], A734)) rfl ?_
        refine rw_as (j := 34) (n := 96 + (rg_R S)) (v := .int (sb_i true)) h736 rfl rfl rfl (Or.inr (Or.inr ⟨rfl, rfl, rfl⟩)) (show _ < 144 from by omega) (sb_narrow_z true) rfl (fun A850 h851 f852 => ?_)
        have f853 := f738.trans f852
        rw [rf_c_u (by decide)] at h851
        refine wp_st 2 (f' := (200, [some (.ref (b)), some (.int (sb_i jn)), some (.int (Int32.ofNat (96 + (rg_R S)))), none], [.ref (b), .ref (b)], A850)) rfl ?_
        refine rw_gr h851 rfl rfl rfl rfl rfl rfl ?_
        refine wp_st 1 (f' := (204, [some (.ref (b)), some (.int (sb_i jn)), some (.int (Int32.ofNat (96 + (rg_R S)))), none], [.int (Int32.ofNat (96 + (rg_R S))), .ref (b + 23), .ref (b)], A850)) rfl ?_
        refine rw_al (j := 34) (n := 96 + (rg_R S)) (v := .int (Int32.ofNat 1)) h851 rfl rfl rfl (Or.inr (Or.inr (Or.inr (Or.inl ⟨rfl, rfl⟩)))) rfl (show _ < 144 from by omega) (by rw [rf_c_ne (show 34 ≠ 17 ∧ 34 ≠ 18 ∧ 34 ≠ 28 ∧ 34 ≠ 29 by decide), rf_u_eq]; rfl) rfl ?_
        refine wp_izF rfl rfl (show ¬ ((Int32.ofNat 1) = (Int32.ofNat 0)) from by decide) ?_
        refine wp_st 1 (f' := (209, [some (.ref (b)), some (.int (sb_i jn)), some (.int (Int32.ofNat (96 + (rg_R S)))), none], [.ref (b), .ref (b)], A850)) rfl ?_
        refine rw_gf (v := .int (Int32.ofNat (rd_sk cs n (sb_re 97 122 cs n (rd_sk cs n p))))) h851 rfl rfl rfl rfl (rfl) rfl ?_
        refine wp_st 2 (f' := (214, [some (.ref (b)), some (.int (sb_i jn)), some (.int (Int32.ofNat (96 + (rg_R S)))), none], [.int ((Int32.ofNat (rd_sk cs n (sb_re 97 122 cs n (rd_sk cs n p)))) + (Int32.ofNat 1)), .ref (b)], A850)) rfl ?_
        rw [i32_add (rd_sk cs n (sb_re 97 122 cs n (rd_sk cs n p))) (1)]
        refine wp_st 1 (f' := (221, [some (.ref (b)), some (.int (sb_i jn)), some (.int (Int32.ofNat (96 + (rg_R S)))), none], [.int (Int32.ofNat (rd_sk cs n (sb_re 97 122 cs n (rd_sk cs n p)) + 1)), .ref (b)], A850)) rfl ?_
        refine rw_pf (v := .int (Int32.ofNat (rd_sk cs n (sb_re 97 122 cs n (rd_sk cs n p)) + 1))) h851 rfl rfl rfl rfl rfl rfl (fun A854 h855 f856 => ?_)
        have f857 := f853.trans f856
        rw [rf_c17] at h855
        refine wp_st 2 (f' := (227, [some (.ref (b)), some (.int (sb_i jn)), some (.int (Int32.ofNat (96 + (rg_R S)))), none], [.int (Int32.ofNat 61), .ref (b)], A854)) rfl ?_
        by_cases c858 : sb_lk cs n (rd_sk cs n (sb_re 97 122 cs n (rd_sk cs n p)) + 1) = 61
        · skip
          have c858p : rd_sk cs n (sb_re 97 122 cs n (rd_sk cs n p)) + 1 < n := sb_lk_pos (cs := cs) (by omega)
          obtain ⟨A859, g860, h861, f862⟩ := (show rf_go _ _ _ _ _ _ (rf_c (rf_u (rf_u (rf_u (rf_u (rf_u s 40 0 (.int (Int32.ofNat (rg_R S + 1)))) 35 (96 + (rg_R S)) (.int (sb_i jn))) 32 (96 + (rg_R S)) (.int ((-1)))) 33 (96 + (rg_R S)) (.int (Int32.ofNat 0))) 34 (96 + (rg_R S)) (.int (sb_i true))) (rd_sk cs n (sb_re 97 122 cs n (rd_sk cs n p)) + 1 + 1) (Int32.ofNat (rd_sk cs n p)) (Int64.ofNat N9) (rd_sk cs n p)) from by have e := rr_need (d := d - 1) (c := 61) (by omega) (by omega) (by omega) (show rf_tx (rf_u (rf_u (rf_u (rf_u (rf_u s 40 0 (.int (Int32.ofNat (rg_R S + 1)))) 35 (96 + (rg_R S)) (.int (sb_i jn))) 32 (96 + (rg_R S)) (.int ((-1)))) 33 (96 + (rg_R S)) (.int (Int32.ofNat 0))) 34 (96 + (rg_R S)) (.int (sb_i true))) cs n from hx) h855; rw [if_pos c858] at e; exact e)
          have f863 := f857.trans f862
          refine wp_cv (A' := A859) (v := none) rfl rfl rfl rfl rfl (show _ from h855.1) (by omega) (g860) rfl ?_
          show am_wp d 151 (230, [some (.ref (b)), some (.int (sb_i jn)), some (.int (Int32.ofNat (96 + (rg_R S)))), none], [], A859) _
          refine wp_st 1 (f' := (231, [some (.ref (b)), some (.int (sb_i jn)), some (.int (Int32.ofNat (96 + (rg_R S)))), none], [.ref (b)], A859)) rfl ?_
          refine rw_gr h861 rfl rfl rfl rfl rfl rfl ?_
          refine wp_st 3 (f' := (239, [some (.ref (b)), some (.int (sb_i jn)), some (.int (Int32.ofNat (96 + (rg_R S)))), none], [.ref (b), .int (Int32.ofNat 128), .int (Int32.ofNat (96 + (rg_R S))), .ref (b + 25)], A859)) rfl ?_
          refine rw_gf (v := .int (Int32.ofNat (rg_G S))) h861 rfl rfl rfl rfl (hs.2.1) rfl ?_
          refine wp_st 1 (f' := (243, [some (.ref (b)), some (.int (sb_i jn)), some (.int (Int32.ofNat (96 + (rg_R S)))), none], [.int ((Int32.ofNat 128) + (Int32.ofNat (rg_G S))), .int (Int32.ofNat (96 + (rg_R S))), .ref (b + 25)], A859)) rfl ?_
          rw [i32_add (128) (rg_G S)]
          refine rw_as (j := 36) (n := 96 + (rg_R S)) (v := .int (Int32.ofNat (128 + (rg_G S)))) h861 rfl rfl rfl (Or.inl ⟨rfl, rfl, rfl⟩) (show _ < 144 from by omega) rfl rfl (fun A864 h865 f866 => ?_)
          have f867 := f863.trans f866
          rw [rf_c_u (by decide)] at h865
          refine wp_st 1 (f' := (245, [some (.ref (b)), some (.int (sb_i jn)), some (.int (Int32.ofNat (96 + (rg_R S)))), none], [.ref (b)], A864)) rfl ?_
          refine rw_gr h865 rfl rfl rfl rfl rfl rfl ?_
          refine wp_st 2 (f' := (250, [some (.ref (b)), some (.int (sb_i jn)), some (.int (Int32.ofNat (96 + (rg_R S)))), none], [.int (Int32.ofNat 0), .int (Int32.ofNat (96 + (rg_R S))), .ref (b + 26)], A864)) rfl ?_
          refine rw_as (j := 37) (n := 96 + (rg_R S)) (v := .int (Int32.ofNat 0)) h865 rfl rfl rfl (Or.inl ⟨rfl, rfl, rfl⟩) (show _ < 144 from by omega) rfl rfl (fun A868 h869 f870 => ?_)
          have f871 := f867.trans f870
          rw [rf_c_u (by decide)] at h869
          refine wp_st 2 (f' := (253, [some (.ref (b)), some (.int (sb_i jn)), some (.int (Int32.ofNat (96 + (rg_R S)))), some (.int (Int32.ofNat 1))], [], A868)) rfl ?_
          refine wp_st 1 (f' := (254, [some (.ref (b)), some (.int (sb_i jn)), some (.int (Int32.ofNat (96 + (rg_R S)))), some (.int (Int32.ofNat 1))], [.int (Int32.ofNat 1)], A868)) rfl ?_
          refine wp_izF rfl rfl (show ¬ ((Int32.ofNat 1) = (Int32.ofNat 0)) from by decide) ?_
          refine wp_st 1 (f' := (258, [some (.ref (b)), some (.int (sb_i jn)), some (.int (Int32.ofNat (96 + (rg_R S)))), some (.int (Int32.ofNat 1))], [.ref (b)], A868)) rfl ?_
          refine rw_gf (v := .int (Int32.ofNat (rd_sk cs n p))) h869 rfl rfl rfl rfl (rfl) rfl ?_
          refine wp_izT rfl rfl (show Int32.ofNat 0 ≤ (Int32.ofNat (rd_sk cs n p)) from Int32.not_lt.mp (Int32.ofNat_not_neg (by omega))) ?_
          refine wp_rt rfl rfl rfl ?_
          have hres : ru_rel cs n (!jn) p S = .error (rd_sk cs n p) := by simp [ru_rel, ru_rel2, ru_mod, hop, h740, h814, c858]
          rw [hres]
          exact rq_Q_er (k := rg_R S + 1) h869 (by simp only [rf_u_if]; simp) (by omega) (by omega) ((((((((rs_X.refl s).u (by unfold rs_sc; omega)).u (by unfold rs_sc; omega)).u (by unfold rs_sc; omega)).u (by unfold rs_sc; omega)).u (by unfold rs_sc; omega)).u (by unfold rs_sc; omega)).u (by unfold rs_sc; omega)) f871
        · skip
          obtain ⟨A872, g873, h874, f875⟩ := (show rf_go _ _ _ _ _ _ (rf_c (rf_u (rf_u (rf_u (rf_u (rf_u s 40 0 (.int (Int32.ofNat (rg_R S + 1)))) 35 (96 + (rg_R S)) (.int (sb_i jn))) 32 (96 + (rg_R S)) (.int ((-1)))) 33 (96 + (rg_R S)) (.int (Int32.ofNat 0))) 34 (96 + (rg_R S)) (.int (sb_i true))) (rd_sk cs n (sb_re 97 122 cs n (rd_sk cs n p)) + 1 + 1) (Int32.ofNat (rd_sk cs n p)) (Int64.ofNat N9) (rd_sk cs n p)) from by have e := rr_need (d := d - 1) (c := 61) (by omega) (by omega) (by omega) (show rf_tx (rf_u (rf_u (rf_u (rf_u (rf_u s 40 0 (.int (Int32.ofNat (rg_R S + 1)))) 35 (96 + (rg_R S)) (.int (sb_i jn))) 32 (96 + (rg_R S)) (.int ((-1)))) 33 (96 + (rg_R S)) (.int (Int32.ofNat 0))) 34 (96 + (rg_R S)) (.int (sb_i true))) cs n from hx) h855; rw [if_neg c858, rf_w_n (by omega)] at e; exact e)
          have f876 := f857.trans f875
          refine wp_cv (A' := A872) (v := none) rfl rfl rfl rfl rfl (show _ from h855.1) (by omega) (g873) rfl ?_
          show am_wp d 151 (230, [some (.ref (b)), some (.int (sb_i jn)), some (.int (Int32.ofNat (96 + (rg_R S)))), none], [], A872) _
          refine wp_st 1 (f' := (231, [some (.ref (b)), some (.int (sb_i jn)), some (.int (Int32.ofNat (96 + (rg_R S)))), none], [.ref (b)], A872)) rfl ?_
          refine rw_gr h874 rfl rfl rfl rfl rfl rfl ?_
          refine wp_st 3 (f' := (239, [some (.ref (b)), some (.int (sb_i jn)), some (.int (Int32.ofNat (96 + (rg_R S)))), none], [.ref (b), .int (Int32.ofNat 128), .int (Int32.ofNat (96 + (rg_R S))), .ref (b + 25)], A872)) rfl ?_
          refine rw_gf (v := .int (Int32.ofNat (rg_G S))) h874 rfl rfl rfl rfl (hs.2.1) rfl ?_
          refine wp_st 1 (f' := (243, [some (.ref (b)), some (.int (sb_i jn)), some (.int (Int32.ofNat (96 + (rg_R S)))), none], [.int ((Int32.ofNat 128) + (Int32.ofNat (rg_G S))), .int (Int32.ofNat (96 + (rg_R S))), .ref (b + 25)], A872)) rfl ?_
          rw [i32_add (128) (rg_G S)]
          refine rw_as (j := 36) (n := 96 + (rg_R S)) (v := .int (Int32.ofNat (128 + (rg_G S)))) h874 rfl rfl rfl (Or.inl ⟨rfl, rfl, rfl⟩) (show _ < 144 from by omega) rfl rfl (fun A877 h878 f879 => ?_)
          have f880 := f876.trans f879
          rw [rf_c_u (by decide)] at h878
          refine wp_st 1 (f' := (245, [some (.ref (b)), some (.int (sb_i jn)), some (.int (Int32.ofNat (96 + (rg_R S)))), none], [.ref (b)], A877)) rfl ?_
          refine rw_gr h878 rfl rfl rfl rfl rfl rfl ?_
          refine wp_st 2 (f' := (250, [some (.ref (b)), some (.int (sb_i jn)), some (.int (Int32.ofNat (96 + (rg_R S)))), none], [.int (Int32.ofNat 0), .int (Int32.ofNat (96 + (rg_R S))), .ref (b + 26)], A877)) rfl ?_
          refine rw_as (j := 37) (n := 96 + (rg_R S)) (v := .int (Int32.ofNat 0)) h878 rfl rfl rfl (Or.inl ⟨rfl, rfl, rfl⟩) (show _ < 144 from by omega) rfl rfl (fun A881 h882 f883 => ?_)
          have f884 := f880.trans f883
          rw [rf_c_u (by decide)] at h882
          refine wp_st 2 (f' := (253, [some (.ref (b)), some (.int (sb_i jn)), some (.int (Int32.ofNat (96 + (rg_R S)))), some (.int (Int32.ofNat 1))], [], A881)) rfl ?_
          refine wp_st 1 (f' := (254, [some (.ref (b)), some (.int (sb_i jn)), some (.int (Int32.ofNat (96 + (rg_R S)))), some (.int (Int32.ofNat 1))], [.int (Int32.ofNat 1)], A881)) rfl ?_
          refine wp_izF rfl rfl (show ¬ ((Int32.ofNat 1) = (Int32.ofNat 0)) from by decide) ?_
          refine wp_st 1 (f' := (258, [some (.ref (b)), some (.int (sb_i jn)), some (.int (Int32.ofNat (96 + (rg_R S)))), some (.int (Int32.ofNat 1))], [.ref (b)], A881)) rfl ?_
          refine rw_gf (v := .int (Int32.ofNat (rd_sk cs n p))) h882 rfl rfl rfl rfl (rfl) rfl ?_
          refine wp_izT rfl rfl (show Int32.ofNat 0 ≤ (Int32.ofNat (rd_sk cs n p)) from Int32.not_lt.mp (Int32.ofNat_not_neg (by omega))) ?_
          refine wp_rt rfl rfl rfl ?_
          have hres : ru_rel cs n (!jn) p S = .error (rd_sk cs n p) := by simp [ru_rel, ru_rel2, ru_mod, hop, h740, h814, c858]
          rw [hres]
          exact rq_Q_er (k := rg_R S + 1) h882 (by simp only [rf_u_if]; simp) (by omega) (by omega) ((((((((rs_X.refl s).u (by unfold rs_sc; omega)).u (by unfold rs_sc; omega)).u (by unfold rs_sc; omega)).u (by unfold rs_sc; omega)).u (by unfold rs_sc; omega)).u (by unfold rs_sc; omega)).u (by unfold rs_sc; omega)) f884
  · skip
    have hE : ¬ sb_re 97 122 cs n (rd_sk cs n p) = rd_sk cs n p := by omega
    have hop : ru_opnd cs n (rd_sk cs n p) = .error (rd_sk cs n p) := by unfold ru_opnd; rw [if_neg (by omega)]
    have hrz : rf_rw cs (rd_sk cs n p) (sb_re 97 122 cs n (rd_sk cs n p) - (rd_sk cs n p)) = -1 := by unfold rf_rw; rw [if_neg (by omega)]
    obtain ⟨A885, g886, h887, f888⟩ := (show rf_go _ _ _ _ _ _ (rf_c (rf_u (rf_u s 40 0 (.int (Int32.ofNat (rg_R S + 1)))) 35 (96 + (rg_R S)) (.int (sb_i jn))) (sb_re 97 122 cs n (rd_sk cs n p)) (-1) (-1) (rd_sk cs n p)) from by have q := rr_let (d := d - 1) (many := 120) (by omega) (by omega) (by omega) (show rf_tx (rf_u (rf_u s 40 0 (.int (Int32.ofNat (rg_R S + 1)))) 35 (96 + (rg_R S)) (.int (sb_i jn))) cs n from hx) h12; rw [rf_let_ok (by omega) (by omega) hE, hrz] at q; exact q)
    have f889 := f14.trans f888
    refine wp_cv (A' := A885) (v := none) rfl rfl rfl rfl rfl (show _ from h12.1) (by omega) (g886) rfl ?_
    show am_wp d 151 (35, [some (.ref (b)), some (.int (sb_i jn)), some (.int (Int32.ofNat (96 + (rg_R S)))), none], [], A885) _
    refine wp_st 1 (f' := (36, [some (.ref (b)), some (.int (sb_i jn)), some (.int (Int32.ofNat (96 + (rg_R S)))), none], [.ref (b)], A885)) rfl ?_
    refine rw_gr h887 rfl rfl rfl rfl rfl rfl ?_
    refine wp_st 2 (f' := (41, [some (.ref (b)), some (.int (sb_i jn)), some (.int (Int32.ofNat (96 + (rg_R S)))), none], [.ref (b), .int (Int32.ofNat (96 + (rg_R S))), .ref (b + 21)], A885)) rfl ?_
    refine rw_gf (v := .long (-1)) h887 rfl rfl rfl rfl (rfl) rfl ?_
    refine wp_st 2 (f' := (48, [some (.ref (b)), some (.int (sb_i jn)), some (.int (Int32.ofNat (96 + (rg_R S)))), none], [.int (lg_cmp (-1) (26)), .int (Int32.ofNat (96 + (rg_R S))), .ref (b + 21)], A885)) rfl ?_
    refine wp_izF rfl rfl (show ¬ (Int32.ofNat 0 < lg_cmp (-1) 26) from by decide) ?_
    refine wp_st 1 (f' := (52, [some (.ref (b)), some (.int (sb_i jn)), some (.int (Int32.ofNat (96 + (rg_R S)))), none], [.ref (b), .int (Int32.ofNat (96 + (rg_R S))), .ref (b + 21)], A885)) rfl ?_
    refine rw_gf (v := .long (-1)) h887 rfl rfl rfl rfl (rfl) rfl ?_
    refine wp_st 2 (f' := (57, [some (.ref (b)), some (.int (sb_i jn)), some (.int (Int32.ofNat (96 + (rg_R S)))), none], [.int (lg_cmp (-1) (Int64.ofNat 0)), .int (Int32.ofNat (96 + (rg_R S))), .ref (b + 21)], A885)) rfl ?_
    refine wp_izF rfl rfl (show ¬ (Int32.ofNat 0 ≤ lg_cmp (-1) (Int64.ofNat 0)) from by decide) ?_
    refine wp_st 2 (f' := (68, [some (.ref (b)), some (.int (sb_i jn)), some (.int (Int32.ofNat (96 + (rg_R S)))), none], [.int ((-1)), .int (Int32.ofNat (96 + (rg_R S))), .ref (b + 21)], A885)) rfl ?_
    refine rw_as (j := 32) (n := 96 + (rg_R S)) (v := .int ((-1))) h887 rfl rfl rfl (Or.inl ⟨rfl, rfl, rfl⟩) (show _ < 144 from by omega) rfl rfl (fun A890 h891 f892 => ?_)
    have f893 := f889.trans f892
    rw [rf_c_u (by decide)] at h891
    refine wp_st 1 (f' := (70, [some (.ref (b)), some (.int (sb_i jn)), some (.int (Int32.ofNat (96 + (rg_R S)))), none], [.ref (b)], A890)) rfl ?_
    refine rw_gr h891 rfl rfl rfl rfl rfl rfl ?_
    refine wp_st 1 (f' := (74, [some (.ref (b)), some (.int (sb_i jn)), some (.int (Int32.ofNat (96 + (rg_R S)))), none], [.int (Int32.ofNat (96 + (rg_R S))), .ref (b + 21)], A890)) rfl ?_
    refine rw_al (j := 32) (n := 96 + (rg_R S)) (v := .int ((-1))) h891 rfl rfl rfl (Or.inl ⟨rfl, rfl⟩) rfl (show _ < 144 from by omega) (by rw [rf_c_ne (show 32 ≠ 17 ∧ 32 ≠ 18 ∧ 32 ≠ 28 ∧ 32 ≠ 29 by decide), rf_u_eq]) rfl ?_
    refine wp_izF rfl rfl (show ¬ (Int32.ofNat 0 ≤ (-1 : Int32)) from by decide) ?_
    refine wp_st 2 (f' := (80, [some (.ref (b)), some (.int (sb_i jn)), some (.int (Int32.ofNat (96 + (rg_R S)))), none], [.ref (b), .ref (b)], A890)) rfl ?_
    refine rw_gf (v := .int (Int32.ofNat (rd_sk cs n p))) h891 rfl rfl rfl rfl (rfl) rfl ?_
    obtain ⟨A894, g895, h896, f897⟩ := (show rf_go _ _ _ _ _ _ (rf_c (rf_u (rf_u (rf_u s 40 0 (.int (Int32.ofNat (rg_R S + 1)))) 35 (96 + (rg_R S)) (.int (sb_i jn))) 32 (96 + (rg_R S)) (.int ((-1)))) (sb_re 97 122 cs n (rd_sk cs n p)) (Int32.ofNat (rd_sk cs n p)) (-1) (rd_sk cs n p)) from by have e := rr_fail (d := d - 1) (x := rd_sk cs n p) h891; rw [rf_w_m] at e; exact e)
    have f898 := f893.trans f897
    refine wp_cv (A' := A894) (v := none) rfl rfl rfl rfl rfl (show _ from h891.1) (by omega) (g895) rfl ?_
    show am_wp d 151 (86, [some (.ref (b)), some (.int (sb_i jn)), some (.int (Int32.ofNat (96 + (rg_R S)))), none], [], A894) _
    refine wp_st 1 (f' := (87, [some (.ref (b)), some (.int (sb_i jn)), some (.int (Int32.ofNat (96 + (rg_R S)))), none], [.ref (b)], A894)) rfl ?_
    refine rw_gr h896 rfl rfl rfl rfl rfl rfl ?_
    refine wp_st 2 (f' := (92, [some (.ref (b)), some (.int (sb_i jn)), some (.int (Int32.ofNat (96 + (rg_R S)))), none], [.int (Int32.ofNat 0), .int (Int32.ofNat (96 + (rg_R S))), .ref (b + 22)], A894)) rfl ?_
    refine rw_as (j := 33) (n := 96 + (rg_R S)) (v := .int (Int32.ofNat 0)) h896 rfl rfl rfl (Or.inl ⟨rfl, rfl, rfl⟩) (show _ < 144 from by omega) rfl rfl (fun A899 h900 f901 => ?_)
    have f902 := f898.trans f901
    rw [rf_c_u (by decide)] at h900
    refine wp_st 1 (f' := (94, [some (.ref (b)), some (.int (sb_i jn)), some (.int (Int32.ofNat (96 + (rg_R S)))), none], [.ref (b)], A899)) rfl ?_
    have k903 := rd_sk_gt (cs := cs) (n := n) (a := sb_re 97 122 cs n (rd_sk cs n p))
    obtain ⟨A904, g905, h906, f907⟩ := (show rf_go (d - 1) 129 [.ref b] A899 b none (rf_c (rf_u (rf_u (rf_u (rf_u s 40 0 (.int (Int32.ofNat (rg_R S + 1)))) 35 (96 + (rg_R S)) (.int (sb_i jn))) 32 (96 + (rg_R S)) (.int ((-1)))) 33 (96 + (rg_R S)) (.int (Int32.ofNat 0))) (rd_sk cs n (sb_re 97 122 cs n (rd_sk cs n p))) (Int32.ofNat (rd_sk cs n p)) (-1) (rd_sk cs n p)) from rr_spaces (d := d - 1) (by omega) (by omega) (show rf_tx (rf_u (rf_u (rf_u (rf_u s 40 0 (.int (Int32.ofNat (rg_R S + 1)))) 35 (96 + (rg_R S)) (.int (sb_i jn))) 32 (96 + (rg_R S)) (.int ((-1)))) 33 (96 + (rg_R S)) (.int (Int32.ofNat 0))) cs n from hx) h900)
    have f908 := f902.trans f907
    refine wp_cv (A' := A904) (v := none) rfl rfl rfl rfl rfl (show _ from h900.1) (by omega) (g905) rfl ?_
    show am_wp d 151 (97, [some (.ref (b)), some (.int (sb_i jn)), some (.int (Int32.ofNat (96 + (rg_R S)))), none], [], A904) _
    refine wp_st 2 (f' := (99, [some (.ref (b)), some (.int (sb_i jn)), some (.int (Int32.ofNat (96 + (rg_R S)))), none], [.ref (b), .ref (b)], A904)) rfl ?_
    refine rw_gf (v := .int (Int32.ofNat (rd_sk cs n (sb_re 97 122 cs n (rd_sk cs n p))))) h906 rfl rfl rfl rfl (rfl) rfl ?_
    have l909 := hlk (rd_sk cs n (sb_re 97 122 cs n (rd_sk cs n p)))
    refine wp_cv (A' := A904) (v := some (.int (Int32.ofNat (sb_lk cs n (rd_sk cs n (sb_re 97 122 cs n (rd_sk cs n p))))))) rfl rfl rfl rfl rfl (show _ from h906.1) (by omega) (rr_look (by omega) (show rf_tx (rf_u (rf_u (rf_u (rf_u s 40 0 (.int (Int32.ofNat (rg_R S + 1)))) 35 (96 + (rg_R S)) (.int (sb_i jn))) 32 (96 + (rg_R S)) (.int ((-1)))) 33 (96 + (rg_R S)) (.int (Int32.ofNat 0))) cs n from hx) h906) rfl ?_
    show am_wp d 151 (105, [some (.ref (b)), some (.int (sb_i jn)), some (.int (Int32.ofNat (96 + (rg_R S)))), none], [.int (Int32.ofNat (sb_lk cs n (rd_sk cs n (sb_re 97 122 cs n (rd_sk cs n p)))))], A904) _
    refine wp_st 1 (f' := (107, [some (.ref (b)), some (.int (sb_i jn)), some (.int (Int32.ofNat (96 + (rg_R S)))), none], [.int (Int32.ofNat 37), .int (Int32.ofNat (sb_lk cs n (rd_sk cs n (sb_re 97 122 cs n (rd_sk cs n p)))))], A904)) rfl ?_
    refine wp_if rfl rfl rfl (fun (h910 : (Int32.ofNat (sb_lk cs n (rd_sk cs n (sb_re 97 122 cs n (rd_sk cs n p))))) ≠ (Int32.ofNat 37)) => ?_) (fun (h910 : ¬ ((Int32.ofNat (sb_lk cs n (rd_sk cs n (sb_re 97 122 cs n (rd_sk cs n p))))) ≠ (Int32.ofNat 37))) => ?_)
    · skip
      rw [ne_eq, i32_eq (by omega) (by omega)] at h910
      refine wp_st 1 (f' := (175, [some (.ref (b)), some (.int (sb_i jn)), some (.int (Int32.ofNat (96 + (rg_R S)))), none], [.ref (b)], A904)) rfl ?_
      refine rw_gr h906 rfl rfl rfl rfl rfl rfl ?_
      refine wp_st 3 (f' := (181, [some (.ref (b)), some (.int (sb_i jn)), some (.int (Int32.ofNat (96 + (rg_R S)))), none], [.ref (b), .ref (b), .int (Int32.ofNat (96 + (rg_R S))), .ref (b + 23)], A904)) rfl ?_
      refine rw_gf (v := .int (Int32.ofNat (rd_sk cs n (sb_re 97 122 cs n (rd_sk cs n p))))) h906 rfl rfl rfl rfl (rfl) rfl ?_
      have l911 := hlk (rd_sk cs n (sb_re 97 122 cs n (rd_sk cs n p)))
      refine wp_cv (A' := A904) (v := some (.int (Int32.ofNat (sb_lk cs n (rd_sk cs n (sb_re 97 122 cs n (rd_sk cs n p))))))) rfl rfl rfl rfl rfl (show _ from h906.1) (by omega) (rr_look (by omega) (show rf_tx (rf_u (rf_u (rf_u (rf_u s 40 0 (.int (Int32.ofNat (rg_R S + 1)))) 35 (96 + (rg_R S)) (.int (sb_i jn))) 32 (96 + (rg_R S)) (.int ((-1)))) 33 (96 + (rg_R S)) (.int (Int32.ofNat 0))) cs n from hx) h906) rfl ?_
      show am_wp d 151 (187, [some (.ref (b)), some (.int (sb_i jn)), some (.int (Int32.ofNat (96 + (rg_R S)))), none], [.int (Int32.ofNat (sb_lk cs n (rd_sk cs n (sb_re 97 122 cs n (rd_sk cs n p))))), .int (Int32.ofNat (96 + (rg_R S))), .ref (b + 23)], A904) _
      refine wp_st 1 (f' := (189, [some (.ref (b)), some (.int (sb_i jn)), some (.int (Int32.ofNat (96 + (rg_R S)))), none], [.int (Int32.ofNat 33), .int (Int32.ofNat (sb_lk cs n (rd_sk cs n (sb_re 97 122 cs n (rd_sk cs n p))))), .int (Int32.ofNat (96 + (rg_R S))), .ref (b + 23)], A904)) rfl ?_
      refine wp_if rfl rfl rfl (fun (h912 : (Int32.ofNat (sb_lk cs n (rd_sk cs n (sb_re 97 122 cs n (rd_sk cs n p))))) ≠ (Int32.ofNat 33)) => ?_) (fun (h912 : ¬ ((Int32.ofNat (sb_lk cs n (rd_sk cs n (sb_re 97 122 cs n (rd_sk cs n p))))) ≠ (Int32.ofNat 33))) => ?_)
      · skip
        rw [ne_eq, i32_eq (by omega) (by omega)] at h912
        refine wp_st 1 (f' := (197, [some (.ref (b)), some (.int (sb_i jn)), some (.int (Int32.ofNat (96 + (rg_R S)))), none], [.int (Int32.ofNat 0), .int (Int32.ofNat (96 + (rg_R S))), .ref (b + 23)], A904)) rfl ?_
        refine rw_as (j := 34) (n := 96 + (rg_R S)) (v := .int (sb_i false)) h906 rfl rfl rfl (Or.inr (Or.inr ⟨rfl, rfl, rfl⟩)) (show _ < 144 from by omega) (sb_narrow_z false) rfl (fun A913 h914 f915 => ?_)
        have f916 := f908.trans f915
        rw [rf_c_u (by decide)] at h914
        refine wp_st 2 (f' := (200, [some (.ref (b)), some (.int (sb_i jn)), some (.int (Int32.ofNat (96 + (rg_R S)))), none], [.ref (b), .ref (b)], A913)) rfl ?_
        refine rw_gr h914 rfl rfl rfl rfl rfl rfl ?_
        refine wp_st 1 (f' := (204, [some (.ref (b)), some (.int (sb_i jn)), some (.int (Int32.ofNat (96 + (rg_R S)))), none], [.int (Int32.ofNat (96 + (rg_R S))), .ref (b + 23), .ref (b)], A913)) rfl ?_
        refine rw_al (j := 34) (n := 96 + (rg_R S)) (v := .int (Int32.ofNat 0)) h914 rfl rfl rfl (Or.inr (Or.inr (Or.inr (Or.inl ⟨rfl, rfl⟩)))) rfl (show _ < 144 from by omega) (by rw [rf_c_ne (show 34 ≠ 17 ∧ 34 ≠ 18 ∧ 34 ≠ 28 ∧ 34 ≠ 29 by decide), rf_u_eq]; rfl) rfl ?_
        refine wp_izT rfl rfl (show (Int32.ofNat 0) = (Int32.ofNat 0) from by decide) ?_
        refine wp_st 1 (f' := (218, [some (.ref (b)), some (.int (sb_i jn)), some (.int (Int32.ofNat (96 + (rg_R S)))), none], [.ref (b), .ref (b)], A913)) rfl ?_
        refine rw_gf (v := .int (Int32.ofNat (rd_sk cs n (sb_re 97 122 cs n (rd_sk cs n p))))) h914 rfl rfl rfl rfl (rfl) rfl ?_
        refine rw_pf (v := .int (Int32.ofNat (rd_sk cs n (sb_re 97 122 cs n (rd_sk cs n p))))) h914 rfl rfl rfl rfl rfl rfl (fun A917 h918 f919 => ?_)
        have f920 := f916.trans f919
        rw [rf_c17] at h918
        refine wp_st 2 (f' := (227, [some (.ref (b)), some (.int (sb_i jn)), some (.int (Int32.ofNat (96 + (rg_R S)))), none], [.int (Int32.ofNat 61), .ref (b)], A917)) rfl ?_
        by_cases c921 : sb_lk cs n (rd_sk cs n (sb_re 97 122 cs n (rd_sk cs n p))) = 61
        · skip
          have c921p : rd_sk cs n (sb_re 97 122 cs n (rd_sk cs n p)) < n := sb_lk_pos (cs := cs) (by omega)
          obtain ⟨A922, g923, h924, f925⟩ := (show rf_go _ _ _ _ _ _ (rf_c (rf_u (rf_u (rf_u (rf_u (rf_u s 40 0 (.int (Int32.ofNat (rg_R S + 1)))) 35 (96 + (rg_R S)) (.int (sb_i jn))) 32 (96 + (rg_R S)) (.int ((-1)))) 33 (96 + (rg_R S)) (.int (Int32.ofNat 0))) 34 (96 + (rg_R S)) (.int (sb_i false))) (rd_sk cs n (sb_re 97 122 cs n (rd_sk cs n p)) + 1) (Int32.ofNat (rd_sk cs n p)) (-1) (rd_sk cs n p)) from by have e := rr_need (d := d - 1) (c := 61) (by omega) (by omega) (by omega) (show rf_tx (rf_u (rf_u (rf_u (rf_u (rf_u s 40 0 (.int (Int32.ofNat (rg_R S + 1)))) 35 (96 + (rg_R S)) (.int (sb_i jn))) 32 (96 + (rg_R S)) (.int ((-1)))) 33 (96 + (rg_R S)) (.int (Int32.ofNat 0))) 34 (96 + (rg_R S)) (.int (sb_i false))) cs n from hx) h918; rw [if_pos c921] at e; exact e)
          have f926 := f920.trans f925
          refine wp_cv (A' := A922) (v := none) rfl rfl rfl rfl rfl (show _ from h918.1) (by omega) (g923) rfl ?_
          show am_wp d 151 (230, [some (.ref (b)), some (.int (sb_i jn)), some (.int (Int32.ofNat (96 + (rg_R S)))), none], [], A922) _
          refine wp_st 1 (f' := (231, [some (.ref (b)), some (.int (sb_i jn)), some (.int (Int32.ofNat (96 + (rg_R S)))), none], [.ref (b)], A922)) rfl ?_
          refine rw_gr h924 rfl rfl rfl rfl rfl rfl ?_
          refine wp_st 3 (f' := (239, [some (.ref (b)), some (.int (sb_i jn)), some (.int (Int32.ofNat (96 + (rg_R S)))), none], [.ref (b), .int (Int32.ofNat 128), .int (Int32.ofNat (96 + (rg_R S))), .ref (b + 25)], A922)) rfl ?_
          refine rw_gf (v := .int (Int32.ofNat (rg_G S))) h924 rfl rfl rfl rfl (hs.2.1) rfl ?_
          refine wp_st 1 (f' := (243, [some (.ref (b)), some (.int (sb_i jn)), some (.int (Int32.ofNat (96 + (rg_R S)))), none], [.int ((Int32.ofNat 128) + (Int32.ofNat (rg_G S))), .int (Int32.ofNat (96 + (rg_R S))), .ref (b + 25)], A922)) rfl ?_
          rw [i32_add (128) (rg_G S)]
          refine rw_as (j := 36) (n := 96 + (rg_R S)) (v := .int (Int32.ofNat (128 + (rg_G S)))) h924 rfl rfl rfl (Or.inl ⟨rfl, rfl, rfl⟩) (show _ < 144 from by omega) rfl rfl (fun A927 h928 f929 => ?_)
          have f930 := f926.trans f929
          rw [rf_c_u (by decide)] at h928
          refine wp_st 1 (f' := (245, [some (.ref (b)), some (.int (sb_i jn)), some (.int (Int32.ofNat (96 + (rg_R S)))), none], [.ref (b)], A927)) rfl ?_
          refine rw_gr h928 rfl rfl rfl rfl rfl rfl ?_
          refine wp_st 2 (f' := (250, [some (.ref (b)), some (.int (sb_i jn)), some (.int (Int32.ofNat (96 + (rg_R S)))), none], [.int (Int32.ofNat 0), .int (Int32.ofNat (96 + (rg_R S))), .ref (b + 26)], A927)) rfl ?_
          refine rw_as (j := 37) (n := 96 + (rg_R S)) (v := .int (Int32.ofNat 0)) h928 rfl rfl rfl (Or.inl ⟨rfl, rfl, rfl⟩) (show _ < 144 from by omega) rfl rfl (fun A931 h932 f933 => ?_)
          have f934 := f930.trans f933
          rw [rf_c_u (by decide)] at h932
          refine wp_st 2 (f' := (253, [some (.ref (b)), some (.int (sb_i jn)), some (.int (Int32.ofNat (96 + (rg_R S)))), some (.int (Int32.ofNat 1))], [], A931)) rfl ?_
          refine wp_st 1 (f' := (254, [some (.ref (b)), some (.int (sb_i jn)), some (.int (Int32.ofNat (96 + (rg_R S)))), some (.int (Int32.ofNat 1))], [.int (Int32.ofNat 1)], A931)) rfl ?_
          refine wp_izF rfl rfl (show ¬ ((Int32.ofNat 1) = (Int32.ofNat 0)) from by decide) ?_
          refine wp_st 1 (f' := (258, [some (.ref (b)), some (.int (sb_i jn)), some (.int (Int32.ofNat (96 + (rg_R S)))), some (.int (Int32.ofNat 1))], [.ref (b)], A931)) rfl ?_
          refine rw_gf (v := .int (Int32.ofNat (rd_sk cs n p))) h932 rfl rfl rfl rfl (rfl) rfl ?_
          refine wp_izT rfl rfl (show Int32.ofNat 0 ≤ (Int32.ofNat (rd_sk cs n p)) from Int32.not_lt.mp (Int32.ofNat_not_neg (by omega))) ?_
          refine wp_rt rfl rfl rfl ?_
          have hres : ru_rel cs n (!jn) p S = .error (rd_sk cs n p) := by simp [ru_rel, ru_rel2, ru_mod, hop, h910, h912, c921]
          rw [hres]
          exact rq_Q_er (k := rg_R S + 1) h932 (by simp only [rf_u_if]; simp) (by omega) (by omega) ((((((((rs_X.refl s).u (by unfold rs_sc; omega)).u (by unfold rs_sc; omega)).u (by unfold rs_sc; omega)).u (by unfold rs_sc; omega)).u (by unfold rs_sc; omega)).u (by unfold rs_sc; omega)).u (by unfold rs_sc; omega)) f934
        · skip
          obtain ⟨A935, g936, h937, f938⟩ := (show rf_go _ _ _ _ _ _ (rf_c (rf_u (rf_u (rf_u (rf_u (rf_u s 40 0 (.int (Int32.ofNat (rg_R S + 1)))) 35 (96 + (rg_R S)) (.int (sb_i jn))) 32 (96 + (rg_R S)) (.int ((-1)))) 33 (96 + (rg_R S)) (.int (Int32.ofNat 0))) 34 (96 + (rg_R S)) (.int (sb_i false))) (rd_sk cs n (sb_re 97 122 cs n (rd_sk cs n p)) + 1) (Int32.ofNat (rd_sk cs n p)) (-1) (rd_sk cs n p)) from by have e := rr_need (d := d - 1) (c := 61) (by omega) (by omega) (by omega) (show rf_tx (rf_u (rf_u (rf_u (rf_u (rf_u s 40 0 (.int (Int32.ofNat (rg_R S + 1)))) 35 (96 + (rg_R S)) (.int (sb_i jn))) 32 (96 + (rg_R S)) (.int ((-1)))) 33 (96 + (rg_R S)) (.int (Int32.ofNat 0))) 34 (96 + (rg_R S)) (.int (sb_i false))) cs n from hx) h918; rw [if_neg c921, rf_w_n (by omega)] at e; exact e)
          have f939 := f920.trans f938
          refine wp_cv (A' := A935) (v := none) rfl rfl rfl rfl rfl (show _ from h918.1) (by omega) (g936) rfl ?_
          show am_wp d 151 (230, [some (.ref (b)), some (.int (sb_i jn)), some (.int (Int32.ofNat (96 + (rg_R S)))), none], [], A935) _
          refine wp_st 1 (f' := (231, [some (.ref (b)), some (.int (sb_i jn)), some (.int (Int32.ofNat (96 + (rg_R S)))), none], [.ref (b)], A935)) rfl ?_
          refine rw_gr h937 rfl rfl rfl rfl rfl rfl ?_
          refine wp_st 3 (f' := (239, [some (.ref (b)), some (.int (sb_i jn)), some (.int (Int32.ofNat (96 + (rg_R S)))), none], [.ref (b), .int (Int32.ofNat 128), .int (Int32.ofNat (96 + (rg_R S))), .ref (b + 25)], A935)) rfl ?_
          refine rw_gf (v := .int (Int32.ofNat (rg_G S))) h937 rfl rfl rfl rfl (hs.2.1) rfl ?_
          refine wp_st 1 (f' := (243, [some (.ref (b)), some (.int (sb_i jn)), some (.int (Int32.ofNat (96 + (rg_R S)))), none], [.int ((Int32.ofNat 128) + (Int32.ofNat (rg_G S))), .int (Int32.ofNat (96 + (rg_R S))), .ref (b + 25)], A935)) rfl ?_
          rw [i32_add (128) (rg_G S)]
          refine rw_as (j := 36) (n := 96 + (rg_R S)) (v := .int (Int32.ofNat (128 + (rg_G S)))) h937 rfl rfl rfl (Or.inl ⟨rfl, rfl, rfl⟩) (show _ < 144 from by omega) rfl rfl (fun A940 h941 f942 => ?_)
          have f943 := f939.trans f942
          rw [rf_c_u (by decide)] at h941
          refine wp_st 1 (f' := (245, [some (.ref (b)), some (.int (sb_i jn)), some (.int (Int32.ofNat (96 + (rg_R S)))), none], [.ref (b)], A940)) rfl ?_
          refine rw_gr h941 rfl rfl rfl rfl rfl rfl ?_
          refine wp_st 2 (f' := (250, [some (.ref (b)), some (.int (sb_i jn)), some (.int (Int32.ofNat (96 + (rg_R S)))), none], [.int (Int32.ofNat 0), .int (Int32.ofNat (96 + (rg_R S))), .ref (b + 26)], A940)) rfl ?_
          refine rw_as (j := 37) (n := 96 + (rg_R S)) (v := .int (Int32.ofNat 0)) h941 rfl rfl rfl (Or.inl ⟨rfl, rfl, rfl⟩) (show _ < 144 from by omega) rfl rfl (fun A944 h945 f946 => ?_)
          have f947 := f943.trans f946
          rw [rf_c_u (by decide)] at h945
          refine wp_st 2 (f' := (253, [some (.ref (b)), some (.int (sb_i jn)), some (.int (Int32.ofNat (96 + (rg_R S)))), some (.int (Int32.ofNat 1))], [], A944)) rfl ?_
          refine wp_st 1 (f' := (254, [some (.ref (b)), some (.int (sb_i jn)), some (.int (Int32.ofNat (96 + (rg_R S)))), some (.int (Int32.ofNat 1))], [.int (Int32.ofNat 1)], A944)) rfl ?_
          refine wp_izF rfl rfl (show ¬ ((Int32.ofNat 1) = (Int32.ofNat 0)) from by decide) ?_
          refine wp_st 1 (f' := (258, [some (.ref (b)), some (.int (sb_i jn)), some (.int (Int32.ofNat (96 + (rg_R S)))), some (.int (Int32.ofNat 1))], [.ref (b)], A944)) rfl ?_
          refine rw_gf (v := .int (Int32.ofNat (rd_sk cs n p))) h945 rfl rfl rfl rfl (rfl) rfl ?_
          refine wp_izT rfl rfl (show Int32.ofNat 0 ≤ (Int32.ofNat (rd_sk cs n p)) from Int32.not_lt.mp (Int32.ofNat_not_neg (by omega))) ?_
          refine wp_rt rfl rfl rfl ?_
          have hres : ru_rel cs n (!jn) p S = .error (rd_sk cs n p) := by simp [ru_rel, ru_rel2, ru_mod, hop, h910, h912, c921]
          rw [hres]
          exact rq_Q_er (k := rg_R S + 1) h945 (by simp only [rf_u_if]; simp) (by omega) (by omega) ((((((((rs_X.refl s).u (by unfold rs_sc; omega)).u (by unfold rs_sc; omega)).u (by unfold rs_sc; omega)).u (by unfold rs_sc; omega)).u (by unfold rs_sc; omega)).u (by unfold rs_sc; omega)).u (by unfold rs_sc; omega)) f947
      · skip
        rw [ne_eq, i32_eq (by omega) (by omega)] at h912
        replace h912 := Decidable.not_not.mp h912
        have h912p : rd_sk cs n (sb_re 97 122 cs n (rd_sk cs n p)) < n := sb_lk_pos (cs := cs) (by omega)
        refine wp_st 2 (f' := (197, [some (.ref (b)), some (.int (sb_i jn)), some (.int (Int32.ofNat (96 + (rg_R S)))), none], [.int (Int32.ofNat 1), .int (Int32.ofNat (96 + (rg_R S))), .ref (b + 23)], A904)) rfl ?_
        refine rw_as (j := 34) (n := 96 + (rg_R S)) (v := .int (sb_i true)) h906 rfl rfl rfl (Or.inr (Or.inr ⟨rfl, rfl, rfl⟩)) (show _ < 144 from by omega) (sb_narrow_z true) rfl (fun A948 h949 f950 => ?_)
        have f951 := f908.trans f950
        rw [rf_c_u (by decide)] at h949
        refine wp_st 2 (f' := (200, [some (.ref (b)), some (.int (sb_i jn)), some (.int (Int32.ofNat (96 + (rg_R S)))), none], [.ref (b), .ref (b)], A948)) rfl ?_
        refine rw_gr h949 rfl rfl rfl rfl rfl rfl ?_
        refine wp_st 1 (f' := (204, [some (.ref (b)), some (.int (sb_i jn)), some (.int (Int32.ofNat (96 + (rg_R S)))), none], [.int (Int32.ofNat (96 + (rg_R S))), .ref (b + 23), .ref (b)], A948)) rfl ?_
        refine rw_al (j := 34) (n := 96 + (rg_R S)) (v := .int (Int32.ofNat 1)) h949 rfl rfl rfl (Or.inr (Or.inr (Or.inr (Or.inl ⟨rfl, rfl⟩)))) rfl (show _ < 144 from by omega) (by rw [rf_c_ne (show 34 ≠ 17 ∧ 34 ≠ 18 ∧ 34 ≠ 28 ∧ 34 ≠ 29 by decide), rf_u_eq]; rfl) rfl ?_
        refine wp_izF rfl rfl (show ¬ ((Int32.ofNat 1) = (Int32.ofNat 0)) from by decide) ?_
        refine wp_st 1 (f' := (209, [some (.ref (b)), some (.int (sb_i jn)), some (.int (Int32.ofNat (96 + (rg_R S)))), none], [.ref (b), .ref (b)], A948)) rfl ?_
        refine rw_gf (v := .int (Int32.ofNat (rd_sk cs n (sb_re 97 122 cs n (rd_sk cs n p))))) h949 rfl rfl rfl rfl (rfl) rfl ?_
        refine wp_st 2 (f' := (214, [some (.ref (b)), some (.int (sb_i jn)), some (.int (Int32.ofNat (96 + (rg_R S)))), none], [.int ((Int32.ofNat (rd_sk cs n (sb_re 97 122 cs n (rd_sk cs n p)))) + (Int32.ofNat 1)), .ref (b)], A948)) rfl ?_
        rw [i32_add (rd_sk cs n (sb_re 97 122 cs n (rd_sk cs n p))) (1)]
        refine wp_st 1 (f' := (221, [some (.ref (b)), some (.int (sb_i jn)), some (.int (Int32.ofNat (96 + (rg_R S)))), none], [.int (Int32.ofNat (rd_sk cs n (sb_re 97 122 cs n (rd_sk cs n p)) + 1)), .ref (b)], A948)) rfl ?_
        refine rw_pf (v := .int (Int32.ofNat (rd_sk cs n (sb_re 97 122 cs n (rd_sk cs n p)) + 1))) h949 rfl rfl rfl rfl rfl rfl (fun A952 h953 f954 => ?_)
        have f955 := f951.trans f954
        rw [rf_c17] at h953
        refine wp_st 2 (f' := (227, [some (.ref (b)), some (.int (sb_i jn)), some (.int (Int32.ofNat (96 + (rg_R S)))), none], [.int (Int32.ofNat 61), .ref (b)], A952)) rfl ?_
        by_cases c956 : sb_lk cs n (rd_sk cs n (sb_re 97 122 cs n (rd_sk cs n p)) + 1) = 61
        · skip
          have c956p : rd_sk cs n (sb_re 97 122 cs n (rd_sk cs n p)) + 1 < n := sb_lk_pos (cs := cs) (by omega)
          obtain ⟨A957, g958, h959, f960⟩ := (show rf_go _ _ _ _ _ _ (rf_c (rf_u (rf_u (rf_u (rf_u (rf_u s 40 0 (.int (Int32.ofNat (rg_R S + 1)))) 35 (96 + (rg_R S)) (.int (sb_i jn))) 32 (96 + (rg_R S)) (.int ((-1)))) 33 (96 + (rg_R S)) (.int (Int32.ofNat 0))) 34 (96 + (rg_R S)) (.int (sb_i true))) (rd_sk cs n (sb_re 97 122 cs n (rd_sk cs n p)) + 1 + 1) (Int32.ofNat (rd_sk cs n p)) (-1) (rd_sk cs n p)) from by have e := rr_need (d := d - 1) (c := 61) (by omega) (by omega) (by omega) (show rf_tx (rf_u (rf_u (rf_u (rf_u (rf_u s 40 0 (.int (Int32.ofNat (rg_R S + 1)))) 35 (96 + (rg_R S)) (.int (sb_i jn))) 32 (96 + (rg_R S)) (.int ((-1)))) 33 (96 + (rg_R S)) (.int (Int32.ofNat 0))) 34 (96 + (rg_R S)) (.int (sb_i true))) cs n from hx) h953; rw [if_pos c956] at e; exact e)
          have f961 := f955.trans f960
          refine wp_cv (A' := A957) (v := none) rfl rfl rfl rfl rfl (show _ from h953.1) (by omega) (g958) rfl ?_
          show am_wp d 151 (230, [some (.ref (b)), some (.int (sb_i jn)), some (.int (Int32.ofNat (96 + (rg_R S)))), none], [], A957) _
          refine wp_st 1 (f' := (231, [some (.ref (b)), some (.int (sb_i jn)), some (.int (Int32.ofNat (96 + (rg_R S)))), none], [.ref (b)], A957)) rfl ?_
          refine rw_gr h959 rfl rfl rfl rfl rfl rfl ?_
          refine wp_st 3 (f' := (239, [some (.ref (b)), some (.int (sb_i jn)), some (.int (Int32.ofNat (96 + (rg_R S)))), none], [.ref (b), .int (Int32.ofNat 128), .int (Int32.ofNat (96 + (rg_R S))), .ref (b + 25)], A957)) rfl ?_
          refine rw_gf (v := .int (Int32.ofNat (rg_G S))) h959 rfl rfl rfl rfl (hs.2.1) rfl ?_
          refine wp_st 1 (f' := (243, [some (.ref (b)), some (.int (sb_i jn)), some (.int (Int32.ofNat (96 + (rg_R S)))), none], [.int ((Int32.ofNat 128) + (Int32.ofNat (rg_G S))), .int (Int32.ofNat (96 + (rg_R S))), .ref (b + 25)], A957)) rfl ?_
          rw [i32_add (128) (rg_G S)]
          refine rw_as (j := 36) (n := 96 + (rg_R S)) (v := .int (Int32.ofNat (128 + (rg_G S)))) h959 rfl rfl rfl (Or.inl ⟨rfl, rfl, rfl⟩) (show _ < 144 from by omega) rfl rfl (fun A962 h963 f964 => ?_)
          have f965 := f961.trans f964
          rw [rf_c_u (by decide)] at h963
          refine wp_st 1 (f' := (245, [some (.ref (b)), some (.int (sb_i jn)), some (.int (Int32.ofNat (96 + (rg_R S)))), none], [.ref (b)], A962)) rfl ?_
          refine rw_gr h963 rfl rfl rfl rfl rfl rfl ?_
          refine wp_st 2 (f' := (250, [some (.ref (b)), some (.int (sb_i jn)), some (.int (Int32.ofNat (96 + (rg_R S)))), none], [.int (Int32.ofNat 0), .int (Int32.ofNat (96 + (rg_R S))), .ref (b + 26)], A962)) rfl ?_
          refine rw_as (j := 37) (n := 96 + (rg_R S)) (v := .int (Int32.ofNat 0)) h963 rfl rfl rfl (Or.inl ⟨rfl, rfl, rfl⟩) (show _ < 144 from by omega) rfl rfl (fun A966 h967 f968 => ?_)
          have f969 := f965.trans f968
          rw [rf_c_u (by decide)] at h967
          refine wp_st 2 (f' := (253, [some (.ref (b)), some (.int (sb_i jn)), some (.int (Int32.ofNat (96 + (rg_R S)))), some (.int (Int32.ofNat 1))], [], A966)) rfl ?_
          refine wp_st 1 (f' := (254, [some (.ref (b)), some (.int (sb_i jn)), some (.int (Int32.ofNat (96 + (rg_R S)))), some (.int (Int32.ofNat 1))], [.int (Int32.ofNat 1)], A966)) rfl ?_
          refine wp_izF rfl rfl (show ¬ ((Int32.ofNat 1) = (Int32.ofNat 0)) from by decide) ?_
          refine wp_st 1 (f' := (258, [some (.ref (b)), some (.int (sb_i jn)), some (.int (Int32.ofNat (96 + (rg_R S)))), some (.int (Int32.ofNat 1))], [.ref (b)], A966)) rfl ?_
          refine rw_gf (v := .int (Int32.ofNat (rd_sk cs n p))) h967 rfl rfl rfl rfl (rfl) rfl ?_
          refine wp_izT rfl rfl (show Int32.ofNat 0 ≤ (Int32.ofNat (rd_sk cs n p)) from Int32.not_lt.mp (Int32.ofNat_not_neg (by omega))) ?_
          refine wp_rt rfl rfl rfl ?_
          have hres : ru_rel cs n (!jn) p S = .error (rd_sk cs n p) := by simp [ru_rel, ru_rel2, ru_mod, hop, h910, h912, c956]
          rw [hres]
          exact rq_Q_er (k := rg_R S + 1) h967 (by simp only [rf_u_if]; simp) (by omega) (by omega) ((((((((rs_X.refl s).u (by unfold rs_sc; omega)).u (by unfold rs_sc; omega)).u (by unfold rs_sc; omega)).u (by unfold rs_sc; omega)).u (by unfold rs_sc; omega)).u (by unfold rs_sc; omega)).u (by unfold rs_sc; omega)) f969
        · skip
          obtain ⟨A970, g971, h972, f973⟩ := (show rf_go _ _ _ _ _ _ (rf_c (rf_u (rf_u (rf_u (rf_u (rf_u s 40 0 (.int (Int32.ofNat (rg_R S + 1)))) 35 (96 + (rg_R S)) (.int (sb_i jn))) 32 (96 + (rg_R S)) (.int ((-1)))) 33 (96 + (rg_R S)) (.int (Int32.ofNat 0))) 34 (96 + (rg_R S)) (.int (sb_i true))) (rd_sk cs n (sb_re 97 122 cs n (rd_sk cs n p)) + 1 + 1) (Int32.ofNat (rd_sk cs n p)) (-1) (rd_sk cs n p)) from by have e := rr_need (d := d - 1) (c := 61) (by omega) (by omega) (by omega) (show rf_tx (rf_u (rf_u (rf_u (rf_u (rf_u s 40 0 (.int (Int32.ofNat (rg_R S + 1)))) 35 (96 + (rg_R S)) (.int (sb_i jn))) 32 (96 + (rg_R S)) (.int ((-1)))) 33 (96 + (rg_R S)) (.int (Int32.ofNat 0))) 34 (96 + (rg_R S)) (.int (sb_i true))) cs n from hx) h953; rw [if_neg c956, rf_w_n (by omega)] at e; exact e)
          have f974 := f955.trans f973
          refine wp_cv (A' := A970) (v := none) rfl rfl rfl rfl rfl (show _ from h953.1) (by omega) (g971) rfl ?_
          show am_wp d 151 (230, [some (.ref (b)), some (.int (sb_i jn)), some (.int (Int32.ofNat (96 + (rg_R S)))), none], [], A970) _
          refine wp_st 1 (f' := (231, [some (.ref (b)), some (.int (sb_i jn)), some (.int (Int32.ofNat (96 + (rg_R S)))), none], [.ref (b)], A970)) rfl ?_
          refine rw_gr h972 rfl rfl rfl rfl rfl rfl ?_
          refine wp_st 3 (f' := (239, [some (.ref (b)), some (.int (sb_i jn)), some (.int (Int32.ofNat (96 + (rg_R S)))), none], [.ref (b), .int (Int32.ofNat 128), .int (Int32.ofNat (96 + (rg_R S))), .ref (b + 25)], A970)) rfl ?_
          refine rw_gf (v := .int (Int32.ofNat (rg_G S))) h972 rfl rfl rfl rfl (hs.2.1) rfl ?_
          refine wp_st 1 (f' := (243, [some (.ref (b)), some (.int (sb_i jn)), some (.int (Int32.ofNat (96 + (rg_R S)))), none], [.int ((Int32.ofNat 128) + (Int32.ofNat (rg_G S))), .int (Int32.ofNat (96 + (rg_R S))), .ref (b + 25)], A970)) rfl ?_
          rw [i32_add (128) (rg_G S)]
          refine rw_as (j := 36) (n := 96 + (rg_R S)) (v := .int (Int32.ofNat (128 + (rg_G S)))) h972 rfl rfl rfl (Or.inl ⟨rfl, rfl, rfl⟩) (show _ < 144 from by omega) rfl rfl (fun A975 h976 f977 => ?_)
          have f978 := f974.trans f977
          rw [rf_c_u (by decide)] at h976
          refine wp_st 1 (f' := (245, [some (.ref (b)), some (.int (sb_i jn)), some (.int (Int32.ofNat (96 + (rg_R S)))), none], [.ref (b)], A975)) rfl ?_
          refine rw_gr h976 rfl rfl rfl rfl rfl rfl ?_
          refine wp_st 2 (f' := (250, [some (.ref (b)), some (.int (sb_i jn)), some (.int (Int32.ofNat (96 + (rg_R S)))), none], [.int (Int32.ofNat 0), .int (Int32.ofNat (96 + (rg_R S))), .ref (b + 26)], A975)) rfl ?_
          refine rw_as (j := 37) (n := 96 + (rg_R S)) (v := .int (Int32.ofNat 0)) h976 rfl rfl rfl (Or.inl ⟨rfl, rfl, rfl⟩) (show _ < 144 from by omega) rfl rfl (fun A979 h980 f981 => ?_)
          have f982 := f978.trans f981
          rw [rf_c_u (by decide)] at h980
          refine wp_st 2 (f' := (253, [some (.ref (b)), some (.int (sb_i jn)), some (.int (Int32.ofNat (96 + (rg_R S)))), some (.int (Int32.ofNat 1))], [], A979)) rfl ?_
          refine wp_st 1 (f' := (254, [some (.ref (b)), some (.int (sb_i jn)), some (.int (Int32.ofNat (96 + (rg_R S)))), some (.int (Int32.ofNat 1))], [.int (Int32.ofNat 1)], A979)) rfl ?_
          refine wp_izF rfl rfl (show ¬ ((Int32.ofNat 1) = (Int32.ofNat 0)) from by decide) ?_
          refine wp_st 1 (f' := (258, [some (.ref (b)), some (.int (sb_i jn)), some (.int (Int32.ofNat (96 + (rg_R S)))), some (.int (Int32.ofNat 1))], [.ref (b)], A979)) rfl ?_
          refine rw_gf (v := .int (Int32.ofNat (rd_sk cs n p))) h980 rfl rfl rfl rfl (rfl) rfl ?_
          refine wp_izT rfl rfl (show Int32.ofNat 0 ≤ (Int32.ofNat (rd_sk cs n p)) from Int32.not_lt.mp (Int32.ofNat_not_neg (by omega))) ?_
          refine wp_rt rfl rfl rfl ?_
          have hres : ru_rel cs n (!jn) p S = .error (rd_sk cs n p) := by simp [ru_rel, ru_rel2, ru_mod, hop, h910, h912, c956]
          rw [hres]
          exact rq_Q_er (k := rg_R S + 1) h980 (by simp only [rf_u_if]; simp) (by omega) (by omega) ((((((((rs_X.refl s).u (by unfold rs_sc; omega)).u (by unfold rs_sc; omega)).u (by unfold rs_sc; omega)).u (by unfold rs_sc; omega)).u (by unfold rs_sc; omega)).u (by unfold rs_sc; omega)).u (by unfold rs_sc; omega)) f982
    · skip
      rw [ne_eq, i32_eq (by omega) (by omega)] at h910
      replace h910 := Decidable.not_not.mp h910
      have h910p : rd_sk cs n (sb_re 97 122 cs n (rd_sk cs n p)) < n := sb_lk_pos (cs := cs) (by omega)
      refine wp_st 1 (f' := (111, [some (.ref (b)), some (.int (sb_i jn)), some (.int (Int32.ofNat (96 + (rg_R S)))), none], [.ref (b)], A904)) rfl ?_
      refine rw_gf (v := .int (Int32.ofNat (rd_sk cs n p))) h906 rfl rfl rfl rfl (rfl) rfl ?_
      refine wp_izT rfl rfl (show Int32.ofNat 0 ≤ (Int32.ofNat (rd_sk cs n p)) from Int32.not_lt.mp (Int32.ofNat_not_neg (by omega))) ?_
      refine wp_st 1 (f' := (175, [some (.ref (b)), some (.int (sb_i jn)), some (.int (Int32.ofNat (96 + (rg_R S)))), none], [.ref (b)], A904)) rfl ?_
      refine rw_gr h906 rfl rfl rfl rfl rfl rfl ?_
      refine wp_st 3 (f' := (181, [some (.ref (b)), some (.int (sb_i jn)), some (.int (Int32.ofNat (96 + (rg_R S)))), none], [.ref (b), .ref (b), .int (Int32.ofNat (96 + (rg_R S))), .ref (b + 23)], A904)) rfl ?_
      refine rw_gf (v := .int (Int32.ofNat (rd_sk cs n (sb_re 97 122 cs n (rd_sk cs n p))))) h906 rfl rfl rfl rfl (rfl) rfl ?_
      have l983 := hlk (rd_sk cs n (sb_re 97 122 cs n (rd_sk cs n p)))
      refine wp_cv (A' := A904) (v := some (.int (Int32.ofNat (sb_lk cs n (rd_sk cs n (sb_re 97 122 cs n (rd_sk cs n p))))))) rfl rfl rfl rfl rfl (show _ from h906.1) (by omega) (rr_look (by omega) (show rf_tx (rf_u (rf_u (rf_u (rf_u s 40 0 (.int (Int32.ofNat (rg_R S + 1)))) 35 (96 + (rg_R S)) (.int (sb_i jn))) 32 (96 + (rg_R S)) (.int ((-1)))) 33 (96 + (rg_R S)) (.int (Int32.ofNat 0))) cs n from hx) h906) rfl ?_
      show am_wp d 151 (187, [some (.ref (b)), some (.int (sb_i jn)), some (.int (Int32.ofNat (96 + (rg_R S)))), none], [.int (Int32.ofNat (sb_lk cs n (rd_sk cs n (sb_re 97 122 cs n (rd_sk cs n p))))), .int (Int32.ofNat (96 + (rg_R S))), .ref (b + 23)], A904) _
      refine wp_st 1 (f' := (189, [some (.ref (b)), some (.int (sb_i jn)), some (.int (Int32.ofNat (96 + (rg_R S)))), none], [.int (Int32.ofNat 33), .int (Int32.ofNat (sb_lk cs n (rd_sk cs n (sb_re 97 122 cs n (rd_sk cs n p))))), .int (Int32.ofNat (96 + (rg_R S))), .ref (b + 23)], A904)) rfl ?_
      refine wp_if rfl rfl rfl (fun (h984 : (Int32.ofNat (sb_lk cs n (rd_sk cs n (sb_re 97 122 cs n (rd_sk cs n p))))) ≠ (Int32.ofNat 33)) => ?_) (fun (h984 : ¬ ((Int32.ofNat (sb_lk cs n (rd_sk cs n (sb_re 97 122 cs n (rd_sk cs n p))))) ≠ (Int32.ofNat 33))) => ?_)
      · skip
        rw [ne_eq, i32_eq (by omega) (by omega)] at h984
        refine wp_st 1 (f' := (197, [some (.ref (b)), some (.int (sb_i jn)), some (.int (Int32.ofNat (96 + (rg_R S)))), none], [.int (Int32.ofNat 0), .int (Int32.ofNat (96 + (rg_R S))), .ref (b + 23)], A904)) rfl ?_
        refine rw_as (j := 34) (n := 96 + (rg_R S)) (v := .int (sb_i false)) h906 rfl rfl rfl (Or.inr (Or.inr ⟨rfl, rfl, rfl⟩)) (show _ < 144 from by omega) (sb_narrow_z false) rfl (fun A985 h986 f987 => ?_)
        have f988 := f908.trans f987
        rw [rf_c_u (by decide)] at h986
        refine wp_st 2 (f' := (200, [some (.ref (b)), some (.int (sb_i jn)), some (.int (Int32.ofNat (96 + (rg_R S)))), none], [.ref (b), .ref (b)], A985)) rfl ?_
        refine rw_gr h986 rfl rfl rfl rfl rfl rfl ?_
        refine wp_st 1 (f' := (204, [some (.ref (b)), some (.int (sb_i jn)), some (.int (Int32.ofNat (96 + (rg_R S)))), none], [.int (Int32.ofNat (96 + (rg_R S))), .ref (b + 23), .ref (b)], A985)) rfl ?_
        refine rw_al (j := 34) (n := 96 + (rg_R S)) (v := .int (Int32.ofNat 0)) h986 rfl rfl rfl (Or.inr (Or.inr (Or.inr (Or.inl ⟨rfl, rfl⟩)))) rfl (show _ < 144 from by omega) (by rw [rf_c_ne (show 34 ≠ 17 ∧ 34 ≠ 18 ∧ 34 ≠ 28 ∧ 34 ≠ 29 by decide), rf_u_eq]; rfl) rfl ?_
        refine wp_izT rfl rfl (show (Int32.ofNat 0) = (Int32.ofNat 0) from by decide) ?_
        refine wp_st 1 (f' := (218, [some (.ref (b)), some (.int (sb_i jn)), some (.int (Int32.ofNat (96 + (rg_R S)))), none], [.ref (b), .ref (b)], A985)) rfl ?_
        refine rw_gf (v := .int (Int32.ofNat (rd_sk cs n (sb_re 97 122 cs n (rd_sk cs n p))))) h986 rfl rfl rfl rfl (rfl) rfl ?_
        refine rw_pf (v := .int (Int32.ofNat (rd_sk cs n (sb_re 97 122 cs n (rd_sk cs n p))))) h986 rfl rfl rfl rfl rfl rfl (fun A989 h990 f991 => ?_)
        have f992 := f988.trans f991
        rw [rf_c17] at h990
        refine wp_st 2 (f' := (227, [some (.ref (b)), some (.int (sb_i jn)), some (.int (Int32.ofNat (96 + (rg_R S)))), none], [.int (Int32.ofNat 61), .ref (b)], A989)) rfl ?_
        by_cases c993 : sb_lk cs n (rd_sk cs n (sb_re 97 122 cs n (rd_sk cs n p))) = 61
        · skip
          have c993p : rd_sk cs n (sb_re 97 122 cs n (rd_sk cs n p)) < n := sb_lk_pos (cs := cs) (by omega)
          obtain ⟨A994, g995, h996, f997⟩ := (show rf_go _ _ _ _ _ _ (rf_c (rf_u (rf_u (rf_u (rf_u (rf_u s 40 0 (.int (Int32.ofNat (rg_R S + 1)))) 35 (96 + (rg_R S)) (.int (sb_i jn))) 32 (96 + (rg_R S)) (.int ((-1)))) 33 (96 + (rg_R S)) (.int (Int32.ofNat 0))) 34 (96 + (rg_R S)) (.int (sb_i false))) (rd_sk cs n (sb_re 97 122 cs n (rd_sk cs n p)) + 1) (Int32.ofNat (rd_sk cs n p)) (-1) (rd_sk cs n p)) from by have e := rr_need (d := d - 1) (c := 61) (by omega) (by omega) (by omega) (show rf_tx (rf_u (rf_u (rf_u (rf_u (rf_u s 40 0 (.int (Int32.ofNat (rg_R S + 1)))) 35 (96 + (rg_R S)) (.int (sb_i jn))) 32 (96 + (rg_R S)) (.int ((-1)))) 33 (96 + (rg_R S)) (.int (Int32.ofNat 0))) 34 (96 + (rg_R S)) (.int (sb_i false))) cs n from hx) h990; rw [if_pos c993] at e; exact e)
          have f998 := f992.trans f997
          refine wp_cv (A' := A994) (v := none) rfl rfl rfl rfl rfl (show _ from h990.1) (by omega) (g995) rfl ?_
          show am_wp d 151 (230, [some (.ref (b)), some (.int (sb_i jn)), some (.int (Int32.ofNat (96 + (rg_R S)))), none], [], A994) _
          refine wp_st 1 (f' := (231, [some (.ref (b)), some (.int (sb_i jn)), some (.int (Int32.ofNat (96 + (rg_R S)))), none], [.ref (b)], A994)) rfl ?_
          refine rw_gr h996 rfl rfl rfl rfl rfl rfl ?_
          refine wp_st 3 (f' := (239, [some (.ref (b)), some (.int (sb_i jn)), some (.int (Int32.ofNat (96 + (rg_R S)))), none], [.ref (b), .int (Int32.ofNat 128), .int (Int32.ofNat (96 + (rg_R S))), .ref (b + 25)], A994)) rfl ?_
          refine rw_gf (v := .int (Int32.ofNat (rg_G S))) h996 rfl rfl rfl rfl (hs.2.1) rfl ?_
          refine wp_st 1 (f' := (243, [some (.ref (b)), some (.int (sb_i jn)), some (.int (Int32.ofNat (96 + (rg_R S)))), none], [.int ((Int32.ofNat 128) + (Int32.ofNat (rg_G S))), .int (Int32.ofNat (96 + (rg_R S))), .ref (b + 25)], A994)) rfl ?_
          rw [i32_add (128) (rg_G S)]
          refine rw_as (j := 36) (n := 96 + (rg_R S)) (v := .int (Int32.ofNat (128 + (rg_G S)))) h996 rfl rfl rfl (Or.inl ⟨rfl, rfl, rfl⟩) (show _ < 144 from by omega) rfl rfl (fun A999 h1000 f1001 => ?_)
          have f1002 := f998.trans f1001
          rw [rf_c_u (by decide)] at h1000
          refine wp_st 1 (f' := (245, [some (.ref (b)), some (.int (sb_i jn)), some (.int (Int32.ofNat (96 + (rg_R S)))), none], [.ref (b)], A999)) rfl ?_
          refine rw_gr h1000 rfl rfl rfl rfl rfl rfl ?_
          refine wp_st 2 (f' := (250, [some (.ref (b)), some (.int (sb_i jn)), some (.int (Int32.ofNat (96 + (rg_R S)))), none], [.int (Int32.ofNat 0), .int (Int32.ofNat (96 + (rg_R S))), .ref (b + 26)], A999)) rfl ?_
          refine rw_as (j := 37) (n := 96 + (rg_R S)) (v := .int (Int32.ofNat 0)) h1000 rfl rfl rfl (Or.inl ⟨rfl, rfl, rfl⟩) (show _ < 144 from by omega) rfl rfl (fun A1003 h1004 f1005 => ?_)
          have f1006 := f1002.trans f1005
          rw [rf_c_u (by decide)] at h1004
          refine wp_st 2 (f' := (253, [some (.ref (b)), some (.int (sb_i jn)), some (.int (Int32.ofNat (96 + (rg_R S)))), some (.int (Int32.ofNat 1))], [], A1003)) rfl ?_
          refine wp_st 1 (f' := (254, [some (.ref (b)), some (.int (sb_i jn)), some (.int (Int32.ofNat (96 + (rg_R S)))), some (.int (Int32.ofNat 1))], [.int (Int32.ofNat 1)], A1003)) rfl ?_
          refine wp_izF rfl rfl (show ¬ ((Int32.ofNat 1) = (Int32.ofNat 0)) from by decide) ?_
          refine wp_st 1 (f' := (258, [some (.ref (b)), some (.int (sb_i jn)), some (.int (Int32.ofNat (96 + (rg_R S)))), some (.int (Int32.ofNat 1))], [.ref (b)], A1003)) rfl ?_
          refine rw_gf (v := .int (Int32.ofNat (rd_sk cs n p))) h1004 rfl rfl rfl rfl (rfl) rfl ?_
          refine wp_izT rfl rfl (show Int32.ofNat 0 ≤ (Int32.ofNat (rd_sk cs n p)) from Int32.not_lt.mp (Int32.ofNat_not_neg (by omega))) ?_
          refine wp_rt rfl rfl rfl ?_
          have hres : ru_rel cs n (!jn) p S = .error (rd_sk cs n p) := by simp [ru_rel, ru_rel2, ru_mod, hop, h910, h984, c993]
          rw [hres]
          exact rq_Q_er (k := rg_R S + 1) h1004 (by simp only [rf_u_if]; simp) (by omega) (by omega) ((((((((rs_X.refl s).u (by unfold rs_sc; omega)).u (by unfold rs_sc; omega)).u (by unfold rs_sc; omega)).u (by unfold rs_sc; omega)).u (by unfold rs_sc; omega)).u (by unfold rs_sc; omega)).u (by unfold rs_sc; omega)) f1006
        · skip
          obtain ⟨A1007, g1008, h1009, f1010⟩ := (show rf_go _ _ _ _ _ _ (rf_c (rf_u (rf_u (rf_u (rf_u (rf_u s 40 0 (.int (Int32.ofNat (rg_R S + 1)))) 35 (96 + (rg_R S)) (.int (sb_i jn))) 32 (96 + (rg_R S)) (.int ((-1)))) 33 (96 + (rg_R S)) (.int (Int32.ofNat 0))) 34 (96 + (rg_R S)) (.int (sb_i false))) (rd_sk cs n (sb_re 97 122 cs n (rd_sk cs n p)) + 1) (Int32.ofNat (rd_sk cs n p)) (-1) (rd_sk cs n p)) from by have e := rr_need (d := d - 1) (c := 61) (by omega) (by omega) (by omega) (show rf_tx (rf_u (rf_u (rf_u (rf_u (rf_u s 40 0 (.int (Int32.ofNat (rg_R S + 1)))) 35 (96 + (rg_R S)) (.int (sb_i jn))) 32 (96 + (rg_R S)) (.int ((-1)))) 33 (96 + (rg_R S)) (.int (Int32.ofNat 0))) 34 (96 + (rg_R S)) (.int (sb_i false))) cs n from hx) h990; rw [if_neg c993, rf_w_n (by omega)] at e; exact e)
          have f1011 := f992.trans f1010
          refine wp_cv (A' := A1007) (v := none) rfl rfl rfl rfl rfl (show _ from h990.1) (by omega) (g1008) rfl ?_
          show am_wp d 151 (230, [some (.ref (b)), some (.int (sb_i jn)), some (.int (Int32.ofNat (96 + (rg_R S)))), none], [], A1007) _
          refine wp_st 1 (f' := (231, [some (.ref (b)), some (.int (sb_i jn)), some (.int (Int32.ofNat (96 + (rg_R S)))), none], [.ref (b)], A1007)) rfl ?_
          refine rw_gr h1009 rfl rfl rfl rfl rfl rfl ?_
          refine wp_st 3 (f' := (239, [some (.ref (b)), some (.int (sb_i jn)), some (.int (Int32.ofNat (96 + (rg_R S)))), none], [.ref (b), .int (Int32.ofNat 128), .int (Int32.ofNat (96 + (rg_R S))), .ref (b + 25)], A1007)) rfl ?_
          refine rw_gf (v := .int (Int32.ofNat (rg_G S))) h1009 rfl rfl rfl rfl (hs.2.1) rfl ?_
          refine wp_st 1 (f' := (243, [some (.ref (b)), some (.int (sb_i jn)), some (.int (Int32.ofNat (96 + (rg_R S)))), none], [.int ((Int32.ofNat 128) + (Int32.ofNat (rg_G S))), .int (Int32.ofNat (96 + (rg_R S))), .ref (b + 25)], A1007)) rfl ?_
          rw [i32_add (128) (rg_G S)]
          refine rw_as (j := 36) (n := 96 + (rg_R S)) (v := .int (Int32.ofNat (128 + (rg_G S)))) h1009 rfl rfl rfl (Or.inl ⟨rfl, rfl, rfl⟩) (show _ < 144 from by omega) rfl rfl (fun A1012 h1013 f1014 => ?_)
          have f1015 := f1011.trans f1014
          rw [rf_c_u (by decide)] at h1013
          refine wp_st 1 (f' := (245, [some (.ref (b)), some (.int (sb_i jn)), some (.int (Int32.ofNat (96 + (rg_R S)))), none], [.ref (b)], A1012)) rfl ?_
          refine rw_gr h1013 rfl rfl rfl rfl rfl rfl ?_
          refine wp_st 2 (f' := (250, [some (.ref (b)), some (.int (sb_i jn)), some (.int (Int32.ofNat (96 + (rg_R S)))), none], [.int (Int32.ofNat 0), .int (Int32.ofNat (96 + (rg_R S))), .ref (b + 26)], A1012)) rfl ?_
          refine rw_as (j := 37) (n := 96 + (rg_R S)) (v := .int (Int32.ofNat 0)) h1013 rfl rfl rfl (Or.inl ⟨rfl, rfl, rfl⟩) (show _ < 144 from by omega) rfl rfl (fun A1016 h1017 f1018 => ?_)
          have f1019 := f1015.trans f1018
          rw [rf_c_u (by decide)] at h1017
          refine wp_st 2 (f' := (253, [some (.ref (b)), some (.int (sb_i jn)), some (.int (Int32.ofNat (96 + (rg_R S)))), some (.int (Int32.ofNat 1))], [], A1016)) rfl ?_
          refine wp_st 1 (f' := (254, [some (.ref (b)), some (.int (sb_i jn)), some (.int (Int32.ofNat (96 + (rg_R S)))), some (.int (Int32.ofNat 1))], [.int (Int32.ofNat 1)], A1016)) rfl ?_
          refine wp_izF rfl rfl (show ¬ ((Int32.ofNat 1) = (Int32.ofNat 0)) from by decide) ?_
          refine wp_st 1 (f' := (258, [some (.ref (b)), some (.int (sb_i jn)), some (.int (Int32.ofNat (96 + (rg_R S)))), some (.int (Int32.ofNat 1))], [.ref (b)], A1016)) rfl ?_
          refine rw_gf (v := .int (Int32.ofNat (rd_sk cs n p))) h1017 rfl rfl rfl rfl (rfl) rfl ?_
          refine wp_izT rfl rfl (show Int32.ofNat 0 ≤ (Int32.ofNat (rd_sk cs n p)) from Int32.not_lt.mp (Int32.ofNat_not_neg (by omega))) ?_
          refine wp_rt rfl rfl rfl ?_
          have hres : ru_rel cs n (!jn) p S = .error (rd_sk cs n p) := by simp [ru_rel, ru_rel2, ru_mod, hop, h910, h984, c993]
          rw [hres]
          exact rq_Q_er (k := rg_R S + 1) h1017 (by simp only [rf_u_if]; simp) (by omega) (by omega) ((((((((rs_X.refl s).u (by unfold rs_sc; omega)).u (by unfold rs_sc; omega)).u (by unfold rs_sc; omega)).u (by unfold rs_sc; omega)).u (by unfold rs_sc; omega)).u (by unfold rs_sc; omega)).u (by unfold rs_sc; omega)) f1019
      · skip
        rw [ne_eq, i32_eq (by omega) (by omega)] at h984
        replace h984 := Decidable.not_not.mp h984
        have h984p : rd_sk cs n (sb_re 97 122 cs n (rd_sk cs n p)) < n := sb_lk_pos (cs := cs) (by omega)
        refine wp_st 2 (f' := (197, [some (.ref (b)), some (.int (sb_i jn)), some (.int (Int32.ofNat (96 + (rg_R S)))), none], [.int (Int32.ofNat 1), .int (Int32.ofNat (96 + (rg_R S))), .ref (b + 23)], A904)) rfl ?_
        refine rw_as (j := 34) (n := 96 + (rg_R S)) (v := .int (sb_i true)) h906 rfl rfl rfl (Or.inr (Or.inr ⟨rfl, rfl, rfl⟩)) (show _ < 144 from by omega) (sb_narrow_z true) rfl (fun A1020 h1021 f1022 => ?_)
        have f1023 := f908.trans f1022
        rw [rf_c_u (by decide)] at h1021
        refine wp_st 2 (f' := (200, [some (.ref (b)), some (.int (sb_i jn)), some (.int (Int32.ofNat (96 + (rg_R S)))), none], [.ref (b), .ref (b)], A1020)) rfl ?_
        refine rw_gr h1021 rfl rfl rfl rfl rfl rfl ?_
        refine wp_st 1 (f' := (204, [some (.ref (b)), some (.int (sb_i jn)), some (.int (Int32.ofNat (96 + (rg_R S)))), none], [.int (Int32.ofNat (96 + (rg_R S))), .ref (b + 23), .ref (b)], A1020)) rfl ?_
        refine rw_al (j := 34) (n := 96 + (rg_R S)) (v := .int (Int32.ofNat 1)) h1021 rfl rfl rfl (Or.inr (Or.inr (Or.inr (Or.inl ⟨rfl, rfl⟩)))) rfl (show _ < 144 from by omega) (by rw [rf_c_ne (show 34 ≠ 17 ∧ 34 ≠ 18 ∧ 34 ≠ 28 ∧ 34 ≠ 29 by decide), rf_u_eq]; rfl) rfl ?_
        refine wp_izF rfl rfl (show ¬ ((Int32.ofNat 1) = (Int32.ofNat 0)) from by decide) ?_
        refine wp_st 1 (f' := (209, [some (.ref (b)), some (.int (sb_i jn)), some (.int (Int32.ofNat (96 + (rg_R S)))), none], [.ref (b), .ref (b)], A1020)) rfl ?_
        refine rw_gf (v := .int (Int32.ofNat (rd_sk cs n (sb_re 97 122 cs n (rd_sk cs n p))))) h1021 rfl rfl rfl rfl (rfl) rfl ?_
        refine wp_st 2 (f' := (214, [some (.ref (b)), some (.int (sb_i jn)), some (.int (Int32.ofNat (96 + (rg_R S)))), none], [.int ((Int32.ofNat (rd_sk cs n (sb_re 97 122 cs n (rd_sk cs n p)))) + (Int32.ofNat 1)), .ref (b)], A1020)) rfl ?_
        rw [i32_add (rd_sk cs n (sb_re 97 122 cs n (rd_sk cs n p))) (1)]
        refine wp_st 1 (f' := (221, [some (.ref (b)), some (.int (sb_i jn)), some (.int (Int32.ofNat (96 + (rg_R S)))), none], [.int (Int32.ofNat (rd_sk cs n (sb_re 97 122 cs n (rd_sk cs n p)) + 1)), .ref (b)], A1020)) rfl ?_
        refine rw_pf (v := .int (Int32.ofNat (rd_sk cs n (sb_re 97 122 cs n (rd_sk cs n p)) + 1))) h1021 rfl rfl rfl rfl rfl rfl (fun A1024 h1025 f1026 => ?_)
        have f1027 := f1023.trans f1026
        rw [rf_c17] at h1025
        refine wp_st 2 (f' := (227, [some (.ref (b)), some (.int (sb_i jn)), some (.int (Int32.ofNat (96 + (rg_R S)))), none], [.int (Int32.ofNat 61), .ref (b)], A1024)) rfl ?_
        by_cases c1028 : sb_lk cs n (rd_sk cs n (sb_re 97 122 cs n (rd_sk cs n p)) + 1) = 61
        · skip
          have c1028p : rd_sk cs n (sb_re 97 122 cs n (rd_sk cs n p)) + 1 < n := sb_lk_pos (cs := cs) (by omega)
          obtain ⟨A1029, g1030, h1031, f1032⟩ := (show rf_go _ _ _ _ _ _ (rf_c (rf_u (rf_u (rf_u (rf_u (rf_u s 40 0 (.int (Int32.ofNat (rg_R S + 1)))) 35 (96 + (rg_R S)) (.int (sb_i jn))) 32 (96 + (rg_R S)) (.int ((-1)))) 33 (96 + (rg_R S)) (.int (Int32.ofNat 0))) 34 (96 + (rg_R S)) (.int (sb_i true))) (rd_sk cs n (sb_re 97 122 cs n (rd_sk cs n p)) + 1 + 1) (Int32.ofNat (rd_sk cs n p)) (-1) (rd_sk cs n p)) from by have e := rr_need (d := d - 1) (c := 61) (by omega) (by omega) (by omega) (show rf_tx (rf_u (rf_u (rf_u (rf_u (rf_u s 40 0 (.int (Int32.ofNat (rg_R S + 1)))) 35 (96 + (rg_R S)) (.int (sb_i jn))) 32 (96 + (rg_R S)) (.int ((-1)))) 33 (96 + (rg_R S)) (.int (Int32.ofNat 0))) 34 (96 + (rg_R S)) (.int (sb_i true))) cs n from hx) h1025; rw [if_pos c1028] at e; exact e)
          have f1033 := f1027.trans f1032
          refine wp_cv (A' := A1029) (v := none) rfl rfl rfl rfl rfl (show _ from h1025.1) (by omega) (g1030) rfl ?_
          show am_wp d 151 (230, [some (.ref (b)), some (.int (sb_i jn)), some (.int (Int32.ofNat (96 + (rg_R S)))), none], [], A1029) _
          refine wp_st 1 (f' := (231, [some (.ref (b)), some (.int (sb_i jn)), some (.int (Int32.ofNat (96 + (rg_R S)))), none], [.ref (b)], A1029)) rfl ?_
          refine rw_gr h1031 rfl rfl rfl rfl rfl rfl ?_
          refine wp_st 3 (f' := (239, [some (.ref (b)), some (.int (sb_i jn)), some (.int (Int32.ofNat (96 + (rg_R S)))), none], [.ref (b), .int (Int32.ofNat 128), .int (Int32.ofNat (96 + (rg_R S))), .ref (b + 25)], A1029)) rfl ?_
          refine rw_gf (v := .int (Int32.ofNat (rg_G S))) h1031 rfl rfl rfl rfl (hs.2.1) rfl ?_
          refine wp_st 1 (f' := (243, [some (.ref (b)), some (.int (sb_i jn)), some (.int (Int32.ofNat (96 + (rg_R S)))), none], [.int ((Int32.ofNat 128) + (Int32.ofNat (rg_G S))), .int (Int32.ofNat (96 + (rg_R S))), .ref (b + 25)], A1029)) rfl ?_
          rw [i32_add (128) (rg_G S)]
          refine rw_as (j := 36) (n := 96 + (rg_R S)) (v := .int (Int32.ofNat (128 + (rg_G S)))) h1031 rfl rfl rfl (Or.inl ⟨rfl, rfl, rfl⟩) (show _ < 144 from by omega) rfl rfl (fun A1034 h1035 f1036 => ?_)
          have f1037 := f1033.trans f1036
          rw [rf_c_u (by decide)] at h1035
          refine wp_st 1 (f' := (245, [some (.ref (b)), some (.int (sb_i jn)), some (.int (Int32.ofNat (96 + (rg_R S)))), none], [.ref (b)], A1034)) rfl ?_
          refine rw_gr h1035 rfl rfl rfl rfl rfl rfl ?_
          refine wp_st 2 (f' := (250, [some (.ref (b)), some (.int (sb_i jn)), some (.int (Int32.ofNat (96 + (rg_R S)))), none], [.int (Int32.ofNat 0), .int (Int32.ofNat (96 + (rg_R S))), .ref (b + 26)], A1034)) rfl ?_
          refine rw_as (j := 37) (n := 96 + (rg_R S)) (v := .int (Int32.ofNat 0)) h1035 rfl rfl rfl (Or.inl ⟨rfl, rfl, rfl⟩) (show _ < 144 from by omega) rfl rfl (fun A1038 h1039 f1040 => ?_)
          have f1041 := f1037.trans f1040
          rw [rf_c_u (by decide)] at h1039
          refine wp_st 2 (f' := (253, [some (.ref (b)), some (.int (sb_i jn)), some (.int (Int32.ofNat (96 + (rg_R S)))), some (.int (Int32.ofNat 1))], [], A1038)) rfl ?_
          refine wp_st 1 (f' := (254, [some (.ref (b)), some (.int (sb_i jn)), some (.int (Int32.ofNat (96 + (rg_R S)))), some (.int (Int32.ofNat 1))], [.int (Int32.ofNat 1)], A1038)) rfl ?_
          refine wp_izF rfl rfl (show ¬ ((Int32.ofNat 1) = (Int32.ofNat 0)) from by decide) ?_
          refine wp_st 1 (f' := (258, [some (.ref (b)), some (.int (sb_i jn)), some (.int (Int32.ofNat (96 + (rg_R S)))), some (.int (Int32.ofNat 1))], [.ref (b)], A1038)) rfl ?_
          refine rw_gf (v := .int (Int32.ofNat (rd_sk cs n p))) h1039 rfl rfl rfl rfl (rfl) rfl ?_
          refine wp_izT rfl rfl (show Int32.ofNat 0 ≤ (Int32.ofNat (rd_sk cs n p)) from Int32.not_lt.mp (Int32.ofNat_not_neg (by omega))) ?_
          refine wp_rt rfl rfl rfl ?_
          have hres : ru_rel cs n (!jn) p S = .error (rd_sk cs n p) := by simp [ru_rel, ru_rel2, ru_mod, hop, h910, h984, c1028]
          rw [hres]
          exact rq_Q_er (k := rg_R S + 1) h1039 (by simp only [rf_u_if]; simp) (by omega) (by omega) ((((((((rs_X.refl s).u (by unfold rs_sc; omega)).u (by unfold rs_sc; omega)).u (by unfold rs_sc; omega)).u (by unfold rs_sc; omega)).u (by unfold rs_sc; omega)).u (by unfold rs_sc; omega)).u (by unfold rs_sc; omega)) f1041
        · skip
          obtain ⟨A1042, g1043, h1044, f1045⟩ := (show rf_go _ _ _ _ _ _ (rf_c (rf_u (rf_u (rf_u (rf_u (rf_u s 40 0 (.int (Int32.ofNat (rg_R S + 1)))) 35 (96 + (rg_R S)) (.int (sb_i jn))) 32 (96 + (rg_R S)) (.int ((-1)))) 33 (96 + (rg_R S)) (.int (Int32.ofNat 0))) 34 (96 + (rg_R S)) (.int (sb_i true))) (rd_sk cs n (sb_re 97 122 cs n (rd_sk cs n p)) + 1 + 1) (Int32.ofNat (rd_sk cs n p)) (-1) (rd_sk cs n p)) from by have e := rr_need (d := d - 1) (c := 61) (by omega) (by omega) (by omega) (show rf_tx (rf_u (rf_u (rf_u (rf_u (rf_u s 40 0 (.int (Int32.ofNat (rg_R S + 1)))) 35 (96 + (rg_R S)) (.int (sb_i jn))) 32 (96 + (rg_R S)) (.int ((-1)))) 33 (96 + (rg_R S)) (.int (Int32.ofNat 0))) 34 (96 + (rg_R S)) (.int (sb_i true))) cs n from hx) h1025; rw [if_neg c1028, rf_w_n (by omega)] at e; exact e)
          have f1046 := f1027.trans f1045
          refine wp_cv (A' := A1042) (v := none) rfl rfl rfl rfl rfl (show _ from h1025.1) (by omega) (g1043) rfl ?_
          show am_wp d 151 (230, [some (.ref (b)), some (.int (sb_i jn)), some (.int (Int32.ofNat (96 + (rg_R S)))), none], [], A1042) _
          refine wp_st 1 (f' := (231, [some (.ref (b)), some (.int (sb_i jn)), some (.int (Int32.ofNat (96 + (rg_R S)))), none], [.ref (b)], A1042)) rfl ?_
          refine rw_gr h1044 rfl rfl rfl rfl rfl rfl ?_
          refine wp_st 3 (f' := (239, [some (.ref (b)), some (.int (sb_i jn)), some (.int (Int32.ofNat (96 + (rg_R S)))), none], [.ref (b), .int (Int32.ofNat 128), .int (Int32.ofNat (96 + (rg_R S))), .ref (b + 25)], A1042)) rfl ?_
          refine rw_gf (v := .int (Int32.ofNat (rg_G S))) h1044 rfl rfl rfl rfl (hs.2.1) rfl ?_
          refine wp_st 1 (f' := (243, [some (.ref (b)), some (.int (sb_i jn)), some (.int (Int32.ofNat (96 + (rg_R S)))), none], [.int ((Int32.ofNat 128) + (Int32.ofNat (rg_G S))), .int (Int32.ofNat (96 + (rg_R S))), .ref (b + 25)], A1042)) rfl ?_
          rw [i32_add (128) (rg_G S)]
          refine rw_as (j := 36) (n := 96 + (rg_R S)) (v := .int (Int32.ofNat (128 + (rg_G S)))) h1044 rfl rfl rfl (Or.inl ⟨rfl, rfl, rfl⟩) (show _ < 144 from by omega) rfl rfl (fun A1047 h1048 f1049 => ?_)
          have f1050 := f1046.trans f1049
          rw [rf_c_u (by decide)] at h1048
          refine wp_st 1 (f' := (245, [some (.ref (b)), some (.int (sb_i jn)), some (.int (Int32.ofNat (96 + (rg_R S)))), none], [.ref (b)], A1047)) rfl ?_
          refine rw_gr h1048 rfl rfl rfl rfl rfl rfl ?_
          refine wp_st 2 (f' := (250, [some (.ref (b)), some (.int (sb_i jn)), some (.int (Int32.ofNat (96 + (rg_R S)))), none], [.int (Int32.ofNat 0), .int (Int32.ofNat (96 + (rg_R S))), .ref (b + 26)], A1047)) rfl ?_
          refine rw_as (j := 37) (n := 96 + (rg_R S)) (v := .int (Int32.ofNat 0)) h1048 rfl rfl rfl (Or.inl ⟨rfl, rfl, rfl⟩) (show _ < 144 from by omega) rfl rfl (fun A1051 h1052 f1053 => ?_)
          have f1054 := f1050.trans f1053
          rw [rf_c_u (by decide)] at h1052
          refine wp_st 2 (f' := (253, [some (.ref (b)), some (.int (sb_i jn)), some (.int (Int32.ofNat (96 + (rg_R S)))), some (.int (Int32.ofNat 1))], [], A1051)) rfl ?_
          refine wp_st 1 (f' := (254, [some (.ref (b)), some (.int (sb_i jn)), some (.int (Int32.ofNat (96 + (rg_R S)))), some (.int (Int32.ofNat 1))], [.int (Int32.ofNat 1)], A1051)) rfl ?_
          refine wp_izF rfl rfl (show ¬ ((Int32.ofNat 1) = (Int32.ofNat 0)) from by decide) ?_
          refine wp_st 1 (f' := (258, [some (.ref (b)), some (.int (sb_i jn)), some (.int (Int32.ofNat (96 + (rg_R S)))), some (.int (Int32.ofNat 1))], [.ref (b)], A1051)) rfl ?_
          refine rw_gf (v := .int (Int32.ofNat (rd_sk cs n p))) h1052 rfl rfl rfl rfl (rfl) rfl ?_
          refine wp_izT rfl rfl (show Int32.ofNat 0 ≤ (Int32.ofNat (rd_sk cs n p)) from Int32.not_lt.mp (Int32.ofNat_not_neg (by omega))) ?_
          refine wp_rt rfl rfl rfl ?_
          have hres : ru_rel cs n (!jn) p S = .error (rd_sk cs n p) := by simp [ru_rel, ru_rel2, ru_mod, hop, h910, h984, c1028]
          rw [hres]
          exact rq_Q_er (k := rg_R S + 1) h1052 (by simp only [rf_u_if]; simp) (by omega) (by omega) ((((((((rs_X.refl s).u (by unfold rs_sc; omega)).u (by unfold rs_sc; omega)).u (by unfold rs_sc; omega)).u (by unfold rs_sc; omega)).u (by unfold rs_sc; omega)).u (by unfold rs_sc; omega)).u (by unfold rs_sc; omega)) f1054
