/-! The reference: keepRules. -/
theorem rq_k3 {d b t p g : Nat} {w : Int32} {r : Int64} {S : rg} {u : rf_S} (ht : t ≤ 1) (hG : u 41 0 = .int (Int32.ofNat (rg_G S))) (hG6 : rg_G S ≤ 64) (hgs : ∀ i, i < rg_G S → u 38 (128 + i) = .int (Int32.ofNat (rg_l S i)) ∧ u 39 (128 + i) = .int (Int32.ofNat (rg_h S i))) : ∀ (q k : Nat) (A : am_H), rg_G S - k < q → k ≤ rg_G S → rf A b (rf_c (rk u rk_P3 (rk_V3 S) (64 * t) k) p w r g) → am_wp d 154 (224, [some (.ref b), some (.int (Int32.ofNat t)), some (.int (Int32.ofNat k))], [], A) (fun q => q.1 = .inl none ∧ rf q.2 b (rf_c (rk u rk_P3 (rk_V3 S) (64 * t) (rg_G S)) p w r g) ∧ sb_fr A q.2 b (b + 38)) := by
  intro q
  induction q with
  | zero =>
    intro k A h1
    omega
  | succ q ih =>
    intro k A hq hk h
    refine wp_st 2 (f' := (226, [some (.ref (b)), some (.int (Int32.ofNat t)), some (.int (Int32.ofNat k))], [.ref (b), .int (Int32.ofNat k)], A)) rfl ?_
    refine rw_gf (v := .int (Int32.ofNat (rg_G S))) h rfl rfl rfl rfl ((rf_c_ne (by decide)).trans ((rk_nP rfl).trans hG)) rfl ?_
    refine wp_if rfl rfl rfl (fun (h1 : (Int32.ofNat (rg_G S)) ≤ (Int32.ofNat k)) => ?_) (fun (h1 : ¬ ((Int32.ofNat (rg_G S)) ≤ (Int32.ofNat k))) => ?_)
    · skip
      rw [i32_le (by omega) (by omega)] at h1
      refine wp_rt rfl rfl rfl ?_
      obtain rfl : k = rg_G S := by omega
      exact ⟨rfl, h, (sb_fr.refl A b (b + 38))⟩
    · skip
      rw [i32_le (by omega) (by omega)] at h1
      refine wp_st 1 (f' := (233, [some (.ref (b)), some (.int (Int32.ofNat t)), some (.int (Int32.ofNat k))], [.ref (b)], A)) rfl ?_
      refine rw_gr h rfl rfl rfl rfl rfl rfl ?_
      refine wp_st 3 (f' := (240, [some (.ref (b)), some (.int (Int32.ofNat t)), some (.int (Int32.ofNat k))], [.int ((Int32.ofNat 64) * (Int32.ofNat t)), .ref (b + 27)], A)) rfl ?_
      rw [i32_mul (64) (t)]
      refine wp_st 2 (f' := (242, [some (.ref (b)), some (.int (Int32.ofNat t)), some (.int (Int32.ofNat k))], [.int ((Int32.ofNat (64 * t)) + (Int32.ofNat k)), .ref (b + 27)], A)) rfl ?_
      rw [i32_add (64 * t) (k)]
      refine wp_st 1 (f' := (243, [some (.ref (b)), some (.int (Int32.ofNat t)), some (.int (Int32.ofNat k))], [.ref (b), .int (Int32.ofNat (64 * t + k)), .ref (b + 27)], A)) rfl ?_
      refine rw_gr h rfl rfl rfl rfl rfl rfl ?_
      refine wp_st 3 (f' := (251, [some (.ref (b)), some (.int (Int32.ofNat t)), some (.int (Int32.ofNat k))], [.int ((Int32.ofNat 128) + (Int32.ofNat k)), .ref (b + 27), .int (Int32.ofNat (64 * t + k)), .ref (b + 27)], A)) rfl ?_
      rw [i32_add (128) (k)]
      refine rw_al (j := 38) (n := 128 + k) (v := .int (Int32.ofNat (rg_l S k))) h rfl rfl rfl (Or.inl ⟨rfl, rfl⟩) rfl (show _ < 192 from by omega) (by rw [rf_c_ne (show 38 ≠ 17 ∧ 38 ≠ 18 ∧ 38 ≠ 28 ∧ 38 ≠ 29 by decide), rk_ne (by omega)]; exact (hgs k (by omega)).1) rfl ?_
      refine rw_as (j := 38) (n := 64 * t + k) (v := .int (Int32.ofNat (rg_l S k))) h rfl rfl rfl (Or.inl ⟨rfl, rfl, rfl⟩) (show _ < 192 from by omega) rfl rfl (fun A2 h3 f4 => ?_)
      have f5 := (sb_fr.refl A b (b + 38)).trans f4
      rw [rf_c_u (by decide)] at h3
      refine wp_st 1 (f' := (254, [some (.ref (b)), some (.int (Int32.ofNat t)), some (.int (Int32.ofNat k))], [.ref (b)], A2)) rfl ?_
      refine rw_gr h3 rfl rfl rfl rfl rfl rfl ?_
      refine wp_st 3 (f' := (261, [some (.ref (b)), some (.int (Int32.ofNat t)), some (.int (Int32.ofNat k))], [.int ((Int32.ofNat 64) * (Int32.ofNat t)), .ref (b + 28)], A2)) rfl ?_
      rw [i32_mul (64) (t)]
      refine wp_st 2 (f' := (263, [some (.ref (b)), some (.int (Int32.ofNat t)), some (.int (Int32.ofNat k))], [.int ((Int32.ofNat (64 * t)) + (Int32.ofNat k)), .ref (b + 28)], A2)) rfl ?_
      rw [i32_add (64 * t) (k)]
      refine wp_st 1 (f' := (264, [some (.ref (b)), some (.int (Int32.ofNat t)), some (.int (Int32.ofNat k))], [.ref (b), .int (Int32.ofNat (64 * t + k)), .ref (b + 28)], A2)) rfl ?_
      refine rw_gr h3 rfl rfl rfl rfl rfl rfl ?_
      refine wp_st 3 (f' := (272, [some (.ref (b)), some (.int (Int32.ofNat t)), some (.int (Int32.ofNat k))], [.int ((Int32.ofNat 128) + (Int32.ofNat k)), .ref (b + 28), .int (Int32.ofNat (64 * t + k)), .ref (b + 28)], A2)) rfl ?_
      rw [i32_add (128) (k)]
      refine rw_al (j := 39) (n := 128 + k) (v := .int (Int32.ofNat (rg_h S k))) h3 rfl rfl rfl (Or.inl ⟨rfl, rfl⟩) rfl (show _ < 192 from by omega) (by rw [rf_c_ne (show 39 ≠ 17 ∧ 39 ≠ 18 ∧ 39 ≠ 28 ∧ 39 ≠ 29 by decide), rf_u_ne (Or.inl (by decide)), rk_ne (by omega)]; exact (hgs k (by omega)).2) rfl ?_
      refine rw_as (j := 39) (n := 64 * t + k) (v := .int (Int32.ofNat (rg_h S k))) h3 rfl rfl rfl (Or.inl ⟨rfl, rfl, rfl⟩) (show _ < 192 from by omega) rfl rfl (fun A6 h7 f8 => ?_)
      have f9 := f5.trans f8
      rw [rf_c_u (by decide)] at h7
      refine wp_st 1 (f' := (277, [some (.ref (b)), some (.int (Int32.ofNat t)), some (.int ((Int32.ofNat k) + (Int32.ofNat 1)))], [], A6)) rfl ?_
      rw [i32_add (k) (1)]
      refine wp_st 1 (f' := (224, [some (.ref (b)), some (.int (Int32.ofNat t)), some (.int (Int32.ofNat (k + 1)))], [], A6)) rfl ?_
      rw [rk_step3 rfl] at h7
      obtain ⟨z, z1, z2, z3, z4⟩ := ih (k + 1) _ (by omega) (by omega) h7
      exact ⟨z, z1, z2, z3, f9.trans z4⟩
theorem rq_k2 {d b t p g : Nat} {w : Int32} {r : Int64} {S : rg} {u : rf_S} (ht : t ≤ 1) (hG : u 41 0 = .int (Int32.ofNat (rg_G S))) (hG6 : rg_G S ≤ 64) (hgs : ∀ i, i < rg_G S → u 38 (128 + i) = .int (Int32.ofNat (rg_l S i)) ∧ u 39 (128 + i) = .int (Int32.ofNat (rg_h S i))) (hR : u 40 0 = .int (Int32.ofNat (rg_R S))) (hR4 : rg_R S ≤ 48) (hrs : ∀ i, i < rg_R S → u 32 (96 + i) = .int (Int32.ofNat (rg_o S i)) ∧ u 33 (96 + i) = .int (Int32.ofNat (rg_m S i)) ∧ u 34 (96 + i) = .int (sb_i (rg_n S i)) ∧ u 35 (96 + i) = .int (sb_i (!rg_g S i)) ∧ u 36 (96 + i) = .int (Int32.ofNat (128 + rg_a S i)) ∧ u 37 (96 + i) = .int (Int32.ofNat (rg_b S i - rg_a S i))) : ∀ (q k : Nat) (A : am_H), rg_R S - k < q → k ≤ rg_R S → rf A b (rf_c (rk u rk_P2 (rk_V2 S t) (48 * t) k) p w r g) → am_wp d 154 (79, [some (.ref b), some (.int (Int32.ofNat t)), some (.int (Int32.ofNat k))], [], A) (fun q => q.1 = .inl none ∧ rf q.2 b (rf_c (rk (rk u rk_P2 (rk_V2 S t) (48 * t) (rg_R S)) rk_P3 (rk_V3 S) (64 * t) (rg_G S)) p w r g) ∧ sb_fr A q.2 b (b + 38)) := by
  intro q
  induction q with
  | zero =>
    intro k A h1
    omega
  | succ q ih =>
    intro k A hq hk h
    refine wp_st 2 (f' := (81, [some (.ref (b)), some (.int (Int32.ofNat t)), some (.int (Int32.ofNat k))], [.ref (b), .int (Int32.ofNat k)], A)) rfl ?_
    refine rw_gf (v := .int (Int32.ofNat (rg_R S))) h rfl rfl rfl rfl ((rf_c_ne (by decide)).trans ((rk_nP rfl).trans hR)) rfl ?_
    refine wp_if rfl (show am_tgt 84 (138) = 222 by decide +kernel) rfl (fun (h1 : (Int32.ofNat (rg_R S)) ≤ (Int32.ofNat k)) => ?_) (fun (h1 : ¬ ((Int32.ofNat (rg_R S)) ≤ (Int32.ofNat k))) => ?_)
    · skip
      rw [i32_le (by omega) (by omega)] at h1
      refine wp_st 2 (f' := (224, [some (.ref (b)), some (.int (Int32.ofNat t)), some (.int (Int32.ofNat 0))], [], A)) rfl ?_
      obtain rfl : k = rg_R S := by omega
      have h9 := h
      rw [← rk_0 (rk u rk_P2 (rk_V2 S t) (48 * t) (rg_R S)) rk_P3 (rk_V3 S) (64 * t)] at h9
      obtain ⟨z, z1, z2, z3, z4⟩ := rq_k3 (d := d) ht ((rk_nP rfl).trans hG) hG6 (fun i hi => ⟨(rk_nP rfl).trans (hgs i hi).1, (rk_nP rfl).trans (hgs i hi).2⟩) (rg_G S + 1) 0 _ (by omega) (by omega) h9
      exact ⟨z, z1, z2, z3, (sb_fr.refl A b (b + 38)).trans z4⟩
    · skip
      rw [i32_le (by omega) (by omega)] at h1
      refine wp_st 1 (f' := (88, [some (.ref (b)), some (.int (Int32.ofNat t)), some (.int (Int32.ofNat k))], [.ref (b)], A)) rfl ?_
      refine rw_gr h rfl rfl rfl rfl rfl rfl ?_
      refine wp_st 3 (f' := (95, [some (.ref (b)), some (.int (Int32.ofNat t)), some (.int (Int32.ofNat k))], [.int ((Int32.ofNat 48) * (Int32.ofNat t)), .ref (b + 21)], A)) rfl ?_
      rw [i32_mul (48) (t)]
      refine wp_st 2 (f' := (97, [some (.ref (b)), some (.int (Int32.ofNat t)), some (.int (Int32.ofNat k))], [.int ((Int32.ofNat (48 * t)) + (Int32.ofNat k)), .ref (b + 21)], A)) rfl ?_
      rw [i32_add (48 * t) (k)]
      refine wp_st 1 (f' := (98, [some (.ref (b)), some (.int (Int32.ofNat t)), some (.int (Int32.ofNat k))], [.ref (b), .int (Int32.ofNat (48 * t + k)), .ref (b + 21)], A)) rfl ?_
      refine rw_gr h rfl rfl rfl rfl rfl rfl ?_
      refine wp_st 3 (f' := (105, [some (.ref (b)), some (.int (Int32.ofNat t)), some (.int (Int32.ofNat k))], [.int ((Int32.ofNat 96) + (Int32.ofNat k)), .ref (b + 21), .int (Int32.ofNat (48 * t + k)), .ref (b + 21)], A)) rfl ?_
      rw [i32_add (96) (k)]
      refine rw_al (j := 32) (n := 96 + k) (v := .int (Int32.ofNat (rg_o S k))) h rfl rfl rfl (Or.inl ⟨rfl, rfl⟩) rfl (show _ < 144 from by omega) (by rw [rf_c_ne (show 32 ≠ 17 ∧ 32 ≠ 18 ∧ 32 ≠ 28 ∧ 32 ≠ 29 by decide), rk_ne (by omega)]; exact (hrs k (by omega)).1) rfl ?_
      refine rw_as (j := 32) (n := 48 * t + k) (v := .int (Int32.ofNat (rg_o S k))) h rfl rfl rfl (Or.inl ⟨rfl, rfl, rfl⟩) (show _ < 144 from by omega) rfl rfl (fun A2 h3 f4 => ?_)
      have f5 := (sb_fr.refl A b (b + 38)).trans f4
      rw [rf_c_u (by decide)] at h3
      refine wp_st 1 (f' := (108, [some (.ref (b)), some (.int (Int32.ofNat t)), some (.int (Int32.ofNat k))], [.ref (b)], A2)) rfl ?_
      refine rw_gr h3 rfl rfl rfl rfl rfl rfl ?_
      refine wp_st 3 (f' := (115, [some (.ref (b)), some (.int (Int32.ofNat t)), some (.int (Int32.ofNat k))], [.int ((Int32.ofNat 48) * (Int32.ofNat t)), .ref (b + 22)], A2)) rfl ?_
      rw [i32_mul (48) (t)]
      refine wp_st 2 (f' := (117, [some (.ref (b)), some (.int (Int32.ofNat t)), some (.int (Int32.ofNat k))], [.int ((Int32.ofNat (48 * t)) + (Int32.ofNat k)), .ref (b + 22)], A2)) rfl ?_
      rw [i32_add (48 * t) (k)]
      refine wp_st 1 (f' := (118, [some (.ref (b)), some (.int (Int32.ofNat t)), some (.int (Int32.ofNat k))], [.ref (b), .int (Int32.ofNat (48 * t + k)), .ref (b + 22)], A2)) rfl ?_
      refine rw_gr h3 rfl rfl rfl rfl rfl rfl ?_
      refine wp_st 3 (f' := (125, [some (.ref (b)), some (.int (Int32.ofNat t)), some (.int (Int32.ofNat k))], [.int ((Int32.ofNat 96) + (Int32.ofNat k)), .ref (b + 22), .int (Int32.ofNat (48 * t + k)), .ref (b + 22)], A2)) rfl ?_
      rw [i32_add (96) (k)]
      refine rw_al (j := 33) (n := 96 + k) (v := .int (Int32.ofNat (rg_m S k))) h3 rfl rfl rfl (Or.inl ⟨rfl, rfl⟩) rfl (show _ < 144 from by omega) (by rw [rf_c_ne (show 33 ≠ 17 ∧ 33 ≠ 18 ∧ 33 ≠ 28 ∧ 33 ≠ 29 by decide), rf_u_ne (Or.inl (by decide)), rk_ne (by omega)]; exact (hrs k (by omega)).2.1) rfl ?_
      refine rw_as (j := 33) (n := 48 * t + k) (v := .int (Int32.ofNat (rg_m S k))) h3 rfl rfl rfl (Or.inl ⟨rfl, rfl, rfl⟩) (show _ < 144 from by omega) rfl rfl (fun A6 h7 f8 => ?_)
      have f9 := f5.trans f8
      rw [rf_c_u (by decide)] at h7
      refine wp_st 1 (f' := (128, [some (.ref (b)), some (.int (Int32.ofNat t)), some (.int (Int32.ofNat k))], [.ref (b)], A6)) rfl ?_
      refine rw_gr h7 rfl rfl rfl rfl rfl rfl ?_
      refine wp_st 3 (f' := (135, [some (.ref (b)), some (.int (Int32.ofNat t)), some (.int (Int32.ofNat k))], [.int ((Int32.ofNat 48) * (Int32.ofNat t)), .ref (b + 23)], A6)) rfl ?_
      rw [i32_mul (48) (t)]
      refine wp_st 2 (f' := (137, [some (.ref (b)), some (.int (Int32.ofNat t)), some (.int (Int32.ofNat k))], [.int ((Int32.ofNat (48 * t)) + (Int32.ofNat k)), .ref (b + 23)], A6)) rfl ?_
      rw [i32_add (48 * t) (k)]
      refine wp_st 1 (f' := (138, [some (.ref (b)), some (.int (Int32.ofNat t)), some (.int (Int32.ofNat k))], [.ref (b), .int (Int32.ofNat (48 * t + k)), .ref (b + 23)], A6)) rfl ?_
      refine rw_gr h7 rfl rfl rfl rfl rfl rfl ?_
      refine wp_st 3 (f' := (145, [some (.ref (b)), some (.int (Int32.ofNat t)), some (.int (Int32.ofNat k))], [.int ((Int32.ofNat 96) + (Int32.ofNat k)), .ref (b + 23), .int (Int32.ofNat (48 * t + k)), .ref (b + 23)], A6)) rfl ?_
      rw [i32_add (96) (k)]
      refine rw_al (j := 34) (n := 96 + k) (v := .int (sb_i (rg_n S k))) h7 rfl rfl rfl (Or.inr (Or.inr (Or.inr (Or.inl ⟨rfl, rfl⟩)))) rfl (show _ < 144 from by omega) (by rw [rf_c_ne (show 34 ≠ 17 ∧ 34 ≠ 18 ∧ 34 ≠ 28 ∧ 34 ≠ 29 by decide), rf_u_ne (Or.inl (by decide)), rf_u_ne (Or.inl (by decide)), rk_ne (by omega)]; exact (hrs k (by omega)).2.2.1) rfl ?_
      refine rw_as (j := 34) (n := 48 * t + k) (v := .int (sb_i (rg_n S k))) h7 rfl rfl rfl (Or.inr (Or.inr ⟨rfl, rfl, rfl⟩)) (show _ < 144 from by omega) (sb_narrow_z _) rfl (fun A10 h11 f12 => ?_)
      have f13 := f9.trans f12
      rw [rf_c_u (by decide)] at h11
      refine wp_st 1 (f' := (148, [some (.ref (b)), some (.int (Int32.ofNat t)), some (.int (Int32.ofNat k))], [.ref (b)], A10)) rfl ?_
      refine rw_gr h11 rfl rfl rfl rfl rfl rfl ?_
      refine wp_st 3 (f' := (155, [some (.ref (b)), some (.int (Int32.ofNat t)), some (.int (Int32.ofNat k))], [.int ((Int32.ofNat 48) * (Int32.ofNat t)), .ref (b + 24)], A10)) rfl ?_
      rw [i32_mul (48) (t)]
      refine wp_st 2 (f' := (157, [some (.ref (b)), some (.int (Int32.ofNat t)), some (.int (Int32.ofNat k))], [.int ((Int32.ofNat (48 * t)) + (Int32.ofNat k)), .ref (b + 24)], A10)) rfl ?_
      rw [i32_add (48 * t) (k)]
      refine wp_st 1 (f' := (158, [some (.ref (b)), some (.int (Int32.ofNat t)), some (.int (Int32.ofNat k))], [.ref (b), .int (Int32.ofNat (48 * t + k)), .ref (b + 24)], A10)) rfl ?_
      refine rw_gr h11 rfl rfl rfl rfl rfl rfl ?_
      refine wp_st 3 (f' := (165, [some (.ref (b)), some (.int (Int32.ofNat t)), some (.int (Int32.ofNat k))], [.int ((Int32.ofNat 96) + (Int32.ofNat k)), .ref (b + 24), .int (Int32.ofNat (48 * t + k)), .ref (b + 24)], A10)) rfl ?_
      rw [i32_add (96) (k)]
      refine rw_al (j := 35) (n := 96 + k) (v := .int (sb_i (!rg_g S k))) h11 rfl rfl rfl (Or.inr (Or.inr (Or.inr (Or.inl ⟨rfl, rfl⟩)))) rfl (show _ < 144 from by omega) (by rw [rf_c_ne (show 35 ≠ 17 ∧ 35 ≠ 18 ∧ 35 ≠ 28 ∧ 35 ≠ 29 by decide), rf_u_ne (Or.inl (by decide)), rf_u_ne (Or.inl (by decide)), rf_u_ne (Or.inl (by decide)), rk_ne (by omega)]; exact (hrs k (by omega)).2.2.2.1) rfl ?_
      refine rw_as (j := 35) (n := 48 * t + k) (v := .int (sb_i (!rg_g S k))) h11 rfl rfl rfl (Or.inr (Or.inr ⟨rfl, rfl, rfl⟩)) (show _ < 144 from by omega) (sb_narrow_z _) rfl (fun A14 h15 f16 => ?_)
      have f17 := f13.trans f16
      rw [rf_c_u (by decide)] at h15
      refine wp_st 1 (f' := (168, [some (.ref (b)), some (.int (Int32.ofNat t)), some (.int (Int32.ofNat k))], [.ref (b)], A14)) rfl ?_
      refine rw_gr h15 rfl rfl rfl rfl rfl rfl ?_
      refine wp_st 3 (f' := (175, [some (.ref (b)), some (.int (Int32.ofNat t)), some (.int (Int32.ofNat k))], [.int ((Int32.ofNat 48) * (Int32.ofNat t)), .ref (b + 25)], A14)) rfl ?_
      rw [i32_mul (48) (t)]
      refine wp_st 2 (f' := (177, [some (.ref (b)), some (.int (Int32.ofNat t)), some (.int (Int32.ofNat k))], [.int ((Int32.ofNat (48 * t)) + (Int32.ofNat k)), .ref (b + 25)], A14)) rfl ?_
      rw [i32_add (48 * t) (k)]
      refine wp_st 1 (f' := (178, [some (.ref (b)), some (.int (Int32.ofNat t)), some (.int (Int32.ofNat k))], [.ref (b), .int (Int32.ofNat (48 * t + k)), .ref (b + 25)], A14)) rfl ?_
      refine rw_gr h15 rfl rfl rfl rfl rfl rfl ?_
      refine wp_st 3 (f' := (185, [some (.ref (b)), some (.int (Int32.ofNat t)), some (.int (Int32.ofNat k))], [.int ((Int32.ofNat 96) + (Int32.ofNat k)), .ref (b + 25), .int (Int32.ofNat (48 * t + k)), .ref (b + 25)], A14)) rfl ?_
      rw [i32_add (96) (k)]
      refine rw_al (j := 36) (n := 96 + k) (v := .int (Int32.ofNat (128 + rg_a S k))) h15 rfl rfl rfl (Or.inl ⟨rfl, rfl⟩) rfl (show _ < 144 from by omega) (by rw [rf_c_ne (show 36 ≠ 17 ∧ 36 ≠ 18 ∧ 36 ≠ 28 ∧ 36 ≠ 29 by decide), rf_u_ne (Or.inl (by decide)), rf_u_ne (Or.inl (by decide)), rf_u_ne (Or.inl (by decide)), rf_u_ne (Or.inl (by decide)), rk_ne (by omega)]; exact (hrs k (by omega)).2.2.2.2.1) rfl ?_
      refine wp_st 2 (f' := (190, [some (.ref (b)), some (.int (Int32.ofNat t)), some (.int (Int32.ofNat k))], [.int ((Int32.ofNat (128 + rg_a S k)) - (Int32.ofNat 128)), .int (Int32.ofNat (48 * t + k)), .ref (b + 25)], A14)) rfl ?_
      rw [i32_sub (a := 128 + rg_a S k) (b := 128) (by omega)]
      refine wp_st 3 (f' := (194, [some (.ref (b)), some (.int (Int32.ofNat t)), some (.int (Int32.ofNat k))], [.int ((Int32.ofNat 64) * (Int32.ofNat t)), .int (Int32.ofNat ((128 + rg_a S k) - 128)), .int (Int32.ofNat (48 * t + k)), .ref (b + 25)], A14)) rfl ?_
      rw [i32_mul (64) (t)]
      refine wp_st 1 (f' := (195, [some (.ref (b)), some (.int (Int32.ofNat t)), some (.int (Int32.ofNat k))], [.int ((Int32.ofNat ((128 + rg_a S k) - 128)) + (Int32.ofNat (64 * t))), .int (Int32.ofNat (48 * t + k)), .ref (b + 25)], A14)) rfl ?_
      rw [i32_add ((128 + rg_a S k) - 128) (64 * t)]
      refine rw_as (j := 36) (n := 48 * t + k) (v := .int (Int32.ofNat ((128 + rg_a S k) - 128 + (64 * t)))) h15 rfl rfl rfl (Or.inl ⟨rfl, rfl, rfl⟩) (show _ < 144 from by omega) rfl rfl (fun A18 h19 f20 => ?_)
      have f21 := f17.trans f20
      rw [rf_c_u (by decide)] at h19
      refine wp_st 1 (f' := (197, [some (.ref (b)), some (.int (Int32.ofNat t)), some (.int (Int32.ofNat k))], [.ref (b)], A18)) rfl ?_
      refine rw_gr h19 rfl rfl rfl rfl rfl rfl ?_
      refine wp_st 3 (f' := (204, [some (.ref (b)), some (.int (Int32.ofNat t)), some (.int (Int32.ofNat k))], [.int ((Int32.ofNat 48) * (Int32.ofNat t)), .ref (b + 26)], A18)) rfl ?_
      rw [i32_mul (48) (t)]
      refine wp_st 2 (f' := (206, [some (.ref (b)), some (.int (Int32.ofNat t)), some (.int (Int32.ofNat k))], [.int ((Int32.ofNat (48 * t)) + (Int32.ofNat k)), .ref (b + 26)], A18)) rfl ?_
      rw [i32_add (48 * t) (k)]
      refine wp_st 1 (f' := (207, [some (.ref (b)), some (.int (Int32.ofNat t)), some (.int (Int32.ofNat k))], [.ref (b), .int (Int32.ofNat (48 * t + k)), .ref (b + 26)], A18)) rfl ?_
      refine rw_gr h19 rfl rfl rfl rfl rfl rfl ?_
      refine wp_st 3 (f' := (214, [some (.ref (b)), some (.int (Int32.ofNat t)), some (.int (Int32.ofNat k))], [.int ((Int32.ofNat 96) + (Int32.ofNat k)), .ref (b + 26), .int (Int32.ofNat (48 * t + k)), .ref (b + 26)], A18)) rfl ?_
      rw [i32_add (96) (k)]
      refine rw_al (j := 37) (n := 96 + k) (v := .int (Int32.ofNat (rg_b S k - rg_a S k))) h19 rfl rfl rfl (Or.inl ⟨rfl, rfl⟩) rfl (show _ < 144 from by omega) (by rw [rf_c_ne (show 37 ≠ 17 ∧ 37 ≠ 18 ∧ 37 ≠ 28 ∧ 37 ≠ 29 by decide), rf_u_ne (Or.inl (by decide)), rf_u_ne (Or.inl (by decide)), rf_u_ne (Or.inl (by decide)), rf_u_ne (Or.inl (by decide)), rf_u_ne (Or.inl (by decide)), rk_ne (by omega)]; exact (hrs k (by omega)).2.2.2.2.2) rfl ?_
      refine rw_as (j := 37) (n := 48 * t + k) (v := .int (Int32.ofNat (rg_b S k - rg_a S k))) h19 rfl rfl rfl (Or.inl ⟨rfl, rfl, rfl⟩) (show _ < 144 from by omega) rfl rfl (fun A22 h23 f24 => ?_)
      have f25 := f21.trans f24
      rw [rf_c_u (by decide)] at h23
      refine wp_st 1 (f' := (219, [some (.ref (b)), some (.int (Int32.ofNat t)), some (.int ((Int32.ofNat k) + (Int32.ofNat 1)))], [], A22)) rfl ?_
      rw [i32_add (k) (1)]
      refine wp_gt rfl (show am_tgt 219 (-140) = 79 by decide +kernel) ?_
      rw [rk_step2 rfl] at h23
      obtain ⟨z, z1, z2, z3, z4⟩ := ih (k + 1) _ (by omega) (by omega) h23
      exact ⟨z, z1, z2, z3, f25.trans z4⟩
theorem rq_k1 {d b t p g : Nat} {w : Int32} {r : Int64} {S : rg} {u : rf_S} (ht : t ≤ 1) (hG : u 41 0 = .int (Int32.ofNat (rg_G S))) (hG6 : rg_G S ≤ 64) (hgs : ∀ i, i < rg_G S → u 38 (128 + i) = .int (Int32.ofNat (rg_l S i)) ∧ u 39 (128 + i) = .int (Int32.ofNat (rg_h S i))) (hR : u 40 0 = .int (Int32.ofNat (rg_R S))) (hR4 : rg_R S ≤ 48) (hrs : ∀ i, i < rg_R S → u 32 (96 + i) = .int (Int32.ofNat (rg_o S i)) ∧ u 33 (96 + i) = .int (Int32.ofNat (rg_m S i)) ∧ u 34 (96 + i) = .int (sb_i (rg_n S i)) ∧ u 35 (96 + i) = .int (sb_i (!rg_g S i)) ∧ u 36 (96 + i) = .int (Int32.ofNat (128 + rg_a S i)) ∧ u 37 (96 + i) = .int (Int32.ofNat (rg_b S i - rg_a S i))) (hcs : rs_C u S) (hee : ∀ c, c < 5 → rg_e S c ≤ rg_R S) : ∀ (q k : Nat) (A : am_H), 5 - k < q → k ≤ 5 → rf A b (rf_c (rk u rk_P1 (rk_V1 S t) (8 * t) k) p w r g) → am_wp d 154 (2, [some (.ref b), some (.int (Int32.ofNat t)), some (.int (Int32.ofNat k))], [], A) (fun q => q.1 = .inl none ∧ rf q.2 b (rf_c (rk_all u S t) p w r g) ∧ sb_fr A q.2 b (b + 38)) := by
  intro q
  induction q with
  | zero =>
    intro k A h1
    omega
  | succ q ih =>
    intro k A hq hk h
    have hq7 : ∀ c, c < 5 → rg_e S c ≤ 48 := fun c hc => Nat.le_trans (hee c hc) hR4
    refine wp_st 2 (f' := (4, [some (.ref (b)), some (.int (Int32.ofNat t)), some (.int (Int32.ofNat k))], [.int (Int32.ofNat 5), .int (Int32.ofNat k)], A)) rfl ?_
    refine wp_if rfl rfl rfl (fun (h1 : (Int32.ofNat 5) ≤ (Int32.ofNat k)) => ?_) (fun (h1 : ¬ ((Int32.ofNat 5) ≤ (Int32.ofNat k))) => ?_)
    · skip
      rw [i32_le (by omega) (by omega)] at h1
      refine wp_st 2 (f' := (79, [some (.ref (b)), some (.int (Int32.ofNat t)), some (.int (Int32.ofNat 0))], [], A)) rfl ?_
      obtain rfl : k = 5 := by omega
      have h9 := h
      rw [← rk_0 (rk u rk_P1 (rk_V1 S t) (8 * t) 5) rk_P2 (rk_V2 S t) (48 * t)] at h9
      obtain ⟨z, z1, z2, z3, z4⟩ := rq_k2 (d := d) ht ((rk_nP rfl).trans hG) hG6 (fun i hi => ⟨(rk_nP rfl).trans (hgs i hi).1, (rk_nP rfl).trans (hgs i hi).2⟩) ((rk_nP rfl).trans hR) hR4 (fun i hi => ⟨(rk_nP rfl).trans (hrs i hi).1, (rk_nP rfl).trans (hrs i hi).2.1, (rk_nP rfl).trans (hrs i hi).2.2.1, (rk_nP rfl).trans (hrs i hi).2.2.2.1, (rk_nP rfl).trans (hrs i hi).2.2.2.2.1, (rk_nP rfl).trans (hrs i hi).2.2.2.2.2⟩) (rg_R S + 1) 0 _ (by omega) (by omega) h9
      exact ⟨z, z1, z2, z3, (sb_fr.refl A b (b + 38)).trans z4⟩
    · skip
      rw [i32_le (by omega) (by omega)] at h1
      refine wp_st 1 (f' := (8, [some (.ref (b)), some (.int (Int32.ofNat t)), some (.int (Int32.ofNat k))], [.ref (b)], A)) rfl ?_
      refine rw_gr h rfl rfl rfl rfl rfl rfl ?_
      refine wp_st 3 (f' := (15, [some (.ref (b)), some (.int (Int32.ofNat t)), some (.int (Int32.ofNat k))], [.int ((Int32.ofNat 8) * (Int32.ofNat t)), .ref (b + 19)], A)) rfl ?_
      rw [i32_mul (8) (t)]
      refine wp_st 2 (f' := (17, [some (.ref (b)), some (.int (Int32.ofNat t)), some (.int (Int32.ofNat k))], [.int ((Int32.ofNat (8 * t)) + (Int32.ofNat k)), .ref (b + 19)], A)) rfl ?_
      rw [i32_add (8 * t) (k)]
      refine wp_st 1 (f' := (18, [some (.ref (b)), some (.int (Int32.ofNat t)), some (.int (Int32.ofNat k))], [.ref (b), .int (Int32.ofNat (8 * t + k)), .ref (b + 19)], A)) rfl ?_
      refine rw_gr h rfl rfl rfl rfl rfl rfl ?_
      refine wp_st 3 (f' := (25, [some (.ref (b)), some (.int (Int32.ofNat t)), some (.int (Int32.ofNat k))], [.int ((Int32.ofNat 16) + (Int32.ofNat k)), .ref (b + 20), .int (Int32.ofNat (8 * t + k)), .ref (b + 19)], A)) rfl ?_
      rw [i32_add (16) (k)]
      by_cases hq1 : rg_hr S k = true
      · skip
        have hq6 := hq7 k (by omega)
        have hq2 := (hcs k (by omega)).1 hq1
        have hq4 : rg_f S k < rg_e S k := Decidable.byContradiction (fun q => by unfold rg_hr at hq1; rw [if_neg q] at hq1; cases hq1)
        refine rw_al (j := 31) (n := 16 + k) (v := .int (Int32.ofNat (rg_e S k - rg_f S k))) h rfl rfl rfl (Or.inl ⟨rfl, rfl⟩) rfl (show _ < 24 from by omega) (by rw [rf_c_ne (by decide), rk_ne (by omega)]; exact hq2.2) rfl ?_
        refine wp_izF rfl rfl (fun q => absurd ((i32_le (a := rg_e S k - rg_f S k) (b := 0) (by omega) (by omega)).mp q) (by omega)) ?_
        refine wp_st 1 (f' := (30, [some (.ref (b)), some (.int (Int32.ofNat t)), some (.int (Int32.ofNat k))], [.ref (b), .int (Int32.ofNat (8 * t + k)), .ref (b + 19)], A)) rfl ?_
        refine rw_gr h rfl rfl rfl rfl rfl rfl ?_
        refine wp_st 3 (f' := (37, [some (.ref (b)), some (.int (Int32.ofNat t)), some (.int (Int32.ofNat k))], [.int ((Int32.ofNat 16) + (Int32.ofNat k)), .ref (b + 19), .int (Int32.ofNat (8 * t + k)), .ref (b + 19)], A)) rfl ?_
        rw [i32_add (16) (k)]
        refine rw_al (j := 30) (n := 16 + k) (v := .int (Int32.ofNat (96 + rg_f S k))) h rfl rfl rfl (Or.inl ⟨rfl, rfl⟩) rfl (show _ < 24 from by omega) (by rw [rf_c_ne (show 30 ≠ 17 ∧ 30 ≠ 18 ∧ 30 ≠ 28 ∧ 30 ≠ 29 by decide), rk_ne (by omega)]; exact hq2.1) rfl ?_
        refine wp_st 2 (f' := (41, [some (.ref (b)), some (.int (Int32.ofNat t)), some (.int (Int32.ofNat k))], [.int ((Int32.ofNat (96 + rg_f S k)) - (Int32.ofNat 96)), .int (Int32.ofNat (8 * t + k)), .ref (b + 19)], A)) rfl ?_
        rw [i32_sub (a := 96 + rg_f S k) (b := 96) (by omega)]
        refine wp_st 3 (f' := (45, [some (.ref (b)), some (.int (Int32.ofNat t)), some (.int (Int32.ofNat k))], [.int ((Int32.ofNat 48) * (Int32.ofNat t)), .int (Int32.ofNat ((96 + rg_f S k) - 96)), .int (Int32.ofNat (8 * t + k)), .ref (b + 19)], A)) rfl ?_
        rw [i32_mul (48) (t)]
        refine wp_st 1 (f' := (46, [some (.ref (b)), some (.int (Int32.ofNat t)), some (.int (Int32.ofNat k))], [.int ((Int32.ofNat ((96 + rg_f S k) - 96)) + (Int32.ofNat (48 * t))), .int (Int32.ofNat (8 * t + k)), .ref (b + 19)], A)) rfl ?_
        rw [i32_add ((96 + rg_f S k) - 96) (48 * t)]
        refine wp_st 1 (f' := (50, [some (.ref (b)), some (.int (Int32.ofNat t)), some (.int (Int32.ofNat k))], [.int (Int32.ofNat ((96 + rg_f S k) - 96 + (48 * t))), .int (Int32.ofNat (8 * t + k)), .ref (b + 19)], A)) rfl ?_
        refine rw_as (j := 30) (n := 8 * t + k) (v := .int (Int32.ofNat ((96 + rg_f S k) - 96 + (48 * t)))) h rfl rfl rfl (Or.inl ⟨rfl, rfl, rfl⟩) (show _ < 24 from by omega) rfl rfl (fun A2 h3 f4 => ?_)
        have f5 := (sb_fr.refl A b (b + 38)).trans f4
        rw [rf_c_u (by decide)] at h3
        refine wp_st 1 (f' := (52, [some (.ref (b)), some (.int (Int32.ofNat t)), some (.int (Int32.ofNat k))], [.ref (b)], A2)) rfl ?_
        refine rw_gr h3 rfl rfl rfl rfl rfl rfl ?_
        refine wp_st 3 (f' := (59, [some (.ref (b)), some (.int (Int32.ofNat t)), some (.int (Int32.ofNat k))], [.int ((Int32.ofNat 8) * (Int32.ofNat t)), .ref (b + 20)], A2)) rfl ?_
        rw [i32_mul (8) (t)]
        refine wp_st 2 (f' := (61, [some (.ref (b)), some (.int (Int32.ofNat t)), some (.int (Int32.ofNat k))], [.int ((Int32.ofNat (8 * t)) + (Int32.ofNat k)), .ref (b + 20)], A2)) rfl ?_
        rw [i32_add (8 * t) (k)]
        refine wp_st 1 (f' := (62, [some (.ref (b)), some (.int (Int32.ofNat t)), some (.int (Int32.ofNat k))], [.ref (b), .int (Int32.ofNat (8 * t + k)), .ref (b + 20)], A2)) rfl ?_
        refine rw_gr h3 rfl rfl rfl rfl rfl rfl ?_
        refine wp_st 3 (f' := (69, [some (.ref (b)), some (.int (Int32.ofNat t)), some (.int (Int32.ofNat k))], [.int ((Int32.ofNat 16) + (Int32.ofNat k)), .ref (b + 20), .int (Int32.ofNat (8 * t + k)), .ref (b + 20)], A2)) rfl ?_
        rw [i32_add (16) (k)]
        refine rw_al (j := 31) (n := 16 + k) (v := .int (Int32.ofNat (rg_e S k - rg_f S k))) h3 rfl rfl rfl (Or.inl ⟨rfl, rfl⟩) rfl (show _ < 24 from by omega) (by rw [rf_c_ne (show 31 ≠ 17 ∧ 31 ≠ 18 ∧ 31 ≠ 28 ∧ 31 ≠ 29 by decide), rf_u_ne (Or.inl (by decide)), rk_ne (by omega)]; exact hq2.2) rfl ?_
        refine rw_as (j := 31) (n := 8 * t + k) (v := .int (Int32.ofNat (rg_e S k - rg_f S k))) h3 rfl rfl rfl (Or.inl ⟨rfl, rfl, rfl⟩) (show _ < 24 from by omega) rfl rfl (fun A6 h7 f8 => ?_)
        have f9 := f5.trans f8
        rw [rf_c_u (by decide)] at h7
        refine wp_st 1 (f' := (74, [some (.ref (b)), some (.int (Int32.ofNat t)), some (.int ((Int32.ofNat k) + (Int32.ofNat 1)))], [], A6)) rfl ?_
        rw [i32_add (k) (1)]
        refine wp_st 1 (f' := (2, [some (.ref (b)), some (.int (Int32.ofNat t)), some (.int (Int32.ofNat (k + 1)))], [], A6)) rfl ?_
        rw [rk_step1y hq1 rfl] at h7
        obtain ⟨z, z1, z2, z3, z4⟩ := ih (k + 1) _ (by omega) (by omega) h7
        exact ⟨z, z1, z2, z3, f9.trans z4⟩
      · skip
        have hq2 := (hcs k (by omega)).2 (by simpa using hq1)
        refine rw_al (j := 31) (n := 16 + k) (v := .int (Int32.ofNat 0)) h rfl rfl rfl (Or.inl ⟨rfl, rfl⟩) rfl (show _ < 24 from by omega) (by rw [rf_c_ne (by decide), rk_ne (by omega)]; exact hq2) rfl ?_
        refine wp_izT rfl rfl ((i32_le (a := 0) (b := 0) (by omega) (by omega)).mpr (by omega)) ?_
        refine wp_st 1 (f' := (50, [some (.ref (b)), some (.int (Int32.ofNat t)), some (.int (Int32.ofNat k))], [.int (Int32.ofNat 0), .int (Int32.ofNat (8 * t + k)), .ref (b + 19)], A)) rfl ?_
        refine rw_as (j := 30) (n := 8 * t + k) (v := .int (Int32.ofNat 0)) h rfl rfl rfl (Or.inl ⟨rfl, rfl, rfl⟩) (show _ < 24 from by omega) rfl rfl (fun A10 h11 f12 => ?_)
        have f13 := (sb_fr.refl A b (b + 38)).trans f12
        rw [rf_c_u (by decide)] at h11
        refine wp_st 1 (f' := (52, [some (.ref (b)), some (.int (Int32.ofNat t)), some (.int (Int32.ofNat k))], [.ref (b)], A10)) rfl ?_
        refine rw_gr h11 rfl rfl rfl rfl rfl rfl ?_
        refine wp_st 3 (f' := (59, [some (.ref (b)), some (.int (Int32.ofNat t)), some (.int (Int32.ofNat k))], [.int ((Int32.ofNat 8) * (Int32.ofNat t)), .ref (b + 20)], A10)) rfl ?_
        rw [i32_mul (8) (t)]
        refine wp_st 2 (f' := (61, [some (.ref (b)), some (.int (Int32.ofNat t)), some (.int (Int32.ofNat k))], [.int ((Int32.ofNat (8 * t)) + (Int32.ofNat k)), .ref (b + 20)], A10)) rfl ?_
        rw [i32_add (8 * t) (k)]
        refine wp_st 1 (f' := (62, [some (.ref (b)), some (.int (Int32.ofNat t)), some (.int (Int32.ofNat k))], [.ref (b), .int (Int32.ofNat (8 * t + k)), .ref (b + 20)], A10)) rfl ?_
        refine rw_gr h11 rfl rfl rfl rfl rfl rfl ?_
        refine wp_st 3 (f' := (69, [some (.ref (b)), some (.int (Int32.ofNat t)), some (.int (Int32.ofNat k))], [.int ((Int32.ofNat 16) + (Int32.ofNat k)), .ref (b + 20), .int (Int32.ofNat (8 * t + k)), .ref (b + 20)], A10)) rfl ?_
        rw [i32_add (16) (k)]
        refine rw_al (j := 31) (n := 16 + k) (v := .int (Int32.ofNat 0)) h11 rfl rfl rfl (Or.inl ⟨rfl, rfl⟩) rfl (show _ < 24 from by omega) (by rw [rf_c_ne (show 31 ≠ 17 ∧ 31 ≠ 18 ∧ 31 ≠ 28 ∧ 31 ≠ 29 by decide), rf_u_ne (Or.inl (by decide)), rk_ne (by omega)]; exact hq2) rfl ?_
        refine rw_as (j := 31) (n := 8 * t + k) (v := .int (Int32.ofNat 0)) h11 rfl rfl rfl (Or.inl ⟨rfl, rfl, rfl⟩) (show _ < 24 from by omega) rfl rfl (fun A14 h15 f16 => ?_)
        have f17 := f13.trans f16
        rw [rf_c_u (by decide)] at h15
        refine wp_st 1 (f' := (74, [some (.ref (b)), some (.int (Int32.ofNat t)), some (.int ((Int32.ofNat k) + (Int32.ofNat 1)))], [], A14)) rfl ?_
        rw [i32_add (k) (1)]
        refine wp_st 1 (f' := (2, [some (.ref (b)), some (.int (Int32.ofNat t)), some (.int (Int32.ofNat (k + 1)))], [], A14)) rfl ?_
        rw [rk_step1n hq1 rfl] at h15
        obtain ⟨z, z1, z2, z3, z4⟩ := ih (k + 1) _ (by omega) (by omega) h15
        exact ⟨z, z1, z2, z3, f17.trans z4⟩
theorem rq_keep {d b t p g : Nat} {w : Int32} {r : Int64} {S : rg} {s : rf_S} {A : am_H} (ht : t ≤ 1) (hR : rg_R S ≤ 48) (hG : rg_G S ≤ 64) (hs : rs_S s S) (h : rf A b (rf_c s p w r g)) : rf_go d 154 [.ref b, .int (Int32.ofNat t)] A b none (rf_c (rk_all s S t) p w r g) := by
  refine rf_of ?_
  refine wp_st 2 (f' := (2, [some (.ref b), some (.int (Int32.ofNat t)), some (.int (Int32.ofNat 0))], [], A)) rfl ?_
  have h9 := h
  rw [← rk_0 s rk_P1 (rk_V1 S t) (8 * t)] at h9
  exact rq_k1 ht hs.2.1 hG hs.2.2.1.2 hs.1 hR hs.2.2.1.1 hs.2.2.2.1 hs.2.2.2.2.2.2 6 0 A (by omega) (by omega) h9
