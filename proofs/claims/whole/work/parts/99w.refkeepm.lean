/-! The reference: moved, keep. -/
theorem rn_mv {d f t : Nat} {x : Int32} {A : am_H} : am_go d 147 [.int x, .int (Int32.ofNat f), .int (Int32.ofNat t)] A (.inl (some (.int (rm_mv x f t))), A) := by
  refine wp_go ?_
  refine wp_st 1 (f' := (1, [some (.int (x)), some (.int (Int32.ofNat f)), some (.int (Int32.ofNat t))], [.int (x)], A)) rfl ?_
  refine wp_iz rfl rfl rfl (fun (h1 : (Int32.ofNat 0) ≤ x) => ?_) (fun (h1 : ¬ ((Int32.ofNat 0) ≤ x)) => ?_)
  · skip
    refine wp_st 5 (f' := (13, [some (.int (x)), some (.int (Int32.ofNat f)), some (.int (Int32.ofNat t))], [.int ((x - (Int32.ofNat f)) + (Int32.ofNat t))], A)) rfl ?_
    refine wp_rt rfl rfl rfl ?_
    rw [show rm_mv x f t = (x - (Int32.ofNat f)) + (Int32.ofNat t) from by unfold rm_mv; rw [if_neg (Int32.not_lt.mpr h1)]]
  · skip
    refine wp_st 2 (f' := (13, [some (.int (x)), some (.int (Int32.ofNat f)), some (.int (Int32.ofNat t))], [.int ((-1))], A)) rfl ?_
    refine wp_rt rfl rfl rfl ?_
    rw [show rm_mv x f t = -1 from by unfold rm_mv; rw [if_pos (Int32.not_le.mp h1)]]
theorem rq_kb {d b t p g mP mA mB : Nat} {w : Int32} {r : Int64} {b13 : Nat → Bool} {y14 : Nat → Int64} {x15 x16 : Nat → Int32} {u : rf_S} (hd : 1 ≤ d) (ht : t ≤ 1) (hB : u 21 0 = .int (Int32.ofNat mB)) (hB6 : mB ≤ 64) (hbs : ∀ i, i < mB → u 13 (128 + i) = .int (sb_i (b13 i)) ∧ u 14 (128 + i) = .long (y14 i) ∧ u 15 (128 + i) = .int (x15 i) ∧ u 16 (128 + i) = .int (x16 i)) : ∀ (q k : Nat) (A : am_H), mB - k < q → k ≤ mB → rf A b (rf_c (rk u rk_P13 (rv13 b13 y14 x15 x16 (128 * t) (64 * t)) (64 * t) k) p w r g) → am_wp d 146 (266, [some (.ref b), some (.int (Int32.ofNat t)), some (.int (Int32.ofNat (128 * t))), some (.int (Int32.ofNat (64 * t))), some (.int (Int32.ofNat k))], [], A) (fun q => q.1 = .inl none ∧ rf q.2 b (rf_c (rk u rk_P13 (rv13 b13 y14 x15 x16 (128 * t) (64 * t)) (64 * t) mB) p w r g) ∧ sb_fr A q.2 b (b + 38)) := by
  intro q
  induction q with
  | zero =>
    intro k A h1
    omega
  | succ q ih =>
    intro k A hq hk h
    refine wp_st 2 (f' := (269, [some (.ref (b)), some (.int (Int32.ofNat t)), some (.int (Int32.ofNat (128 * t))), some (.int (Int32.ofNat (64 * t))), some (.int (Int32.ofNat k))], [.ref (b), .int (Int32.ofNat k)], A)) rfl ?_
    refine rw_gf (v := .int (Int32.ofNat mB)) h rfl rfl rfl rfl ((rf_c_ne (by decide)).trans ((rk_nP rfl).trans hB)) rfl ?_
    refine wp_if rfl (show am_tgt 272 (103) = 375 by decide +kernel) rfl (fun (h1 : (Int32.ofNat mB) ≤ (Int32.ofNat k)) => ?_) (fun (h1 : ¬ ((Int32.ofNat mB) ≤ (Int32.ofNat k))) => ?_)
    · skip
      rw [i32_le (by omega) (by omega)] at h1
      refine wp_rt rfl rfl rfl ?_
      obtain rfl : k = mB := by omega
      exact ⟨rfl, h, (sb_fr.refl A b (b + 38))⟩
    · skip
      rw [i32_le (by omega) (by omega)] at h1
      refine wp_st 1 (f' := (276, [some (.ref (b)), some (.int (Int32.ofNat t)), some (.int (Int32.ofNat (128 * t))), some (.int (Int32.ofNat (64 * t))), some (.int (Int32.ofNat k))], [.ref (b)], A)) rfl ?_
      refine rw_gr h rfl rfl rfl rfl rfl rfl ?_
      refine wp_st 3 (f' := (283, [some (.ref (b)), some (.int (Int32.ofNat t)), some (.int (Int32.ofNat (128 * t))), some (.int (Int32.ofNat (64 * t))), some (.int (Int32.ofNat k))], [.int ((Int32.ofNat (64 * t)) + (Int32.ofNat k)), .ref (b + 11)], A)) rfl ?_
      rw [i32_add (64 * t) (k)]
      refine wp_st 1 (f' := (284, [some (.ref (b)), some (.int (Int32.ofNat t)), some (.int (Int32.ofNat (128 * t))), some (.int (Int32.ofNat (64 * t))), some (.int (Int32.ofNat k))], [.ref (b), .int (Int32.ofNat (64 * t + k)), .ref (b + 11)], A)) rfl ?_
      refine rw_gr h rfl rfl rfl rfl rfl rfl ?_
      refine wp_st 3 (f' := (293, [some (.ref (b)), some (.int (Int32.ofNat t)), some (.int (Int32.ofNat (128 * t))), some (.int (Int32.ofNat (64 * t))), some (.int (Int32.ofNat k))], [.int ((Int32.ofNat 128) + (Int32.ofNat k)), .ref (b + 11), .int (Int32.ofNat (64 * t + k)), .ref (b + 11)], A)) rfl ?_
      rw [i32_add (128) (k)]
      refine rw_al (j := 13) (n := 128 + k) (v := .int (sb_i (b13 k))) h rfl rfl rfl (Or.inr (Or.inr (Or.inr (Or.inl ⟨rfl, rfl⟩)))) rfl (show _ < 192 from by omega) (by rw [rf_c_ne (by decide), rk_ne (by omega)]; exact (hbs k (by omega)).1) rfl ?_
      refine rw_as (j := 13) (n := 64 * t + k) (v := .int (sb_i (b13 k))) h rfl rfl rfl (Or.inr (Or.inr ⟨rfl, rfl, rfl⟩)) (show _ < 192 from by omega) (sb_narrow_z _) rfl (fun A2 h3 f4 => ?_)
      have f5 := (sb_fr.refl A b (b + 38)).trans f4
      rw [rf_c_u (by decide)] at h3
      refine wp_st 1 (f' := (296, [some (.ref (b)), some (.int (Int32.ofNat t)), some (.int (Int32.ofNat (128 * t))), some (.int (Int32.ofNat (64 * t))), some (.int (Int32.ofNat k))], [.ref (b)], A2)) rfl ?_
      refine rw_gr h3 rfl rfl rfl rfl rfl rfl ?_
      refine wp_st 3 (f' := (303, [some (.ref (b)), some (.int (Int32.ofNat t)), some (.int (Int32.ofNat (128 * t))), some (.int (Int32.ofNat (64 * t))), some (.int (Int32.ofNat k))], [.int ((Int32.ofNat (64 * t)) + (Int32.ofNat k)), .ref (b + 12)], A2)) rfl ?_
      rw [i32_add (64 * t) (k)]
      refine wp_st 1 (f' := (304, [some (.ref (b)), some (.int (Int32.ofNat t)), some (.int (Int32.ofNat (128 * t))), some (.int (Int32.ofNat (64 * t))), some (.int (Int32.ofNat k))], [.ref (b), .int (Int32.ofNat (64 * t + k)), .ref (b + 12)], A2)) rfl ?_
      refine rw_gr h3 rfl rfl rfl rfl rfl rfl ?_
      refine wp_st 3 (f' := (313, [some (.ref (b)), some (.int (Int32.ofNat t)), some (.int (Int32.ofNat (128 * t))), some (.int (Int32.ofNat (64 * t))), some (.int (Int32.ofNat k))], [.int ((Int32.ofNat 128) + (Int32.ofNat k)), .ref (b + 12), .int (Int32.ofNat (64 * t + k)), .ref (b + 12)], A2)) rfl ?_
      rw [i32_add (128) (k)]
      refine rw_al (j := 14) (n := 128 + k) (v := .long (y14 k)) h3 rfl rfl rfl (Or.inr (Or.inl ⟨rfl, rfl⟩)) rfl (show _ < 192 from by omega) (by rw [rf_c_ne (by decide), rf_u_ne (by omega), rk_ne (by omega)]; exact (hbs k (by omega)).2.1) rfl ?_
      refine rw_ls (j := 14) (n := 64 * t + k) h3 rfl rfl rfl rfl (show _ < 192 from by omega) rfl (fun A6 h7 f8 => ?_)
      have f9 := f5.trans f8
      rw [rf_c_u (by decide)] at h7
      refine wp_st 1 (f' := (316, [some (.ref (b)), some (.int (Int32.ofNat t)), some (.int (Int32.ofNat (128 * t))), some (.int (Int32.ofNat (64 * t))), some (.int (Int32.ofNat k))], [.ref (b)], A6)) rfl ?_
      refine rw_gr h7 rfl rfl rfl rfl rfl rfl ?_
      refine wp_st 3 (f' := (323, [some (.ref (b)), some (.int (Int32.ofNat t)), some (.int (Int32.ofNat (128 * t))), some (.int (Int32.ofNat (64 * t))), some (.int (Int32.ofNat k))], [.int ((Int32.ofNat (64 * t)) + (Int32.ofNat k)), .ref (b + 13)], A6)) rfl ?_
      rw [i32_add (64 * t) (k)]
      refine wp_st 1 (f' := (324, [some (.ref (b)), some (.int (Int32.ofNat t)), some (.int (Int32.ofNat (128 * t))), some (.int (Int32.ofNat (64 * t))), some (.int (Int32.ofNat k))], [.ref (b), .int (Int32.ofNat (64 * t + k)), .ref (b + 13)], A6)) rfl ?_
      refine rw_gr h7 rfl rfl rfl rfl rfl rfl ?_
      refine wp_st 3 (f' := (333, [some (.ref (b)), some (.int (Int32.ofNat t)), some (.int (Int32.ofNat (128 * t))), some (.int (Int32.ofNat (64 * t))), some (.int (Int32.ofNat k))], [.int ((Int32.ofNat 128) + (Int32.ofNat k)), .ref (b + 13), .int (Int32.ofNat (64 * t + k)), .ref (b + 13)], A6)) rfl ?_
      rw [i32_add (128) (k)]
      refine rw_al (j := 15) (n := 128 + k) (v := .int (x15 k)) h7 rfl rfl rfl (Or.inl ⟨rfl, rfl⟩) rfl (show _ < 192 from by omega) (by rw [rf_c_ne (by decide), rf_u_ne (by omega), rf_u_ne (by omega), rk_ne (by omega)]; exact (hbs k (by omega)).2.2.1) rfl ?_
      refine wp_st 2 (f' := (338, [some (.ref (b)), some (.int (Int32.ofNat t)), some (.int (Int32.ofNat (128 * t))), some (.int (Int32.ofNat (64 * t))), some (.int (Int32.ofNat k))], [.int (Int32.ofNat (128 * t)), .int (Int32.ofNat 256), .int (x15 k), .int (Int32.ofNat (64 * t + k)), .ref (b + 13)], A6)) rfl ?_
      refine wp_cs (n := 0) (A' := A6) (v := some (.int (rm_mv (x15 k) (256) (128 * t)))) rfl rfl rfl (by omega) (rn_mv (f := 256) (t := 128 * t)) rfl ?_
      show am_wp d 146 (341, [some (.ref (b)), some (.int (Int32.ofNat t)), some (.int (Int32.ofNat (128 * t))), some (.int (Int32.ofNat (64 * t))), some (.int (Int32.ofNat k))], [.int (rm_mv (x15 k) (256) (128 * t)), .int (Int32.ofNat (64 * t + k)), .ref (b + 13)], A6) _
      refine rw_as (j := 15) (n := 64 * t + k) (v := .int (rm_mv (x15 k) (256) (128 * t))) h7 rfl rfl rfl (Or.inl ⟨rfl, rfl, rfl⟩) (show _ < 192 from by omega) rfl rfl (fun A10 h11 f12 => ?_)
      have f13 := f9.trans f12
      rw [rf_c_u (by decide)] at h11
      refine wp_st 1 (f' := (343, [some (.ref (b)), some (.int (Int32.ofNat t)), some (.int (Int32.ofNat (128 * t))), some (.int (Int32.ofNat (64 * t))), some (.int (Int32.ofNat k))], [.ref (b)], A10)) rfl ?_
      refine rw_gr h11 rfl rfl rfl rfl rfl rfl ?_
      refine wp_st 3 (f' := (350, [some (.ref (b)), some (.int (Int32.ofNat t)), some (.int (Int32.ofNat (128 * t))), some (.int (Int32.ofNat (64 * t))), some (.int (Int32.ofNat k))], [.int ((Int32.ofNat (64 * t)) + (Int32.ofNat k)), .ref (b + 14)], A10)) rfl ?_
      rw [i32_add (64 * t) (k)]
      refine wp_st 1 (f' := (351, [some (.ref (b)), some (.int (Int32.ofNat t)), some (.int (Int32.ofNat (128 * t))), some (.int (Int32.ofNat (64 * t))), some (.int (Int32.ofNat k))], [.ref (b), .int (Int32.ofNat (64 * t + k)), .ref (b + 14)], A10)) rfl ?_
      refine rw_gr h11 rfl rfl rfl rfl rfl rfl ?_
      refine wp_st 3 (f' := (360, [some (.ref (b)), some (.int (Int32.ofNat t)), some (.int (Int32.ofNat (128 * t))), some (.int (Int32.ofNat (64 * t))), some (.int (Int32.ofNat k))], [.int ((Int32.ofNat 128) + (Int32.ofNat k)), .ref (b + 14), .int (Int32.ofNat (64 * t + k)), .ref (b + 14)], A10)) rfl ?_
      rw [i32_add (128) (k)]
      refine rw_al (j := 16) (n := 128 + k) (v := .int (x16 k)) h11 rfl rfl rfl (Or.inl ⟨rfl, rfl⟩) rfl (show _ < 192 from by omega) (by rw [rf_c_ne (by decide), rf_u_ne (by omega), rf_u_ne (by omega), rf_u_ne (by omega), rk_ne (by omega)]; exact (hbs k (by omega)).2.2.2) rfl ?_
      refine wp_st 2 (f' := (365, [some (.ref (b)), some (.int (Int32.ofNat t)), some (.int (Int32.ofNat (128 * t))), some (.int (Int32.ofNat (64 * t))), some (.int (Int32.ofNat k))], [.int (Int32.ofNat (64 * t)), .int (Int32.ofNat 128), .int (x16 k), .int (Int32.ofNat (64 * t + k)), .ref (b + 14)], A10)) rfl ?_
      refine wp_cs (n := 0) (A' := A10) (v := some (.int (rm_mv (x16 k) (128) (64 * t)))) rfl rfl rfl (by omega) (rn_mv (f := 128) (t := 64 * t)) rfl ?_
      show am_wp d 146 (368, [some (.ref (b)), some (.int (Int32.ofNat t)), some (.int (Int32.ofNat (128 * t))), some (.int (Int32.ofNat (64 * t))), some (.int (Int32.ofNat k))], [.int (rm_mv (x16 k) (128) (64 * t)), .int (Int32.ofNat (64 * t + k)), .ref (b + 14)], A10) _
      refine rw_as (j := 16) (n := 64 * t + k) (v := .int (rm_mv (x16 k) (128) (64 * t))) h11 rfl rfl rfl (Or.inl ⟨rfl, rfl, rfl⟩) (show _ < 192 from by omega) rfl rfl (fun A14 h15 f16 => ?_)
      have f17 := f13.trans f16
      rw [rf_c_u (by decide)] at h15
      refine wp_st 1 (f' := (372, [some (.ref (b)), some (.int (Int32.ofNat t)), some (.int (Int32.ofNat (128 * t))), some (.int (Int32.ofNat (64 * t))), some (.int ((Int32.ofNat k) + (Int32.ofNat 1)))], [], A14)) rfl ?_
      rw [i32_add (k) (1)]
      refine wp_gt rfl (show am_tgt 372 (-106) = 266 by decide +kernel) ?_
      rw [rk_step13 rfl] at h15
      obtain ⟨z, z1, z2, z3, z4⟩ := ih (k + 1) _ (by omega) (by omega) h15
      exact ⟨z, z1, z2, z3, f17.trans z4⟩
theorem rq_ka {d b t p g mP mA mB : Nat} {w : Int32} {r : Int64} {b13 : Nat → Bool} {y14 : Nat → Int64} {x15 x16 : Nat → Int32} {x9 x10 x11 x12 : Nat → Int32} {u : rf_S} (hd : 1 ≤ d) (ht : t ≤ 1) (hB : u 21 0 = .int (Int32.ofNat mB)) (hB6 : mB ≤ 64) (hbs : ∀ i, i < mB → u 13 (128 + i) = .int (sb_i (b13 i)) ∧ u 14 (128 + i) = .long (y14 i) ∧ u 15 (128 + i) = .int (x15 i) ∧ u 16 (128 + i) = .int (x16 i)) (hA : u 20 0 = .int (Int32.ofNat mA)) (hA6 : mA ≤ 64) (has : ∀ i, i < mA → u 9 (128 + i) = .int (x9 i) ∧ u 10 (128 + i) = .int (x10 i) ∧ u 11 (128 + i) = .int (x11 i) ∧ u 12 (128 + i) = .int (x12 i)) : ∀ (q k : Nat) (A : am_H), mA - k < q → k ≤ mA → rf A b (rf_c (rk u rk_P9 (rv9 x9 x10 x11 x12 (64 * t)) (64 * t) k) p w r g) → am_wp d 146 (161, [some (.ref b), some (.int (Int32.ofNat t)), some (.int (Int32.ofNat (128 * t))), some (.int (Int32.ofNat (64 * t))), some (.int (Int32.ofNat k))], [], A) (fun q => q.1 = .inl none ∧ rf q.2 b (rf_c (rk (rk u rk_P9 (rv9 x9 x10 x11 x12 (64 * t)) (64 * t) mA) rk_P13 (rv13 b13 y14 x15 x16 (128 * t) (64 * t)) (64 * t) mB) p w r g) ∧ sb_fr A q.2 b (b + 38)) := by
  intro q
  induction q with
  | zero =>
    intro k A h1
    omega
  | succ q ih =>
    intro k A hq hk h
    refine wp_st 2 (f' := (164, [some (.ref (b)), some (.int (Int32.ofNat t)), some (.int (Int32.ofNat (128 * t))), some (.int (Int32.ofNat (64 * t))), some (.int (Int32.ofNat k))], [.ref (b), .int (Int32.ofNat k)], A)) rfl ?_
    refine rw_gf (v := .int (Int32.ofNat mA)) h rfl rfl rfl rfl ((rf_c_ne (by decide)).trans ((rk_nP rfl).trans hA)) rfl ?_
    refine wp_if rfl (show am_tgt 167 (96) = 263 by decide +kernel) rfl (fun (h1 : (Int32.ofNat mA) ≤ (Int32.ofNat k)) => ?_) (fun (h1 : ¬ ((Int32.ofNat mA) ≤ (Int32.ofNat k))) => ?_)
    · skip
      rw [i32_le (by omega) (by omega)] at h1
      refine wp_st 2 (f' := (266, [some (.ref (b)), some (.int (Int32.ofNat t)), some (.int (Int32.ofNat (128 * t))), some (.int (Int32.ofNat (64 * t))), some (.int (Int32.ofNat 0))], [], A)) rfl ?_
      obtain rfl : k = mA := by omega
      have h9 := h
      rw [← rk_0 (rk u rk_P9 (rv9 x9 x10 x11 x12 (64 * t)) (64 * t) k) rk_P13 (rv13 b13 y14 x15 x16 (128 * t) (64 * t)) (64 * t)] at h9
      obtain ⟨z, z1, z2, z3, z4⟩ := rq_kb (d := d) (mP := mP) (mA := k) hd ht ((rk_nP rfl).trans hB) hB6 (fun i hi => ⟨(rk_nP rfl).trans (hbs i hi).1, (rk_nP rfl).trans (hbs i hi).2.1, (rk_nP rfl).trans (hbs i hi).2.2.1, (rk_nP rfl).trans (hbs i hi).2.2.2⟩) (mB + 1) 0 _ (by omega) (by omega) h9
      exact ⟨z, z1, z2, z3, (sb_fr.refl A b (b + 38)).trans z4⟩
    · skip
      rw [i32_le (by omega) (by omega)] at h1
      refine wp_st 1 (f' := (171, [some (.ref (b)), some (.int (Int32.ofNat t)), some (.int (Int32.ofNat (128 * t))), some (.int (Int32.ofNat (64 * t))), some (.int (Int32.ofNat k))], [.ref (b)], A)) rfl ?_
      refine rw_gr h rfl rfl rfl rfl rfl rfl ?_
      refine wp_st 3 (f' := (178, [some (.ref (b)), some (.int (Int32.ofNat t)), some (.int (Int32.ofNat (128 * t))), some (.int (Int32.ofNat (64 * t))), some (.int (Int32.ofNat k))], [.int ((Int32.ofNat (64 * t)) + (Int32.ofNat k)), .ref (b + 7)], A)) rfl ?_
      rw [i32_add (64 * t) (k)]
      refine wp_st 1 (f' := (179, [some (.ref (b)), some (.int (Int32.ofNat t)), some (.int (Int32.ofNat (128 * t))), some (.int (Int32.ofNat (64 * t))), some (.int (Int32.ofNat k))], [.ref (b), .int (Int32.ofNat (64 * t + k)), .ref (b + 7)], A)) rfl ?_
      refine rw_gr h rfl rfl rfl rfl rfl rfl ?_
      refine wp_st 3 (f' := (188, [some (.ref (b)), some (.int (Int32.ofNat t)), some (.int (Int32.ofNat (128 * t))), some (.int (Int32.ofNat (64 * t))), some (.int (Int32.ofNat k))], [.int ((Int32.ofNat 128) + (Int32.ofNat k)), .ref (b + 7), .int (Int32.ofNat (64 * t + k)), .ref (b + 7)], A)) rfl ?_
      rw [i32_add (128) (k)]
      refine rw_al (j := 9) (n := 128 + k) (v := .int (x9 k)) h rfl rfl rfl (Or.inl ⟨rfl, rfl⟩) rfl (show _ < 192 from by omega) (by rw [rf_c_ne (by decide), rk_ne (by omega)]; exact (has k (by omega)).1) rfl ?_
      refine rw_as (j := 9) (n := 64 * t + k) (v := .int (x9 k)) h rfl rfl rfl (Or.inl ⟨rfl, rfl, rfl⟩) (show _ < 192 from by omega) rfl rfl (fun A2 h3 f4 => ?_)
      have f5 := (sb_fr.refl A b (b + 38)).trans f4
      rw [rf_c_u (by decide)] at h3
      refine wp_st 1 (f' := (191, [some (.ref (b)), some (.int (Int32.ofNat t)), some (.int (Int32.ofNat (128 * t))), some (.int (Int32.ofNat (64 * t))), some (.int (Int32.ofNat k))], [.ref (b)], A2)) rfl ?_
      refine rw_gr h3 rfl rfl rfl rfl rfl rfl ?_
      refine wp_st 3 (f' := (198, [some (.ref (b)), some (.int (Int32.ofNat t)), some (.int (Int32.ofNat (128 * t))), some (.int (Int32.ofNat (64 * t))), some (.int (Int32.ofNat k))], [.int ((Int32.ofNat (64 * t)) + (Int32.ofNat k)), .ref (b + 8)], A2)) rfl ?_
      rw [i32_add (64 * t) (k)]
      refine wp_st 1 (f' := (199, [some (.ref (b)), some (.int (Int32.ofNat t)), some (.int (Int32.ofNat (128 * t))), some (.int (Int32.ofNat (64 * t))), some (.int (Int32.ofNat k))], [.ref (b), .int (Int32.ofNat (64 * t + k)), .ref (b + 8)], A2)) rfl ?_
      refine rw_gr h3 rfl rfl rfl rfl rfl rfl ?_
      refine wp_st 3 (f' := (208, [some (.ref (b)), some (.int (Int32.ofNat t)), some (.int (Int32.ofNat (128 * t))), some (.int (Int32.ofNat (64 * t))), some (.int (Int32.ofNat k))], [.int ((Int32.ofNat 128) + (Int32.ofNat k)), .ref (b + 8), .int (Int32.ofNat (64 * t + k)), .ref (b + 8)], A2)) rfl ?_
      rw [i32_add (128) (k)]
      refine rw_al (j := 10) (n := 128 + k) (v := .int (x10 k)) h3 rfl rfl rfl (Or.inl ⟨rfl, rfl⟩) rfl (show _ < 192 from by omega) (by rw [rf_c_ne (by decide), rf_u_ne (by omega), rk_ne (by omega)]; exact (has k (by omega)).2.1) rfl ?_
      refine rw_as (j := 10) (n := 64 * t + k) (v := .int (x10 k)) h3 rfl rfl rfl (Or.inl ⟨rfl, rfl, rfl⟩) (show _ < 192 from by omega) rfl rfl (fun A6 h7 f8 => ?_)
      have f9 := f5.trans f8
      rw [rf_c_u (by decide)] at h7
      refine wp_st 1 (f' := (211, [some (.ref (b)), some (.int (Int32.ofNat t)), some (.int (Int32.ofNat (128 * t))), some (.int (Int32.ofNat (64 * t))), some (.int (Int32.ofNat k))], [.ref (b)], A6)) rfl ?_
      refine rw_gr h7 rfl rfl rfl rfl rfl rfl ?_
      refine wp_st 3 (f' := (218, [some (.ref (b)), some (.int (Int32.ofNat t)), some (.int (Int32.ofNat (128 * t))), some (.int (Int32.ofNat (64 * t))), some (.int (Int32.ofNat k))], [.int ((Int32.ofNat (64 * t)) + (Int32.ofNat k)), .ref (b + 9)], A6)) rfl ?_
      rw [i32_add (64 * t) (k)]
      refine wp_st 1 (f' := (219, [some (.ref (b)), some (.int (Int32.ofNat t)), some (.int (Int32.ofNat (128 * t))), some (.int (Int32.ofNat (64 * t))), some (.int (Int32.ofNat k))], [.ref (b), .int (Int32.ofNat (64 * t + k)), .ref (b + 9)], A6)) rfl ?_
      refine rw_gr h7 rfl rfl rfl rfl rfl rfl ?_
      refine wp_st 3 (f' := (228, [some (.ref (b)), some (.int (Int32.ofNat t)), some (.int (Int32.ofNat (128 * t))), some (.int (Int32.ofNat (64 * t))), some (.int (Int32.ofNat k))], [.int ((Int32.ofNat 128) + (Int32.ofNat k)), .ref (b + 9), .int (Int32.ofNat (64 * t + k)), .ref (b + 9)], A6)) rfl ?_
      rw [i32_add (128) (k)]
      refine rw_al (j := 11) (n := 128 + k) (v := .int (x11 k)) h7 rfl rfl rfl (Or.inl ⟨rfl, rfl⟩) rfl (show _ < 192 from by omega) (by rw [rf_c_ne (by decide), rf_u_ne (by omega), rf_u_ne (by omega), rk_ne (by omega)]; exact (has k (by omega)).2.2.1) rfl ?_
      refine rw_as (j := 11) (n := 64 * t + k) (v := .int (x11 k)) h7 rfl rfl rfl (Or.inl ⟨rfl, rfl, rfl⟩) (show _ < 192 from by omega) rfl rfl (fun A10 h11 f12 => ?_)
      have f13 := f9.trans f12
      rw [rf_c_u (by decide)] at h11
      refine wp_st 1 (f' := (231, [some (.ref (b)), some (.int (Int32.ofNat t)), some (.int (Int32.ofNat (128 * t))), some (.int (Int32.ofNat (64 * t))), some (.int (Int32.ofNat k))], [.ref (b)], A10)) rfl ?_
      refine rw_gr h11 rfl rfl rfl rfl rfl rfl ?_
      refine wp_st 3 (f' := (238, [some (.ref (b)), some (.int (Int32.ofNat t)), some (.int (Int32.ofNat (128 * t))), some (.int (Int32.ofNat (64 * t))), some (.int (Int32.ofNat k))], [.int ((Int32.ofNat (64 * t)) + (Int32.ofNat k)), .ref (b + 10)], A10)) rfl ?_
      rw [i32_add (64 * t) (k)]
      refine wp_st 1 (f' := (239, [some (.ref (b)), some (.int (Int32.ofNat t)), some (.int (Int32.ofNat (128 * t))), some (.int (Int32.ofNat (64 * t))), some (.int (Int32.ofNat k))], [.ref (b), .int (Int32.ofNat (64 * t + k)), .ref (b + 10)], A10)) rfl ?_
      refine rw_gr h11 rfl rfl rfl rfl rfl rfl ?_
      refine wp_st 3 (f' := (248, [some (.ref (b)), some (.int (Int32.ofNat t)), some (.int (Int32.ofNat (128 * t))), some (.int (Int32.ofNat (64 * t))), some (.int (Int32.ofNat k))], [.int ((Int32.ofNat 128) + (Int32.ofNat k)), .ref (b + 10), .int (Int32.ofNat (64 * t + k)), .ref (b + 10)], A10)) rfl ?_
      rw [i32_add (128) (k)]
      refine rw_al (j := 12) (n := 128 + k) (v := .int (x12 k)) h11 rfl rfl rfl (Or.inl ⟨rfl, rfl⟩) rfl (show _ < 192 from by omega) (by rw [rf_c_ne (by decide), rf_u_ne (by omega), rf_u_ne (by omega), rf_u_ne (by omega), rk_ne (by omega)]; exact (has k (by omega)).2.2.2) rfl ?_
      refine wp_st 2 (f' := (253, [some (.ref (b)), some (.int (Int32.ofNat t)), some (.int (Int32.ofNat (128 * t))), some (.int (Int32.ofNat (64 * t))), some (.int (Int32.ofNat k))], [.int (Int32.ofNat (64 * t)), .int (Int32.ofNat 128), .int (x12 k), .int (Int32.ofNat (64 * t + k)), .ref (b + 10)], A10)) rfl ?_
      refine wp_cs (n := 0) (A' := A10) (v := some (.int (rm_mv (x12 k) (128) (64 * t)))) rfl rfl rfl (by omega) (rn_mv (f := 128) (t := 64 * t)) rfl ?_
      show am_wp d 146 (256, [some (.ref (b)), some (.int (Int32.ofNat t)), some (.int (Int32.ofNat (128 * t))), some (.int (Int32.ofNat (64 * t))), some (.int (Int32.ofNat k))], [.int (rm_mv (x12 k) (128) (64 * t)), .int (Int32.ofNat (64 * t + k)), .ref (b + 10)], A10) _
      refine rw_as (j := 12) (n := 64 * t + k) (v := .int (rm_mv (x12 k) (128) (64 * t))) h11 rfl rfl rfl (Or.inl ⟨rfl, rfl, rfl⟩) (show _ < 192 from by omega) rfl rfl (fun A14 h15 f16 => ?_)
      have f17 := f13.trans f16
      rw [rf_c_u (by decide)] at h15
      refine wp_st 1 (f' := (260, [some (.ref (b)), some (.int (Int32.ofNat t)), some (.int (Int32.ofNat (128 * t))), some (.int (Int32.ofNat (64 * t))), some (.int ((Int32.ofNat k) + (Int32.ofNat 1)))], [], A14)) rfl ?_
      rw [i32_add (k) (1)]
      refine wp_gt rfl (show am_tgt 260 (-99) = 161 by decide +kernel) ?_
      rw [rk_step9 rfl] at h15
      obtain ⟨z, z1, z2, z3, z4⟩ := ih (k + 1) _ (by omega) (by omega) h15
      exact ⟨z, z1, z2, z3, f17.trans z4⟩
theorem rq_kq {d b t p g mP mA mB : Nat} {w : Int32} {r : Int64} {b13 : Nat → Bool} {y14 : Nat → Int64} {x15 x16 : Nat → Int32} {x9 x10 x11 x12 : Nat → Int32} {x6 x7 x8 : Nat → Int32} {u : rf_S} (hd : 1 ≤ d) (ht : t ≤ 1) (hB : u 21 0 = .int (Int32.ofNat mB)) (hB6 : mB ≤ 64) (hbs : ∀ i, i < mB → u 13 (128 + i) = .int (sb_i (b13 i)) ∧ u 14 (128 + i) = .long (y14 i) ∧ u 15 (128 + i) = .int (x15 i) ∧ u 16 (128 + i) = .int (x16 i)) (hA : u 20 0 = .int (Int32.ofNat mA)) (hA6 : mA ≤ 64) (has : ∀ i, i < mA → u 9 (128 + i) = .int (x9 i) ∧ u 10 (128 + i) = .int (x10 i) ∧ u 11 (128 + i) = .int (x11 i) ∧ u 12 (128 + i) = .int (x12 i)) (hPp : u 19 0 = .int (Int32.ofNat mP)) (hP6 : mP ≤ 128) (hps : ∀ i, i < mP → u 6 (256 + i) = .int (x6 i) ∧ u 7 (256 + i) = .int (x7 i) ∧ u 8 (256 + i) = .int (x8 i)) : ∀ (q k : Nat) (A : am_H), mP - k < q → k ≤ mP → rf A b (rf_c (rk u rk_P6 (rv6 x6 x7 x8 (128 * t) (64 * t)) (128 * t) k) p w r g) → am_wp d 146 (40, [some (.ref b), some (.int (Int32.ofNat t)), some (.int (Int32.ofNat (128 * t))), some (.int (Int32.ofNat (64 * t))), some (.int (Int32.ofNat k))], [], A) (fun q => q.1 = .inl none ∧ rf q.2 b (rf_c (rk (rk (rk u rk_P6 (rv6 x6 x7 x8 (128 * t) (64 * t)) (128 * t) mP) rk_P9 (rv9 x9 x10 x11 x12 (64 * t)) (64 * t) mA) rk_P13 (rv13 b13 y14 x15 x16 (128 * t) (64 * t)) (64 * t) mB) p w r g) ∧ sb_fr A q.2 b (b + 38)) := by
  intro q
  induction q with
  | zero =>
    intro k A h1
    omega
  | succ q ih =>
    intro k A hq hk h
    refine wp_st 2 (f' := (43, [some (.ref (b)), some (.int (Int32.ofNat t)), some (.int (Int32.ofNat (128 * t))), some (.int (Int32.ofNat (64 * t))), some (.int (Int32.ofNat k))], [.ref (b), .int (Int32.ofNat k)], A)) rfl ?_
    refine rw_gf (v := .int (Int32.ofNat mP)) h rfl rfl rfl rfl ((rf_c_ne (by decide)).trans ((rk_nP rfl).trans hPp)) rfl ?_
    refine wp_if rfl (show am_tgt 46 (112) = 158 by decide +kernel) rfl (fun (h1 : (Int32.ofNat mP) ≤ (Int32.ofNat k)) => ?_) (fun (h1 : ¬ ((Int32.ofNat mP) ≤ (Int32.ofNat k))) => ?_)
    · skip
      rw [i32_le (by omega) (by omega)] at h1
      refine wp_st 2 (f' := (161, [some (.ref (b)), some (.int (Int32.ofNat t)), some (.int (Int32.ofNat (128 * t))), some (.int (Int32.ofNat (64 * t))), some (.int (Int32.ofNat 0))], [], A)) rfl ?_
      obtain rfl : k = mP := by omega
      have h9 := h
      rw [← rk_0 (rk u rk_P6 (rv6 x6 x7 x8 (128 * t) (64 * t)) (128 * t) k) rk_P9 (rv9 x9 x10 x11 x12 (64 * t)) (64 * t)] at h9
      obtain ⟨z, z1, z2, z3, z4⟩ := rq_ka (d := d) (mP := k) hd ht ((rk_nP rfl).trans hB) hB6 (fun i hi => ⟨(rk_nP rfl).trans (hbs i hi).1, (rk_nP rfl).trans (hbs i hi).2.1, (rk_nP rfl).trans (hbs i hi).2.2.1, (rk_nP rfl).trans (hbs i hi).2.2.2⟩) ((rk_nP rfl).trans hA) hA6 (fun i hi => ⟨(rk_nP rfl).trans (has i hi).1, (rk_nP rfl).trans (has i hi).2.1, (rk_nP rfl).trans (has i hi).2.2.1, (rk_nP rfl).trans (has i hi).2.2.2⟩) (mA + 1) 0 _ (by omega) (by omega) h9
      exact ⟨z, z1, z2, z3, (sb_fr.refl A b (b + 38)).trans z4⟩
    · skip
      rw [i32_le (by omega) (by omega)] at h1
      refine wp_st 1 (f' := (50, [some (.ref (b)), some (.int (Int32.ofNat t)), some (.int (Int32.ofNat (128 * t))), some (.int (Int32.ofNat (64 * t))), some (.int (Int32.ofNat k))], [.ref (b)], A)) rfl ?_
      refine rw_gr h rfl rfl rfl rfl rfl rfl ?_
      refine wp_st 3 (f' := (57, [some (.ref (b)), some (.int (Int32.ofNat t)), some (.int (Int32.ofNat (128 * t))), some (.int (Int32.ofNat (64 * t))), some (.int (Int32.ofNat k))], [.int ((Int32.ofNat (128 * t)) + (Int32.ofNat k)), .ref (b + 4)], A)) rfl ?_
      rw [i32_add (128 * t) (k)]
      refine wp_st 1 (f' := (58, [some (.ref (b)), some (.int (Int32.ofNat t)), some (.int (Int32.ofNat (128 * t))), some (.int (Int32.ofNat (64 * t))), some (.int (Int32.ofNat k))], [.ref (b), .int (Int32.ofNat (128 * t + k)), .ref (b + 4)], A)) rfl ?_
      refine rw_gr h rfl rfl rfl rfl rfl rfl ?_
      refine wp_st 3 (f' := (67, [some (.ref (b)), some (.int (Int32.ofNat t)), some (.int (Int32.ofNat (128 * t))), some (.int (Int32.ofNat (64 * t))), some (.int (Int32.ofNat k))], [.int ((Int32.ofNat 256) + (Int32.ofNat k)), .ref (b + 4), .int (Int32.ofNat (128 * t + k)), .ref (b + 4)], A)) rfl ?_
      rw [i32_add (256) (k)]
      refine rw_al (j := 6) (n := 256 + k) (v := .int (x6 k)) h rfl rfl rfl (Or.inl ⟨rfl, rfl⟩) rfl (show _ < 384 from by omega) (by rw [rf_c_ne (by decide), rk_ne (by omega)]; exact (hps k (by omega)).1) rfl ?_
      refine rw_as (j := 6) (n := 128 * t + k) (v := .int (x6 k)) h rfl rfl rfl (Or.inl ⟨rfl, rfl, rfl⟩) (show _ < 384 from by omega) rfl rfl (fun A2 h3 f4 => ?_)
      have f5 := (sb_fr.refl A b (b + 38)).trans f4
      rw [rf_c_u (by decide)] at h3
      refine wp_st 1 (f' := (70, [some (.ref (b)), some (.int (Int32.ofNat t)), some (.int (Int32.ofNat (128 * t))), some (.int (Int32.ofNat (64 * t))), some (.int (Int32.ofNat k))], [.ref (b)], A2)) rfl ?_
      refine rw_gr h3 rfl rfl rfl rfl rfl rfl ?_
      refine wp_st 3 (f' := (77, [some (.ref (b)), some (.int (Int32.ofNat t)), some (.int (Int32.ofNat (128 * t))), some (.int (Int32.ofNat (64 * t))), some (.int (Int32.ofNat k))], [.int ((Int32.ofNat (128 * t)) + (Int32.ofNat k)), .ref (b + 5)], A2)) rfl ?_
      rw [i32_add (128 * t) (k)]
      refine wp_st 1 (f' := (78, [some (.ref (b)), some (.int (Int32.ofNat t)), some (.int (Int32.ofNat (128 * t))), some (.int (Int32.ofNat (64 * t))), some (.int (Int32.ofNat k))], [.ref (b), .int (Int32.ofNat (128 * t + k)), .ref (b + 5)], A2)) rfl ?_
      refine rw_gr h3 rfl rfl rfl rfl rfl rfl ?_
      refine wp_st 3 (f' := (87, [some (.ref (b)), some (.int (Int32.ofNat t)), some (.int (Int32.ofNat (128 * t))), some (.int (Int32.ofNat (64 * t))), some (.int (Int32.ofNat k))], [.int ((Int32.ofNat 256) + (Int32.ofNat k)), .ref (b + 4), .int (Int32.ofNat (128 * t + k)), .ref (b + 5)], A2)) rfl ?_
      rw [i32_add (256) (k)]
      refine rw_al (j := 6) (n := 256 + k) (v := .int (x6 k)) h3 rfl rfl rfl (Or.inl ⟨rfl, rfl⟩) rfl (show _ < 384 from by omega) (by rw [rf_c_ne (by decide), rf_u_ne (by omega), rk_ne (by omega)]; exact (hps k (by omega)).1) rfl ?_
      refine wp_st 1 (f' := (89, [some (.ref (b)), some (.int (Int32.ofNat t)), some (.int (Int32.ofNat (128 * t))), some (.int (Int32.ofNat (64 * t))), some (.int (Int32.ofNat k))], [.int (Int32.ofNat 2), .int (x6 k), .int (Int32.ofNat (128 * t + k)), .ref (b + 5)], A2)) rfl ?_
      refine wp_if rfl rfl rfl (fun (h6 : (x6 k) ≠ (Int32.ofNat 2)) => ?_) (fun (h6 : ¬ ((x6 k) ≠ (Int32.ofNat 2))) => ?_)
      · skip
        refine wp_st 1 (f' := (114, [some (.ref (b)), some (.int (Int32.ofNat t)), some (.int (Int32.ofNat (128 * t))), some (.int (Int32.ofNat (64 * t))), some (.int (Int32.ofNat k))], [.ref (b), .int (Int32.ofNat (128 * t + k)), .ref (b + 5)], A2)) rfl ?_
        refine rw_gr h3 rfl rfl rfl rfl rfl rfl ?_
        refine wp_st 3 (f' := (123, [some (.ref (b)), some (.int (Int32.ofNat t)), some (.int (Int32.ofNat (128 * t))), some (.int (Int32.ofNat (64 * t))), some (.int (Int32.ofNat k))], [.int ((Int32.ofNat 256) + (Int32.ofNat k)), .ref (b + 5), .int (Int32.ofNat (128 * t + k)), .ref (b + 5)], A2)) rfl ?_
        rw [i32_add (256) (k)]
        refine rw_al (j := 7) (n := 256 + k) (v := .int (x7 k)) h3 rfl rfl rfl (Or.inl ⟨rfl, rfl⟩) rfl (show _ < 384 from by omega) (by rw [rf_c_ne (by decide), rf_u_ne (by omega), rk_ne (by omega)]; exact (hps k (by omega)).2.1) rfl ?_
        refine rw_as (j := 7) (n := 128 * t + k) (v := .int (x7 k)) h3 rfl rfl rfl (Or.inl ⟨rfl, rfl, rfl⟩) (show _ < 384 from by omega) rfl rfl (fun A7 h8 f9 => ?_)
        have f10 := f5.trans f9
        rw [rf_c_u (by decide)] at h8
        refine wp_st 1 (f' := (126, [some (.ref (b)), some (.int (Int32.ofNat t)), some (.int (Int32.ofNat (128 * t))), some (.int (Int32.ofNat (64 * t))), some (.int (Int32.ofNat k))], [.ref (b)], A7)) rfl ?_
        refine rw_gr h8 rfl rfl rfl rfl rfl rfl ?_
        refine wp_st 3 (f' := (133, [some (.ref (b)), some (.int (Int32.ofNat t)), some (.int (Int32.ofNat (128 * t))), some (.int (Int32.ofNat (64 * t))), some (.int (Int32.ofNat k))], [.int ((Int32.ofNat (128 * t)) + (Int32.ofNat k)), .ref (b + 6)], A7)) rfl ?_
        rw [i32_add (128 * t) (k)]
        refine wp_st 1 (f' := (134, [some (.ref (b)), some (.int (Int32.ofNat t)), some (.int (Int32.ofNat (128 * t))), some (.int (Int32.ofNat (64 * t))), some (.int (Int32.ofNat k))], [.ref (b), .int (Int32.ofNat (128 * t + k)), .ref (b + 6)], A7)) rfl ?_
        refine rw_gr h8 rfl rfl rfl rfl rfl rfl ?_
        refine wp_st 3 (f' := (143, [some (.ref (b)), some (.int (Int32.ofNat t)), some (.int (Int32.ofNat (128 * t))), some (.int (Int32.ofNat (64 * t))), some (.int (Int32.ofNat k))], [.int ((Int32.ofNat 256) + (Int32.ofNat k)), .ref (b + 6), .int (Int32.ofNat (128 * t + k)), .ref (b + 6)], A7)) rfl ?_
        rw [i32_add (256) (k)]
        refine rw_al (j := 8) (n := 256 + k) (v := .int (x8 k)) h8 rfl rfl rfl (Or.inl ⟨rfl, rfl⟩) rfl (show _ < 384 from by omega) (by rw [rf_c_ne (by decide), rf_u_ne (by omega), rf_u_ne (by omega), rk_ne (by omega)]; exact (hps k (by omega)).2.2) rfl ?_
        refine wp_st 2 (f' := (148, [some (.ref (b)), some (.int (Int32.ofNat t)), some (.int (Int32.ofNat (128 * t))), some (.int (Int32.ofNat (64 * t))), some (.int (Int32.ofNat k))], [.int (Int32.ofNat (128 * t)), .int (Int32.ofNat 256), .int (x8 k), .int (Int32.ofNat (128 * t + k)), .ref (b + 6)], A7)) rfl ?_
        refine wp_cs (n := 0) (A' := A7) (v := some (.int (rm_mv (x8 k) (256) (128 * t)))) rfl rfl rfl (by omega) (rn_mv (f := 256) (t := 128 * t)) rfl ?_
        show am_wp d 146 (151, [some (.ref (b)), some (.int (Int32.ofNat t)), some (.int (Int32.ofNat (128 * t))), some (.int (Int32.ofNat (64 * t))), some (.int (Int32.ofNat k))], [.int (rm_mv (x8 k) (256) (128 * t)), .int (Int32.ofNat (128 * t + k)), .ref (b + 6)], A7) _
        refine rw_as (j := 8) (n := 128 * t + k) (v := .int (rm_mv (x8 k) (256) (128 * t))) h8 rfl rfl rfl (Or.inl ⟨rfl, rfl, rfl⟩) (show _ < 384 from by omega) rfl rfl (fun A11 h12 f13 => ?_)
        have f14 := f10.trans f13
        rw [rf_c_u (by decide)] at h12
        refine wp_st 1 (f' := (155, [some (.ref (b)), some (.int (Int32.ofNat t)), some (.int (Int32.ofNat (128 * t))), some (.int (Int32.ofNat (64 * t))), some (.int ((Int32.ofNat k) + (Int32.ofNat 1)))], [], A11)) rfl ?_
        rw [i32_add (k) (1)]
        refine wp_gt rfl (show am_tgt 155 (-115) = 40 by decide +kernel) ?_
        rw [rk_step6 ((if_neg h6).symm) rfl] at h12
        obtain ⟨z, z1, z2, z3, z4⟩ := ih (k + 1) _ (by omega) (by omega) h12
        exact ⟨z, z1, z2, z3, f14.trans z4⟩
      · skip
        replace h6 := Decidable.not_not.mp h6
        refine wp_st 1 (f' := (93, [some (.ref (b)), some (.int (Int32.ofNat t)), some (.int (Int32.ofNat (128 * t))), some (.int (Int32.ofNat (64 * t))), some (.int (Int32.ofNat k))], [.ref (b), .int (Int32.ofNat (128 * t + k)), .ref (b + 5)], A2)) rfl ?_
        refine rw_gr h3 rfl rfl rfl rfl rfl rfl ?_
        refine wp_st 3 (f' := (102, [some (.ref (b)), some (.int (Int32.ofNat t)), some (.int (Int32.ofNat (128 * t))), some (.int (Int32.ofNat (64 * t))), some (.int (Int32.ofNat k))], [.int ((Int32.ofNat 256) + (Int32.ofNat k)), .ref (b + 5), .int (Int32.ofNat (128 * t + k)), .ref (b + 5)], A2)) rfl ?_
        rw [i32_add (256) (k)]
        refine rw_al (j := 7) (n := 256 + k) (v := .int (x7 k)) h3 rfl rfl rfl (Or.inl ⟨rfl, rfl⟩) rfl (show _ < 384 from by omega) (by rw [rf_c_ne (by decide), rf_u_ne (by omega), rk_ne (by omega)]; exact (hps k (by omega)).2.1) rfl ?_
        refine wp_st 2 (f' := (107, [some (.ref (b)), some (.int (Int32.ofNat t)), some (.int (Int32.ofNat (128 * t))), some (.int (Int32.ofNat (64 * t))), some (.int (Int32.ofNat k))], [.int (Int32.ofNat (64 * t)), .int (Int32.ofNat 128), .int (x7 k), .int (Int32.ofNat (128 * t + k)), .ref (b + 5)], A2)) rfl ?_
        refine wp_cs (n := 0) (A' := A2) (v := some (.int (rm_mv (x7 k) (128) (64 * t)))) rfl rfl rfl (by omega) (rn_mv (f := 128) (t := 64 * t)) rfl ?_
        show am_wp d 146 (110, [some (.ref (b)), some (.int (Int32.ofNat t)), some (.int (Int32.ofNat (128 * t))), some (.int (Int32.ofNat (64 * t))), some (.int (Int32.ofNat k))], [.int (rm_mv (x7 k) (128) (64 * t)), .int (Int32.ofNat (128 * t + k)), .ref (b + 5)], A2) _
        refine wp_st 1 (f' := (124, [some (.ref (b)), some (.int (Int32.ofNat t)), some (.int (Int32.ofNat (128 * t))), some (.int (Int32.ofNat (64 * t))), some (.int (Int32.ofNat k))], [.int (rm_mv (x7 k) (128) (64 * t)), .int (Int32.ofNat (128 * t + k)), .ref (b + 5)], A2)) rfl ?_
        refine rw_as (j := 7) (n := 128 * t + k) (v := .int (rm_mv (x7 k) (128) (64 * t))) h3 rfl rfl rfl (Or.inl ⟨rfl, rfl, rfl⟩) (show _ < 384 from by omega) rfl rfl (fun A15 h16 f17 => ?_)
        have f18 := f5.trans f17
        rw [rf_c_u (by decide)] at h16
        refine wp_st 1 (f' := (126, [some (.ref (b)), some (.int (Int32.ofNat t)), some (.int (Int32.ofNat (128 * t))), some (.int (Int32.ofNat (64 * t))), some (.int (Int32.ofNat k))], [.ref (b)], A15)) rfl ?_
        refine rw_gr h16 rfl rfl rfl rfl rfl rfl ?_
        refine wp_st 3 (f' := (133, [some (.ref (b)), some (.int (Int32.ofNat t)), some (.int (Int32.ofNat (128 * t))), some (.int (Int32.ofNat (64 * t))), some (.int (Int32.ofNat k))], [.int ((Int32.ofNat (128 * t)) + (Int32.ofNat k)), .ref (b + 6)], A15)) rfl ?_
        rw [i32_add (128 * t) (k)]
        refine wp_st 1 (f' := (134, [some (.ref (b)), some (.int (Int32.ofNat t)), some (.int (Int32.ofNat (128 * t))), some (.int (Int32.ofNat (64 * t))), some (.int (Int32.ofNat k))], [.ref (b), .int (Int32.ofNat (128 * t + k)), .ref (b + 6)], A15)) rfl ?_
        refine rw_gr h16 rfl rfl rfl rfl rfl rfl ?_
        refine wp_st 3 (f' := (143, [some (.ref (b)), some (.int (Int32.ofNat t)), some (.int (Int32.ofNat (128 * t))), some (.int (Int32.ofNat (64 * t))), some (.int (Int32.ofNat k))], [.int ((Int32.ofNat 256) + (Int32.ofNat k)), .ref (b + 6), .int (Int32.ofNat (128 * t + k)), .ref (b + 6)], A15)) rfl ?_
        rw [i32_add (256) (k)]
        refine rw_al (j := 8) (n := 256 + k) (v := .int (x8 k)) h16 rfl rfl rfl (Or.inl ⟨rfl, rfl⟩) rfl (show _ < 384 from by omega) (by rw [rf_c_ne (by decide), rf_u_ne (by omega), rf_u_ne (by omega), rk_ne (by omega)]; exact (hps k (by omega)).2.2) rfl ?_
        refine wp_st 2 (f' := (148, [some (.ref (b)), some (.int (Int32.ofNat t)), some (.int (Int32.ofNat (128 * t))), some (.int (Int32.ofNat (64 * t))), some (.int (Int32.ofNat k))], [.int (Int32.ofNat (128 * t)), .int (Int32.ofNat 256), .int (x8 k), .int (Int32.ofNat (128 * t + k)), .ref (b + 6)], A15)) rfl ?_
        refine wp_cs (n := 0) (A' := A15) (v := some (.int (rm_mv (x8 k) (256) (128 * t)))) rfl rfl rfl (by omega) (rn_mv (f := 256) (t := 128 * t)) rfl ?_
        show am_wp d 146 (151, [some (.ref (b)), some (.int (Int32.ofNat t)), some (.int (Int32.ofNat (128 * t))), some (.int (Int32.ofNat (64 * t))), some (.int (Int32.ofNat k))], [.int (rm_mv (x8 k) (256) (128 * t)), .int (Int32.ofNat (128 * t + k)), .ref (b + 6)], A15) _
        refine rw_as (j := 8) (n := 128 * t + k) (v := .int (rm_mv (x8 k) (256) (128 * t))) h16 rfl rfl rfl (Or.inl ⟨rfl, rfl, rfl⟩) (show _ < 384 from by omega) rfl rfl (fun A19 h20 f21 => ?_)
        have f22 := f18.trans f21
        rw [rf_c_u (by decide)] at h20
        refine wp_st 1 (f' := (155, [some (.ref (b)), some (.int (Int32.ofNat t)), some (.int (Int32.ofNat (128 * t))), some (.int (Int32.ofNat (64 * t))), some (.int ((Int32.ofNat k) + (Int32.ofNat 1)))], [], A19)) rfl ?_
        rw [i32_add (k) (1)]
        refine wp_gt rfl (show am_tgt 155 (-115) = 40 by decide +kernel) ?_
        rw [rk_step6 ((if_pos h6).symm) rfl] at h20
        obtain ⟨z, z1, z2, z3, z4⟩ := ih (k + 1) _ (by omega) (by omega) h20
        exact ⟨z, z1, z2, z3, f22.trans z4⟩
def rm_kp (s : rf_S) (t mP mA mB : Nat) (x5 : Int32) (x6 x7 x8 x9 x10 x11 x12 : Nat → Int32) (b13 : Nat → Bool) (y14 : Nat → Int64) (x15 x16 : Nat → Int32) : rf_S := rk (rk (rk (rf_u (rf_u s 4 t (.int (sb_i true))) 5 t (.int (rm_mv x5 256 (128 * t)))) rk_P6 (rv6 x6 x7 x8 (128 * t) (64 * t)) (128 * t) mP) rk_P9 (rv9 x9 x10 x11 x12 (64 * t)) (64 * t) mA) rk_P13 (rv13 b13 y14 x15 x16 (128 * t) (64 * t)) (64 * t) mB
theorem rq_keepm {d b t p g mP mA mB : Nat} {w x5 : Int32} {r : Int64} {b13 : Nat → Bool} {y14 : Nat → Int64} {x15 x16 : Nat → Int32} {x9 x10 x11 x12 : Nat → Int32} {x6 x7 x8 : Nat → Int32} {s : rf_S} {A : am_H} (hd : 1 ≤ d) (ht : t ≤ 1) (h5 : s 5 2 = .int x5) (hB : s 21 0 = .int (Int32.ofNat mB)) (hB6 : mB ≤ 64) (hbs : ∀ i, i < mB → s 13 (128 + i) = .int (sb_i (b13 i)) ∧ s 14 (128 + i) = .long (y14 i) ∧ s 15 (128 + i) = .int (x15 i) ∧ s 16 (128 + i) = .int (x16 i)) (hA : s 20 0 = .int (Int32.ofNat mA)) (hA6 : mA ≤ 64) (has : ∀ i, i < mA → s 9 (128 + i) = .int (x9 i) ∧ s 10 (128 + i) = .int (x10 i) ∧ s 11 (128 + i) = .int (x11 i) ∧ s 12 (128 + i) = .int (x12 i)) (hPp : s 19 0 = .int (Int32.ofNat mP)) (hP6 : mP ≤ 128) (hps : ∀ i, i < mP → s 6 (256 + i) = .int (x6 i) ∧ s 7 (256 + i) = .int (x7 i) ∧ s 8 (256 + i) = .int (x8 i)) (h : rf A b (rf_c s p w r g)) : rf_go d 146 [.ref b, .int (Int32.ofNat t)] A b none (rf_c (rm_kp s t mP mA mB x5 x6 x7 x8 x9 x10 x11 x12 b13 y14 x15 x16) p w r g) := by
  refine rf_of ?_
  refine wp_st 3 (f' := (5, [some (.ref (b)), some (.int (Int32.ofNat t)), none, none, none], [.int ((Int32.ofNat 128) * (Int32.ofNat t))], A)) rfl ?_
  rw [i32_mul (128) (t)]
  refine wp_st 4 (f' := (10, [some (.ref (b)), some (.int (Int32.ofNat t)), some (.int (Int32.ofNat (128 * t))), none, none], [.int ((Int32.ofNat 64) * (Int32.ofNat t))], A)) rfl ?_
  rw [i32_mul (64) (t)]
  refine wp_st 2 (f' := (12, [some (.ref (b)), some (.int (Int32.ofNat t)), some (.int (Int32.ofNat (128 * t))), some (.int (Int32.ofNat (64 * t))), none], [.ref (b)], A)) rfl ?_
  refine rw_gr h rfl rfl rfl rfl rfl rfl ?_
  refine wp_st 2 (f' := (17, [some (.ref (b)), some (.int (Int32.ofNat t)), some (.int (Int32.ofNat (128 * t))), some (.int (Int32.ofNat (64 * t))), none], [.int (Int32.ofNat 1), .int (Int32.ofNat t), .ref (b + 2)], A)) rfl ?_
  refine rw_as (j := 4) (n := t) (v := .int (sb_i true)) h rfl rfl rfl (Or.inr (Or.inr ⟨rfl, rfl, rfl⟩)) (show _ < 3 from by omega) (sb_narrow_z true) rfl (fun A1 h2 f3 => ?_)
  have f4 := (sb_fr.refl A b (b + 38)).trans f3
  rw [rf_c_u (by decide)] at h2
  refine wp_st 1 (f' := (19, [some (.ref (b)), some (.int (Int32.ofNat t)), some (.int (Int32.ofNat (128 * t))), some (.int (Int32.ofNat (64 * t))), none], [.ref (b)], A1)) rfl ?_
  refine rw_gr h2 rfl rfl rfl rfl rfl rfl ?_
  refine wp_st 2 (f' := (24, [some (.ref (b)), some (.int (Int32.ofNat t)), some (.int (Int32.ofNat (128 * t))), some (.int (Int32.ofNat (64 * t))), none], [.ref (b), .int (Int32.ofNat t), .ref (b + 3)], A1)) rfl ?_
  refine rw_gr h2 rfl rfl rfl rfl rfl rfl ?_
  refine wp_st 1 (f' := (28, [some (.ref (b)), some (.int (Int32.ofNat t)), some (.int (Int32.ofNat (128 * t))), some (.int (Int32.ofNat (64 * t))), none], [.int (Int32.ofNat 2), .ref (b + 3), .int (Int32.ofNat t), .ref (b + 3)], A1)) rfl ?_
  refine rw_al (j := 5) (n := 2) (v := .int (x5)) h2 rfl rfl rfl (Or.inl ⟨rfl, rfl⟩) rfl (show _ < 3 from by omega) (by rw [rf_c_ne (by decide), rf_u_ne (by omega)]; exact h5) rfl ?_
  refine wp_st 2 (f' := (33, [some (.ref (b)), some (.int (Int32.ofNat t)), some (.int (Int32.ofNat (128 * t))), some (.int (Int32.ofNat (64 * t))), none], [.int (Int32.ofNat (128 * t)), .int (Int32.ofNat 256), .int (x5), .int (Int32.ofNat t), .ref (b + 3)], A1)) rfl ?_
  refine wp_cs (n := 0) (A' := A1) (v := some (.int (rm_mv (x5) (256) (128 * t)))) rfl rfl rfl (by omega) (rn_mv (f := 256) (t := 128 * t)) rfl ?_
  show am_wp d 146 (36, [some (.ref (b)), some (.int (Int32.ofNat t)), some (.int (Int32.ofNat (128 * t))), some (.int (Int32.ofNat (64 * t))), none], [.int (rm_mv (x5) (256) (128 * t)), .int (Int32.ofNat t), .ref (b + 3)], A1) _
  refine rw_as (j := 5) (n := t) (v := .int (rm_mv (x5) (256) (128 * t))) h2 rfl rfl rfl (Or.inl ⟨rfl, rfl, rfl⟩) (show _ < 3 from by omega) rfl rfl (fun A5 h6 f7 => ?_)
  have f8 := f4.trans f7
  rw [rf_c_u (by decide)] at h6
  refine wp_st 2 (f' := (40, [some (.ref (b)), some (.int (Int32.ofNat t)), some (.int (Int32.ofNat (128 * t))), some (.int (Int32.ofNat (64 * t))), some (.int (Int32.ofNat 0))], [], A5)) rfl ?_
  have h9 := h6
  rw [← rk_0 (rf_u (rf_u s 4 t (.int (sb_i true))) 5 t (.int (rm_mv (x5) (256) (128 * t)))) rk_P6 (rv6 x6 x7 x8 (128 * t) (64 * t)) (128 * t)] at h9
  obtain ⟨z, z1, z2, z3, z4⟩ := rq_kq (d := d) hd ht (by rw [rf_u_ne (by omega), rf_u_ne (by omega)]; exact hB) hB6 (fun i hi => ⟨by rw [rf_u_ne (by omega), rf_u_ne (by omega)]; exact (hbs i hi).1, by rw [rf_u_ne (by omega), rf_u_ne (by omega)]; exact (hbs i hi).2.1, by rw [rf_u_ne (by omega), rf_u_ne (by omega)]; exact (hbs i hi).2.2.1, by rw [rf_u_ne (by omega), rf_u_ne (by omega)]; exact (hbs i hi).2.2.2⟩) (by rw [rf_u_ne (by omega), rf_u_ne (by omega)]; exact hA) hA6 (fun i hi => ⟨by rw [rf_u_ne (by omega), rf_u_ne (by omega)]; exact (has i hi).1, by rw [rf_u_ne (by omega), rf_u_ne (by omega)]; exact (has i hi).2.1, by rw [rf_u_ne (by omega), rf_u_ne (by omega)]; exact (has i hi).2.2.1, by rw [rf_u_ne (by omega), rf_u_ne (by omega)]; exact (has i hi).2.2.2⟩) (by rw [rf_u_ne (by omega), rf_u_ne (by omega)]; exact hPp) hP6 (fun i hi => ⟨by rw [rf_u_ne (by omega), rf_u_ne (by omega)]; exact (hps i hi).1, by rw [rf_u_ne (by omega), rf_u_ne (by omega)]; exact (hps i hi).2.1, by rw [rf_u_ne (by omega), rf_u_ne (by omega)]; exact (hps i hi).2.2⟩) (mP + 1) 0 _ (by omega) (by omega) h9
  exact ⟨z, z1, z2, z3, f8.trans z4⟩
