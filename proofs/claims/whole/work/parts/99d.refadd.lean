/-! The reference: add. -/
theorem rn_add0 {d b p g P L ob : Nat} {w kc x : Int32} {r : Int64} {s : rf_S} {A : am_H} (hP : P < 120) (hL : L ≤ 3) (h19 : s 19 0 = .int (Int32.ofNat P)) (h22 : s 22 0 = .int (Int32.ofNat L)) (h23 : s 23 L = .int (-1)) (hL0 : L = 0) (h : rf A b (rf_c s p w r g)) : am_wp d 126 (0, am_ent 126 [.ref b, .int kc, .int x], [], A) (fun q => q.1 = .inl none ∧ ∃ t, rf q.2 b (rf_c t p w r g) ∧ rm_ad s t P L (none) ob kc x ∧ sb_fr A q.2 b (b + 38)) := by
  refine wp_st 2 (f' := (4, [some (.ref (b)), some (.int (kc)), some (.int (x)), none], [.ref (b), .int (Int32.ofNat 256)], A)) rfl ?_
  refine rw_gf (v := .int (Int32.ofNat P)) h rfl rfl rfl rfl (h19) rfl ?_
  refine wp_st 1 (f' := (8, [some (.ref (b)), some (.int (kc)), some (.int (x)), none], [.int ((Int32.ofNat 256) + (Int32.ofNat P))], A)) rfl ?_
  rw [i32_add (256) (P)]
  refine wp_st 3 (f' := (11, [some (.ref (b)), some (.int (kc)), some (.int (x)), some (.int (Int32.ofNat (256 + P)))], [.ref (b), .ref (b)], A)) rfl ?_
  refine rw_gf (v := .int (Int32.ofNat P)) h rfl rfl rfl rfl (h19) rfl ?_
  refine wp_st 2 (f' := (16, [some (.ref (b)), some (.int (kc)), some (.int (x)), some (.int (Int32.ofNat (256 + P)))], [.int ((Int32.ofNat P) + (Int32.ofNat 1)), .ref (b)], A)) rfl ?_
  rw [i32_add (P) (1)]
  refine rw_pf (v := .int (Int32.ofNat (P + 1))) h rfl rfl rfl rfl rfl rfl (fun A1 h2 f3 => ?_)
  have f4 := (sb_fr.refl A b (b + 38)).trans f3
  rw [rf_c_u (by decide)] at h2
  refine wp_st 1 (f' := (20, [some (.ref (b)), some (.int (kc)), some (.int (x)), some (.int (Int32.ofNat (256 + P)))], [.ref (b)], A1)) rfl ?_
  refine rw_gr h2 rfl rfl rfl rfl rfl rfl ?_
  refine wp_st 2 (f' := (25, [some (.ref (b)), some (.int (kc)), some (.int (x)), some (.int (Int32.ofNat (256 + P)))], [.int (kc), .int (Int32.ofNat (256 + P)), .ref (b + 4)], A1)) rfl ?_
  refine rw_as (j := 6) (n := 256 + P) (v := .int (kc)) h2 rfl rfl rfl (Or.inl ⟨rfl, rfl, rfl⟩) (show _ < 384 from by omega) rfl rfl (fun A5 h6 f7 => ?_)
  have f8 := f4.trans f7
  rw [rf_c_u (by decide)] at h6
  refine wp_st 1 (f' := (27, [some (.ref (b)), some (.int (kc)), some (.int (x)), some (.int (Int32.ofNat (256 + P)))], [.ref (b)], A5)) rfl ?_
  refine rw_gr h6 rfl rfl rfl rfl rfl rfl ?_
  refine wp_st 2 (f' := (32, [some (.ref (b)), some (.int (kc)), some (.int (x)), some (.int (Int32.ofNat (256 + P)))], [.int (x), .int (Int32.ofNat (256 + P)), .ref (b + 5)], A5)) rfl ?_
  refine rw_as (j := 7) (n := 256 + P) (v := .int (x)) h6 rfl rfl rfl (Or.inl ⟨rfl, rfl, rfl⟩) (show _ < 384 from by omega) rfl rfl (fun A9 h10 f11 => ?_)
  have f12 := f8.trans f11
  rw [rf_c_u (by decide)] at h10
  refine wp_st 1 (f' := (34, [some (.ref (b)), some (.int (kc)), some (.int (x)), some (.int (Int32.ofNat (256 + P)))], [.ref (b)], A9)) rfl ?_
  refine rw_gr h10 rfl rfl rfl rfl rfl rfl ?_
  refine wp_st 2 (f' := (39, [some (.ref (b)), some (.int (kc)), some (.int (x)), some (.int (Int32.ofNat (256 + P)))], [.int ((-1)), .int (Int32.ofNat (256 + P)), .ref (b + 6)], A9)) rfl ?_
  refine rw_as (j := 8) (n := 256 + P) (v := .int ((-1))) h10 rfl rfl rfl (Or.inl ⟨rfl, rfl, rfl⟩) (show _ < 384 from by omega) rfl rfl (fun A13 h14 f15 => ?_)
  have f16 := f12.trans f15
  rw [rf_c_u (by decide)] at h14
  refine wp_st 1 (f' := (41, [some (.ref (b)), some (.int (kc)), some (.int (x)), some (.int (Int32.ofNat (256 + P)))], [.ref (b)], A13)) rfl ?_
  refine rw_gr h14 rfl rfl rfl rfl rfl rfl ?_
  refine wp_st 1 (f' := (45, [some (.ref (b)), some (.int (kc)), some (.int (x)), some (.int (Int32.ofNat (256 + P)))], [.ref (b), .ref (b + 15)], A13)) rfl ?_
  refine rw_gf (v := .int (Int32.ofNat L)) h14 rfl rfl rfl rfl (h22) rfl ?_
  refine rw_al (j := 23) (n := L) (v := .int ((-1))) h14 rfl rfl rfl (Or.inl ⟨rfl, rfl⟩) rfl (show _ < 4 from by omega) (by rw [rf_c_ne (show 23 ≠ 17 ∧ 23 ≠ 18 ∧ 23 ≠ 28 ∧ 23 ≠ 29 by decide), rf_u_ne (Or.inl (by decide)), rf_u_ne (Or.inl (by decide)), rf_u_ne (Or.inl (by decide)), rf_u_ne (Or.inl (by decide))]; exact h23) rfl ?_
  refine wp_izT rfl rfl (show (-1 : Int32) < Int32.ofNat 0 from by decide) ?_
  refine wp_st 1 (f' := (71, [some (.ref (b)), some (.int (kc)), some (.int (x)), some (.int (Int32.ofNat (256 + P)))], [.ref (b)], A13)) rfl ?_
  refine rw_gf (v := .int (Int32.ofNat L)) h14 rfl rfl rfl rfl (h22) rfl ?_
  refine wp_izF rfl rfl (fun q => q ((i32_eq (a := L) (b := 0) (by omega) (by omega)).mpr (by omega))) ?_
  refine wp_st 1 (f' := (78, [some (.ref (b)), some (.int (kc)), some (.int (x)), some (.int (Int32.ofNat (256 + P)))], [.ref (b)], A13)) rfl ?_
  refine rw_gr h14 rfl rfl rfl rfl rfl rfl ?_
  refine wp_st 2 (f' := (83, [some (.ref (b)), some (.int (kc)), some (.int (x)), some (.int (Int32.ofNat (256 + P)))], [.int (Int32.ofNat (256 + P)), .int (Int32.ofNat 2), .ref (b + 3)], A13)) rfl ?_
  refine rw_as (j := 5) (n := 2) (v := .int (Int32.ofNat (256 + P))) h14 rfl rfl rfl (Or.inl ⟨rfl, rfl, rfl⟩) (show _ < 3 from by omega) rfl rfl (fun A17 h18 f19 => ?_)
  have f20 := f16.trans f19
  rw [rf_c_u (by decide)] at h18
  refine wp_st 2 (f' := (103, [some (.ref (b)), some (.int (kc)), some (.int (x)), some (.int (Int32.ofNat (256 + P)))], [.ref (b)], A17)) rfl ?_
  refine rw_gr h18 rfl rfl rfl rfl rfl rfl ?_
  refine wp_st 1 (f' := (107, [some (.ref (b)), some (.int (kc)), some (.int (x)), some (.int (Int32.ofNat (256 + P)))], [.ref (b), .ref (b + 15)], A17)) rfl ?_
  refine rw_gf (v := .int (Int32.ofNat L)) h18 rfl rfl rfl rfl (h22) rfl ?_
  refine wp_st 1 (f' := (111, [some (.ref (b)), some (.int (kc)), some (.int (x)), some (.int (Int32.ofNat (256 + P)))], [.int (Int32.ofNat (256 + P)), .int (Int32.ofNat L), .ref (b + 15)], A17)) rfl ?_
  refine rw_as (j := 23) (n := L) (v := .int (Int32.ofNat (256 + P))) h18 rfl rfl rfl (Or.inl ⟨rfl, rfl, rfl⟩) (show _ < 4 from by omega) rfl rfl (fun A21 h22 f23 => ?_)
  have f24 := f20.trans f23
  rw [rf_c_u (by decide)] at h22
  refine wp_rt rfl rfl rfl ?_
  exact ⟨rfl, _, h22, ⟨by simp only [rf_u_if]; simp, by simp only [rf_u_if]; simp, by simp only [rf_u_if]; simp, by simp only [rf_u_if]; simp, by simp only [rf_u_if]; simp, fun j i q => (by unfold rm_hk at q; obtain ⟨rfl, rfl⟩ : j = 5 ∧ i = 2 := (by omega); simp only [rf_u_if]; simp), fun j i q1 q2 q3 q4 => by unfold rm_hk at q4; simp only [rf_u_if]; repeat (rw [if_neg (by omega)])⟩, f24⟩
theorem rn_add1 {d b p g P L ob : Nat} {w kc x : Int32} {r : Int64} {s : rf_S} {A : am_H} (hP : P < 120) (hL : L ≤ 3) (h19 : s 19 0 = .int (Int32.ofNat P)) (h22 : s 22 0 = .int (Int32.ofNat L)) (h23 : s 23 L = .int (-1)) (hL0 : 0 < L) (hob : ob < 64) (h25 : s 25 L = .int (Int32.ofNat (128 + ob))) (h : rf A b (rf_c s p w r g)) : am_wp d 126 (0, am_ent 126 [.ref b, .int kc, .int x], [], A) (fun q => q.1 = .inl none ∧ ∃ t, rf q.2 b (rf_c t p w r g) ∧ rm_ad s t P L (none) ob kc x ∧ sb_fr A q.2 b (b + 38)) := by
  refine wp_st 2 (f' := (4, [some (.ref (b)), some (.int (kc)), some (.int (x)), none], [.ref (b), .int (Int32.ofNat 256)], A)) rfl ?_
  refine rw_gf (v := .int (Int32.ofNat P)) h rfl rfl rfl rfl (h19) rfl ?_
  refine wp_st 1 (f' := (8, [some (.ref (b)), some (.int (kc)), some (.int (x)), none], [.int ((Int32.ofNat 256) + (Int32.ofNat P))], A)) rfl ?_
  rw [i32_add (256) (P)]
  refine wp_st 3 (f' := (11, [some (.ref (b)), some (.int (kc)), some (.int (x)), some (.int (Int32.ofNat (256 + P)))], [.ref (b), .ref (b)], A)) rfl ?_
  refine rw_gf (v := .int (Int32.ofNat P)) h rfl rfl rfl rfl (h19) rfl ?_
  refine wp_st 2 (f' := (16, [some (.ref (b)), some (.int (kc)), some (.int (x)), some (.int (Int32.ofNat (256 + P)))], [.int ((Int32.ofNat P) + (Int32.ofNat 1)), .ref (b)], A)) rfl ?_
  rw [i32_add (P) (1)]
  refine rw_pf (v := .int (Int32.ofNat (P + 1))) h rfl rfl rfl rfl rfl rfl (fun A1 h2 f3 => ?_)
  have f4 := (sb_fr.refl A b (b + 38)).trans f3
  rw [rf_c_u (by decide)] at h2
  refine wp_st 1 (f' := (20, [some (.ref (b)), some (.int (kc)), some (.int (x)), some (.int (Int32.ofNat (256 + P)))], [.ref (b)], A1)) rfl ?_
  refine rw_gr h2 rfl rfl rfl rfl rfl rfl ?_
  refine wp_st 2 (f' := (25, [some (.ref (b)), some (.int (kc)), some (.int (x)), some (.int (Int32.ofNat (256 + P)))], [.int (kc), .int (Int32.ofNat (256 + P)), .ref (b + 4)], A1)) rfl ?_
  refine rw_as (j := 6) (n := 256 + P) (v := .int (kc)) h2 rfl rfl rfl (Or.inl ⟨rfl, rfl, rfl⟩) (show _ < 384 from by omega) rfl rfl (fun A5 h6 f7 => ?_)
  have f8 := f4.trans f7
  rw [rf_c_u (by decide)] at h6
  refine wp_st 1 (f' := (27, [some (.ref (b)), some (.int (kc)), some (.int (x)), some (.int (Int32.ofNat (256 + P)))], [.ref (b)], A5)) rfl ?_
  refine rw_gr h6 rfl rfl rfl rfl rfl rfl ?_
  refine wp_st 2 (f' := (32, [some (.ref (b)), some (.int (kc)), some (.int (x)), some (.int (Int32.ofNat (256 + P)))], [.int (x), .int (Int32.ofNat (256 + P)), .ref (b + 5)], A5)) rfl ?_
  refine rw_as (j := 7) (n := 256 + P) (v := .int (x)) h6 rfl rfl rfl (Or.inl ⟨rfl, rfl, rfl⟩) (show _ < 384 from by omega) rfl rfl (fun A9 h10 f11 => ?_)
  have f12 := f8.trans f11
  rw [rf_c_u (by decide)] at h10
  refine wp_st 1 (f' := (34, [some (.ref (b)), some (.int (kc)), some (.int (x)), some (.int (Int32.ofNat (256 + P)))], [.ref (b)], A9)) rfl ?_
  refine rw_gr h10 rfl rfl rfl rfl rfl rfl ?_
  refine wp_st 2 (f' := (39, [some (.ref (b)), some (.int (kc)), some (.int (x)), some (.int (Int32.ofNat (256 + P)))], [.int ((-1)), .int (Int32.ofNat (256 + P)), .ref (b + 6)], A9)) rfl ?_
  refine rw_as (j := 8) (n := 256 + P) (v := .int ((-1))) h10 rfl rfl rfl (Or.inl ⟨rfl, rfl, rfl⟩) (show _ < 384 from by omega) rfl rfl (fun A13 h14 f15 => ?_)
  have f16 := f12.trans f15
  rw [rf_c_u (by decide)] at h14
  refine wp_st 1 (f' := (41, [some (.ref (b)), some (.int (kc)), some (.int (x)), some (.int (Int32.ofNat (256 + P)))], [.ref (b)], A13)) rfl ?_
  refine rw_gr h14 rfl rfl rfl rfl rfl rfl ?_
  refine wp_st 1 (f' := (45, [some (.ref (b)), some (.int (kc)), some (.int (x)), some (.int (Int32.ofNat (256 + P)))], [.ref (b), .ref (b + 15)], A13)) rfl ?_
  refine rw_gf (v := .int (Int32.ofNat L)) h14 rfl rfl rfl rfl (h22) rfl ?_
  refine rw_al (j := 23) (n := L) (v := .int ((-1))) h14 rfl rfl rfl (Or.inl ⟨rfl, rfl⟩) rfl (show _ < 4 from by omega) (by rw [rf_c_ne (show 23 ≠ 17 ∧ 23 ≠ 18 ∧ 23 ≠ 28 ∧ 23 ≠ 29 by decide), rf_u_ne (Or.inl (by decide)), rf_u_ne (Or.inl (by decide)), rf_u_ne (Or.inl (by decide)), rf_u_ne (Or.inl (by decide))]; exact h23) rfl ?_
  refine wp_izT rfl rfl (show (-1 : Int32) < Int32.ofNat 0 from by decide) ?_
  refine wp_st 1 (f' := (71, [some (.ref (b)), some (.int (kc)), some (.int (x)), some (.int (Int32.ofNat (256 + P)))], [.ref (b)], A13)) rfl ?_
  refine rw_gf (v := .int (Int32.ofNat L)) h14 rfl rfl rfl rfl (h22) rfl ?_
  refine wp_izT rfl rfl (fun q => absurd ((i32_eq (a := L) (b := 0) (by omega) (by omega)).mp q) (by omega)) ?_
  refine wp_st 1 (f' := (88, [some (.ref (b)), some (.int (kc)), some (.int (x)), some (.int (Int32.ofNat (256 + P)))], [.ref (b)], A13)) rfl ?_
  refine rw_gr h14 rfl rfl rfl rfl rfl rfl ?_
  refine wp_st 1 (f' := (92, [some (.ref (b)), some (.int (kc)), some (.int (x)), some (.int (Int32.ofNat (256 + P)))], [.ref (b), .ref (b + 13)], A13)) rfl ?_
  refine rw_gr h14 rfl rfl rfl rfl rfl rfl ?_
  refine wp_st 1 (f' := (96, [some (.ref (b)), some (.int (kc)), some (.int (x)), some (.int (Int32.ofNat (256 + P)))], [.ref (b), .ref (b + 17), .ref (b + 13)], A13)) rfl ?_
  refine rw_gf (v := .int (Int32.ofNat L)) h14 rfl rfl rfl rfl (h22) rfl ?_
  refine rw_al (j := 25) (n := L) (v := .int (Int32.ofNat (128 + ob))) h14 rfl rfl rfl (Or.inl ⟨rfl, rfl⟩) rfl (show _ < 4 from by omega) (by rw [rf_c_ne (show 25 ≠ 17 ∧ 25 ≠ 18 ∧ 25 ≠ 28 ∧ 25 ≠ 29 by decide), rf_u_ne (Or.inl (by decide)), rf_u_ne (Or.inl (by decide)), rf_u_ne (Or.inl (by decide)), rf_u_ne (Or.inl (by decide))]; exact h25) rfl ?_
  refine wp_st 1 (f' := (101, [some (.ref (b)), some (.int (kc)), some (.int (x)), some (.int (Int32.ofNat (256 + P)))], [.int (Int32.ofNat (256 + P)), .int (Int32.ofNat (128 + ob)), .ref (b + 13)], A13)) rfl ?_
  refine rw_as (j := 15) (n := 128 + ob) (v := .int (Int32.ofNat (256 + P))) h14 rfl rfl rfl (Or.inl ⟨rfl, rfl, rfl⟩) (show _ < 192 from by omega) rfl rfl (fun A17 h18 f19 => ?_)
  have f20 := f16.trans f19
  rw [rf_c_u (by decide)] at h18
  refine wp_st 1 (f' := (103, [some (.ref (b)), some (.int (kc)), some (.int (x)), some (.int (Int32.ofNat (256 + P)))], [.ref (b)], A17)) rfl ?_
  refine rw_gr h18 rfl rfl rfl rfl rfl rfl ?_
  refine wp_st 1 (f' := (107, [some (.ref (b)), some (.int (kc)), some (.int (x)), some (.int (Int32.ofNat (256 + P)))], [.ref (b), .ref (b + 15)], A17)) rfl ?_
  refine rw_gf (v := .int (Int32.ofNat L)) h18 rfl rfl rfl rfl (h22) rfl ?_
  refine wp_st 1 (f' := (111, [some (.ref (b)), some (.int (kc)), some (.int (x)), some (.int (Int32.ofNat (256 + P)))], [.int (Int32.ofNat (256 + P)), .int (Int32.ofNat L), .ref (b + 15)], A17)) rfl ?_
  refine rw_as (j := 23) (n := L) (v := .int (Int32.ofNat (256 + P))) h18 rfl rfl rfl (Or.inl ⟨rfl, rfl, rfl⟩) (show _ < 4 from by omega) rfl rfl (fun A21 h22 f23 => ?_)
  have f24 := f20.trans f23
  rw [rf_c_u (by decide)] at h22
  refine wp_rt rfl rfl rfl ?_
  exact ⟨rfl, _, h22, ⟨by simp only [rf_u_if]; simp, by simp only [rf_u_if]; simp, by simp only [rf_u_if]; simp, by simp only [rf_u_if]; simp, by simp only [rf_u_if]; simp, fun j i q => (by unfold rm_hk at q; obtain ⟨rfl, rfl⟩ : j = 15 ∧ i = 128 + ob := (by omega); simp only [rf_u_if]; simp), fun j i q1 q2 q3 q4 => by unfold rm_hk at q4; simp only [rf_u_if]; repeat (rw [if_neg (by omega)])⟩, f24⟩
theorem rn_add2 {d b p g P L ob : Nat} {w kc x : Int32} {r : Int64} {s : rf_S} {A : am_H} (hP : P < 120) (hL : L ≤ 3) (h19 : s 19 0 = .int (Int32.ofNat P)) (h22 : s 22 0 = .int (Int32.ofNat L)) {ip : Nat} (h23 : s 23 L = .int (Int32.ofNat (256 + ip))) (hi : ip < P) (h : rf A b (rf_c s p w r g)) : am_wp d 126 (0, am_ent 126 [.ref b, .int kc, .int x], [], A) (fun q => q.1 = .inl none ∧ ∃ t, rf q.2 b (rf_c t p w r g) ∧ rm_ad s t P L (some ip) ob kc x ∧ sb_fr A q.2 b (b + 38)) := by
  refine wp_st 2 (f' := (4, [some (.ref (b)), some (.int (kc)), some (.int (x)), none], [.ref (b), .int (Int32.ofNat 256)], A)) rfl ?_
  refine rw_gf (v := .int (Int32.ofNat P)) h rfl rfl rfl rfl (h19) rfl ?_
  refine wp_st 1 (f' := (8, [some (.ref (b)), some (.int (kc)), some (.int (x)), none], [.int ((Int32.ofNat 256) + (Int32.ofNat P))], A)) rfl ?_
  rw [i32_add (256) (P)]
  refine wp_st 3 (f' := (11, [some (.ref (b)), some (.int (kc)), some (.int (x)), some (.int (Int32.ofNat (256 + P)))], [.ref (b), .ref (b)], A)) rfl ?_
  refine rw_gf (v := .int (Int32.ofNat P)) h rfl rfl rfl rfl (h19) rfl ?_
  refine wp_st 2 (f' := (16, [some (.ref (b)), some (.int (kc)), some (.int (x)), some (.int (Int32.ofNat (256 + P)))], [.int ((Int32.ofNat P) + (Int32.ofNat 1)), .ref (b)], A)) rfl ?_
  rw [i32_add (P) (1)]
  refine rw_pf (v := .int (Int32.ofNat (P + 1))) h rfl rfl rfl rfl rfl rfl (fun A1 h2 f3 => ?_)
  have f4 := (sb_fr.refl A b (b + 38)).trans f3
  rw [rf_c_u (by decide)] at h2
  refine wp_st 1 (f' := (20, [some (.ref (b)), some (.int (kc)), some (.int (x)), some (.int (Int32.ofNat (256 + P)))], [.ref (b)], A1)) rfl ?_
  refine rw_gr h2 rfl rfl rfl rfl rfl rfl ?_
  refine wp_st 2 (f' := (25, [some (.ref (b)), some (.int (kc)), some (.int (x)), some (.int (Int32.ofNat (256 + P)))], [.int (kc), .int (Int32.ofNat (256 + P)), .ref (b + 4)], A1)) rfl ?_
  refine rw_as (j := 6) (n := 256 + P) (v := .int (kc)) h2 rfl rfl rfl (Or.inl ⟨rfl, rfl, rfl⟩) (show _ < 384 from by omega) rfl rfl (fun A5 h6 f7 => ?_)
  have f8 := f4.trans f7
  rw [rf_c_u (by decide)] at h6
  refine wp_st 1 (f' := (27, [some (.ref (b)), some (.int (kc)), some (.int (x)), some (.int (Int32.ofNat (256 + P)))], [.ref (b)], A5)) rfl ?_
  refine rw_gr h6 rfl rfl rfl rfl rfl rfl ?_
  refine wp_st 2 (f' := (32, [some (.ref (b)), some (.int (kc)), some (.int (x)), some (.int (Int32.ofNat (256 + P)))], [.int (x), .int (Int32.ofNat (256 + P)), .ref (b + 5)], A5)) rfl ?_
  refine rw_as (j := 7) (n := 256 + P) (v := .int (x)) h6 rfl rfl rfl (Or.inl ⟨rfl, rfl, rfl⟩) (show _ < 384 from by omega) rfl rfl (fun A9 h10 f11 => ?_)
  have f12 := f8.trans f11
  rw [rf_c_u (by decide)] at h10
  refine wp_st 1 (f' := (34, [some (.ref (b)), some (.int (kc)), some (.int (x)), some (.int (Int32.ofNat (256 + P)))], [.ref (b)], A9)) rfl ?_
  refine rw_gr h10 rfl rfl rfl rfl rfl rfl ?_
  refine wp_st 2 (f' := (39, [some (.ref (b)), some (.int (kc)), some (.int (x)), some (.int (Int32.ofNat (256 + P)))], [.int ((-1)), .int (Int32.ofNat (256 + P)), .ref (b + 6)], A9)) rfl ?_
  refine rw_as (j := 8) (n := 256 + P) (v := .int ((-1))) h10 rfl rfl rfl (Or.inl ⟨rfl, rfl, rfl⟩) (show _ < 384 from by omega) rfl rfl (fun A13 h14 f15 => ?_)
  have f16 := f12.trans f15
  rw [rf_c_u (by decide)] at h14
  refine wp_st 1 (f' := (41, [some (.ref (b)), some (.int (kc)), some (.int (x)), some (.int (Int32.ofNat (256 + P)))], [.ref (b)], A13)) rfl ?_
  refine rw_gr h14 rfl rfl rfl rfl rfl rfl ?_
  refine wp_st 1 (f' := (45, [some (.ref (b)), some (.int (kc)), some (.int (x)), some (.int (Int32.ofNat (256 + P)))], [.ref (b), .ref (b + 15)], A13)) rfl ?_
  refine rw_gf (v := .int (Int32.ofNat L)) h14 rfl rfl rfl rfl (h22) rfl ?_
  refine rw_al (j := 23) (n := L) (v := .int (Int32.ofNat (256 + ip))) h14 rfl rfl rfl (Or.inl ⟨rfl, rfl⟩) rfl (show _ < 4 from by omega) (by rw [rf_c_ne (show 23 ≠ 17 ∧ 23 ≠ 18 ∧ 23 ≠ 28 ∧ 23 ≠ 29 by decide), rf_u_ne (Or.inl (by decide)), rf_u_ne (Or.inl (by decide)), rf_u_ne (Or.inl (by decide)), rf_u_ne (Or.inl (by decide))]; exact h23) rfl ?_
  refine wp_izF rfl rfl (fun q => absurd ((i32_lt (a := 256 + ip) (b := 0) (by omega) (by omega)).mp q) (by omega)) ?_
  refine wp_st 1 (f' := (53, [some (.ref (b)), some (.int (kc)), some (.int (x)), some (.int (Int32.ofNat (256 + P)))], [.ref (b)], A13)) rfl ?_
  refine rw_gr h14 rfl rfl rfl rfl rfl rfl ?_
  refine wp_st 1 (f' := (57, [some (.ref (b)), some (.int (kc)), some (.int (x)), some (.int (Int32.ofNat (256 + P)))], [.ref (b), .ref (b + 6)], A13)) rfl ?_
  refine rw_gr h14 rfl rfl rfl rfl rfl rfl ?_
  refine wp_st 1 (f' := (61, [some (.ref (b)), some (.int (kc)), some (.int (x)), some (.int (Int32.ofNat (256 + P)))], [.ref (b), .ref (b + 15), .ref (b + 6)], A13)) rfl ?_
  refine rw_gf (v := .int (Int32.ofNat L)) h14 rfl rfl rfl rfl (h22) rfl ?_
  refine rw_al (j := 23) (n := L) (v := .int (Int32.ofNat (256 + ip))) h14 rfl rfl rfl (Or.inl ⟨rfl, rfl⟩) rfl (show _ < 4 from by omega) (by rw [rf_c_ne (show 23 ≠ 17 ∧ 23 ≠ 18 ∧ 23 ≠ 28 ∧ 23 ≠ 29 by decide), rf_u_ne (Or.inl (by decide)), rf_u_ne (Or.inl (by decide)), rf_u_ne (Or.inl (by decide)), rf_u_ne (Or.inl (by decide))]; exact h23) rfl ?_
  refine wp_st 1 (f' := (66, [some (.ref (b)), some (.int (kc)), some (.int (x)), some (.int (Int32.ofNat (256 + P)))], [.int (Int32.ofNat (256 + P)), .int (Int32.ofNat (256 + ip)), .ref (b + 6)], A13)) rfl ?_
  refine rw_as (j := 8) (n := 256 + ip) (v := .int (Int32.ofNat (256 + P))) h14 rfl rfl rfl (Or.inl ⟨rfl, rfl, rfl⟩) (show _ < 384 from by omega) rfl rfl (fun A17 h18 f19 => ?_)
  have f20 := f16.trans f19
  rw [rf_c_u (by decide)] at h18
  refine wp_st 2 (f' := (103, [some (.ref (b)), some (.int (kc)), some (.int (x)), some (.int (Int32.ofNat (256 + P)))], [.ref (b)], A17)) rfl ?_
  refine rw_gr h18 rfl rfl rfl rfl rfl rfl ?_
  refine wp_st 1 (f' := (107, [some (.ref (b)), some (.int (kc)), some (.int (x)), some (.int (Int32.ofNat (256 + P)))], [.ref (b), .ref (b + 15)], A17)) rfl ?_
  refine rw_gf (v := .int (Int32.ofNat L)) h18 rfl rfl rfl rfl (h22) rfl ?_
  refine wp_st 1 (f' := (111, [some (.ref (b)), some (.int (kc)), some (.int (x)), some (.int (Int32.ofNat (256 + P)))], [.int (Int32.ofNat (256 + P)), .int (Int32.ofNat L), .ref (b + 15)], A17)) rfl ?_
  refine rw_as (j := 23) (n := L) (v := .int (Int32.ofNat (256 + P))) h18 rfl rfl rfl (Or.inl ⟨rfl, rfl, rfl⟩) (show _ < 4 from by omega) rfl rfl (fun A21 h22 f23 => ?_)
  have f24 := f20.trans f23
  rw [rf_c_u (by decide)] at h22
  refine wp_rt rfl rfl rfl ?_
  exact ⟨rfl, _, h22, ⟨by simp only [rf_u_if]; simp, by simp only [rf_u_if]; simp, by simp only [rf_u_if]; simp, by simp only [rf_u_if]; simp; omega, by simp only [rf_u_if]; simp, fun j i q => (by unfold rm_hk at q; obtain ⟨rfl, rfl⟩ := q; simp only [rf_u_if]; simp), fun j i q1 q2 q3 q4 => by unfold rm_hk at q4; simp only [rf_u_if]; repeat (rw [if_neg (by omega)])⟩, f24⟩
theorem rn_add {d b p g : Nat} {w kc x : Int32} {r : Int64} {s s1 : rf_S} {A : am_H} {M : mg} {L : Nat} {E dp ob : Nat → Nat} {lp : Nat → Option Nat} {op : Bool} (hI : rm_I s1 M L E dp lp ob op) (hs : ∀ j i, (j = 19 ∨ j = 22 ∨ j = 23 ∨ j = 25) → s j i = s1 j i) (hP : mg_P M < 120) (h : rf A b (rf_c s p w r g)) : am_wp d 126 (0, am_ent 126 [.ref b, .int kc, .int x], [], A) (fun q => q.1 = .inl none ∧ ∃ t, rf q.2 b (rf_c t p w r g) ∧ rm_ad s t (mg_P M) L (lp L) (ob L) kc x ∧ sb_fr A q.2 b (b + 38)) := by
  have h23 := hI.s23 L (Nat.le_refl _)
  rw [← hs 23 L (by omega)] at h23
  have h19 := hI.s19
  rw [← hs 19 0 (by omega)] at h19
  have h22 := hI.s22
  rw [← hs 22 0 (by omega)] at h22
  rcases hlp : lp L with _ | ip
  · rw [hlp] at h23
    by_cases hL0 : L = 0
    · exact rn_add0 hP hI.L3 h19 h22 h23 hL0 h
    · have h9 := hI.C6 L (by omega) (Nat.le_refl _)
      have h25 := (hI.s24 L (by omega) (Nat.le_refl _)).2.1
      rw [← hs 25 L (by omega)] at h25
      have hB := hI.B1
      exact rn_add1 hP hI.L3 h19 h22 h23 (by omega) (by omega) h25 h
  · rw [hlp] at h23
    exact rn_add2 hP hI.L3 h19 h22 h23 (hI.C2 L (Nat.le_refl _) ip hlp).1 h
