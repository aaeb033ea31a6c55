/-! The reference: link, hasOther. -/
def rm_ln (s : rf_S) (o : Option Nat) (ci : Nat) (v : Value) : rf_S := match o with
  | none => rf_u s 12 (128 + ci) v
  | some l => rf_u s 16 (128 + l) v
theorem rn_ln_l {d b p g B ci i : Nat} {w x : Int32} {r : Int64} {wf : Nat → Nat} {s : rf_S} {A : am_H} (hB : B ≤ 60) (hci : ci ≤ 63) (hc0 : s 12 (128 + ci) = rm_e 128 (mg_bo wf i B 0)) (hc : ∀ c, c < B → wf c = i → s 16 (128 + c) = rm_e 128 (mg_bo wf i (B - (c + 1)) (c + 1))) (h : rf A b (rf_c s p w r g)) : ∀ (q c : Nat), B - c < q → c < B → wf c = i → am_wp d 145 (19, [some (.ref b), some (.int (Int32.ofNat (128 + ci))), some (.int x), some (.int (Int32.ofNat (128 + c)))], [], A) (fun q => q.1 = .inl none ∧ rf q.2 b (rf_c (rm_ln s (mg_bl wf i B) ci (.int x)) p w r g) ∧ sb_fr A q.2 b (b + 38)) := by
  intro q
  induction q with
  | zero =>
    intro c h1
    omega
  | succ q ih =>
    intro c hq hcB hw
    have h16 := hc c hcB hw
    rcases hbo : mg_bo wf i (B - (c + 1)) (c + 1) with _ | c9
    · rw [hbo] at h16
      refine wp_st 1 (f' := (20, [some (.ref (b)), some (.int (Int32.ofNat (128 + ci))), some (.int (x)), some (.int (Int32.ofNat (128 + c)))], [.ref (b)], A)) rfl ?_
      refine rw_gr h rfl rfl rfl rfl rfl rfl ?_
      refine wp_st 1 (f' := (24, [some (.ref (b)), some (.int (Int32.ofNat (128 + ci))), some (.int (x)), some (.int (Int32.ofNat (128 + c)))], [.int (Int32.ofNat (128 + c)), .ref (b + 14)], A)) rfl ?_
      refine rw_al (j := 16) (n := 128 + c) (v := .int ((-1))) h rfl rfl rfl (Or.inl ⟨rfl, rfl⟩) rfl (show _ < 192 from by omega) (by rw [rf_c_ne (show 16 ≠ 17 ∧ 16 ≠ 18 ∧ 16 ≠ 28 ∧ 16 ≠ 29 by decide)]; exact h16) rfl ?_
      refine wp_izT rfl rfl (show (-1 : Int32) < Int32.ofNat 0 from by decide) ?_
      refine wp_st 1 (f' := (39, [some (.ref (b)), some (.int (Int32.ofNat (128 + ci))), some (.int (x)), some (.int (Int32.ofNat (128 + c)))], [.ref (b)], A)) rfl ?_
      refine rw_gr h rfl rfl rfl rfl rfl rfl ?_
      refine wp_st 2 (f' := (44, [some (.ref (b)), some (.int (Int32.ofNat (128 + ci))), some (.int (x)), some (.int (Int32.ofNat (128 + c)))], [.int (x), .int (Int32.ofNat (128 + c)), .ref (b + 14)], A)) rfl ?_
      refine rw_as (j := 16) (n := 128 + c) (v := .int (x)) h rfl rfl rfl (Or.inl ⟨rfl, rfl, rfl⟩) (show _ < 192 from by omega) rfl rfl (fun A1 h2 f3 => ?_)
      have f4 := (sb_fr.refl A b (b + 38)).trans f3
      rw [rf_c_u (by decide)] at h2
      refine wp_rt rfl rfl rfl ?_
      rw [mg_bl_eq hcB hw hbo]
      exact ⟨rfl, h2, f4⟩
    · rw [hbo] at h16
      have hb9 := mg_bo_in hbo
      refine wp_st 1 (f' := (20, [some (.ref (b)), some (.int (Int32.ofNat (128 + ci))), some (.int (x)), some (.int (Int32.ofNat (128 + c)))], [.ref (b)], A)) rfl ?_
      refine rw_gr h rfl rfl rfl rfl rfl rfl ?_
      refine wp_st 1 (f' := (24, [some (.ref (b)), some (.int (Int32.ofNat (128 + ci))), some (.int (x)), some (.int (Int32.ofNat (128 + c)))], [.int (Int32.ofNat (128 + c)), .ref (b + 14)], A)) rfl ?_
      refine rw_al (j := 16) (n := 128 + c) (v := .int (Int32.ofNat (128 + c9))) h rfl rfl rfl (Or.inl ⟨rfl, rfl⟩) rfl (show _ < 192 from by omega) (by rw [rf_c_ne (show 16 ≠ 17 ∧ 16 ≠ 18 ∧ 16 ≠ 28 ∧ 16 ≠ 29 by decide)]; exact h16) rfl ?_
      refine wp_izF rfl rfl (fun q => absurd ((i32_lt (a := 128 + c9) (b := 0) (by omega) (by omega)).mp q) (by omega)) ?_
      refine wp_st 1 (f' := (29, [some (.ref (b)), some (.int (Int32.ofNat (128 + ci))), some (.int (x)), some (.int (Int32.ofNat (128 + c)))], [.ref (b)], A)) rfl ?_
      refine rw_gr h rfl rfl rfl rfl rfl rfl ?_
      refine wp_st 1 (f' := (33, [some (.ref (b)), some (.int (Int32.ofNat (128 + ci))), some (.int (x)), some (.int (Int32.ofNat (128 + c)))], [.int (Int32.ofNat (128 + c)), .ref (b + 14)], A)) rfl ?_
      refine rw_al (j := 16) (n := 128 + c) (v := .int (Int32.ofNat (128 + c9))) h rfl rfl rfl (Or.inl ⟨rfl, rfl⟩) rfl (show _ < 192 from by omega) (by rw [rf_c_ne (show 16 ≠ 17 ∧ 16 ≠ 18 ∧ 16 ≠ 28 ∧ 16 ≠ 29 by decide)]; exact h16) rfl ?_
      refine wp_st 2 (f' := (19, [some (.ref (b)), some (.int (Int32.ofNat (128 + ci))), some (.int (x)), some (.int (Int32.ofNat (128 + c9)))], [], A)) rfl ?_
      exact ih c9 (by omega) (by omega) hb9.2.2.1
theorem rn_link {d b p g B ci i : Nat} {w x : Int32} {r : Int64} {wf : Nat → Nat} {s : rf_S} {A : am_H} (hB : B ≤ 60) (hci : ci ≤ 63) (hc0 : s 12 (128 + ci) = rm_e 128 (mg_bo wf i B 0)) (hc : ∀ c, c < B → wf c = i → s 16 (128 + c) = rm_e 128 (mg_bo wf i (B - (c + 1)) (c + 1))) (h : rf A b (rf_c s p w r g)) : rf_go d 145 [.ref b, .int (Int32.ofNat (128 + ci)), .int x] A b none (rf_c (rm_ln s (mg_bl wf i B) ci (.int x)) p w r g) := by
  refine rf_of ?_
  rcases hbo : mg_bo wf i B 0 with _ | c9
  · have hc1 := hc0
    rw [hbo] at hc1
    refine wp_st 1 (f' := (1, [some (.ref (b)), some (.int (Int32.ofNat (128 + ci))), some (.int (x)), none], [.ref (b)], A)) rfl ?_
    refine rw_gr h rfl rfl rfl rfl rfl rfl ?_
    refine wp_st 1 (f' := (5, [some (.ref (b)), some (.int (Int32.ofNat (128 + ci))), some (.int (x)), none], [.int (Int32.ofNat (128 + ci)), .ref (b + 10)], A)) rfl ?_
    refine rw_al (j := 12) (n := 128 + ci) (v := .int ((-1))) h rfl rfl rfl (Or.inl ⟨rfl, rfl⟩) rfl (show _ < 192 from by omega) (by rw [rf_c_ne (show 12 ≠ 17 ∧ 12 ≠ 18 ∧ 12 ≠ 28 ∧ 12 ≠ 29 by decide)]; exact hc1) rfl ?_
    refine wp_st 2 (f' := (8, [some (.ref (b)), some (.int (Int32.ofNat (128 + ci))), some (.int (x)), some (.int ((-1)))], [.int ((-1))], A)) rfl ?_
    refine wp_izF rfl rfl (show ¬ (Int32.ofNat 0 ≤ (-1 : Int32)) from by decide) ?_
    refine wp_st 1 (f' := (12, [some (.ref (b)), some (.int (Int32.ofNat (128 + ci))), some (.int (x)), some (.int ((-1)))], [.ref (b)], A)) rfl ?_
    refine rw_gr h rfl rfl rfl rfl rfl rfl ?_
    refine wp_st 2 (f' := (17, [some (.ref (b)), some (.int (Int32.ofNat (128 + ci))), some (.int (x)), some (.int ((-1)))], [.int (x), .int (Int32.ofNat (128 + ci)), .ref (b + 10)], A)) rfl ?_
    refine rw_as (j := 12) (n := 128 + ci) (v := .int (x)) h rfl rfl rfl (Or.inl ⟨rfl, rfl, rfl⟩) (show _ < 192 from by omega) rfl rfl (fun A1 h2 f3 => ?_)
    have f4 := (sb_fr.refl A b (b + 38)).trans f3
    rw [rf_c_u (by decide)] at h2
    refine wp_rt rfl rfl rfl ?_
    rw [mg_bl_n hbo]
    exact ⟨rfl, h2, f4⟩
  · have hc1 := hc0
    rw [hbo] at hc1
    have hb9 := mg_bo_in hbo
    refine wp_st 1 (f' := (1, [some (.ref (b)), some (.int (Int32.ofNat (128 + ci))), some (.int (x)), none], [.ref (b)], A)) rfl ?_
    refine rw_gr h rfl rfl rfl rfl rfl rfl ?_
    refine wp_st 1 (f' := (5, [some (.ref (b)), some (.int (Int32.ofNat (128 + ci))), some (.int (x)), none], [.int (Int32.ofNat (128 + ci)), .ref (b + 10)], A)) rfl ?_
    refine rw_al (j := 12) (n := 128 + ci) (v := .int (Int32.ofNat (128 + c9))) h rfl rfl rfl (Or.inl ⟨rfl, rfl⟩) rfl (show _ < 192 from by omega) (by rw [rf_c_ne (show 12 ≠ 17 ∧ 12 ≠ 18 ∧ 12 ≠ 28 ∧ 12 ≠ 29 by decide)]; exact hc1) rfl ?_
    refine wp_st 2 (f' := (8, [some (.ref (b)), some (.int (Int32.ofNat (128 + ci))), some (.int (x)), some (.int (Int32.ofNat (128 + c9)))], [.int (Int32.ofNat (128 + c9))], A)) rfl ?_
    refine wp_izT rfl rfl ((i32_le (a := 0) (b := 128 + c9) (by omega) (by omega)).mpr (by omega)) ?_
    exact rn_ln_l hB hci hc0 hc h (B + 1) c9 (by omega) (by omega) hb9.2.2.1
theorem rn_ho_l {d b p g ci i : Nat} {w : Int32} {r : Int64} {M : mg} {s : rf_S} {A : am_H} (hd : 2 ≤ d) (hB : mg_B M ≤ 60) (hci : ci ≤ 63) (hc0 : s 12 (128 + ci) = rm_e 128 (mg_bo (mg_w M) i (mg_B M) 0)) (hc : ∀ c, c < mg_B M → mg_w M c = i → rm_b s M 128 c) (h : rf A b (rf_c s p w r g)) : ∀ (q j : Nat), mg_B M - j < q → j ≤ mg_B M → am_wp d 142 (7, [some (.ref b), some (.int (Int32.ofNat (128 + ci))), some (.int (rm_i 128 (mg_bo (mg_w M) i (mg_B M - j) j)))], [], A) (fun q => q = (.inl (some (.int (sb_i (mg_bw M i sb_OTH (mg_B M - j) j != none)))), A)) := by
  intro q
  induction q with
  | zero =>
    intro j h1
    omega
  | succ q ih =>
    intro j hq hj
    rcases hbo : mg_bo (mg_w M) i (mg_B M - j) j with _ | c
    · show am_wp d 142 (7, [some (.ref b), some (.int (Int32.ofNat (128 + ci))), some (.int (-1))], [], A) _
      refine wp_st 1 (f' := (8, [some (.ref (b)), some (.int (Int32.ofNat (128 + ci))), some (.int ((-1)))], [.int ((-1))], A)) rfl ?_
      refine wp_izT rfl rfl (show (-1 : Int32) < Int32.ofNat 0 from by decide) ?_
      refine wp_st 1 (f' := (45, [some (.ref (b)), some (.int (Int32.ofNat (128 + ci))), some (.int ((-1)))], [.int (Int32.ofNat 0)], A)) rfl ?_
      refine wp_rt rfl rfl rfl ?_
      rw [mg_bw_bn hbo]
      rfl
    · show am_wp d 142 (7, [some (.ref b), some (.int (Int32.ofNat (128 + ci))), some (.int (Int32.ofNat (128 + c)))], [], A) _
      have hb9 := mg_bo_in hbo
      have hb8 := hc c (by omega) hb9.2.2.1
      have h16 := hb8.2
      rw [hb9.2.2.1] at h16
      rcases rm_sl_eq (by omega) hb8.1 rm_w_oth with ⟨h13, hne, y, h14⟩ | ⟨h13, N9, h14, hN9, heq⟩
      · skip
        refine wp_st 1 (f' := (8, [some (.ref (b)), some (.int (Int32.ofNat (128 + ci))), some (.int (Int32.ofNat (128 + c)))], [.int (Int32.ofNat (128 + c))], A)) rfl ?_
        refine wp_izF rfl rfl (fun q => absurd ((i32_lt (a := 128 + c) (b := 0) (by omega) (by omega)).mp q) (by omega)) ?_
        refine wp_st 1 (f' := (12, [some (.ref (b)), some (.int (Int32.ofNat (128 + ci))), some (.int (Int32.ofNat (128 + c)))], [.ref (b)], A)) rfl ?_
        refine rw_gr h rfl rfl rfl rfl rfl rfl ?_
        refine wp_st 1 (f' := (16, [some (.ref (b)), some (.int (Int32.ofNat (128 + ci))), some (.int (Int32.ofNat (128 + c)))], [.int (Int32.ofNat (128 + c)), .ref (b + 11)], A)) rfl ?_
        refine rw_al (j := 13) (n := 128 + c) (v := .int (sb_i true)) h rfl rfl rfl (Or.inr (Or.inr (Or.inr (Or.inl ⟨rfl, rfl⟩)))) rfl (show _ < 192 from by omega) (by rw [rf_c_ne (show 13 ≠ 17 ∧ 13 ≠ 18 ∧ 13 ≠ 28 ∧ 13 ≠ 29 by decide)]; exact h13) rfl ?_
        refine wp_izT rfl rfl (show sb_i true ≠ 0 from by decide) ?_
        refine wp_st 1 (f' := (35, [some (.ref (b)), some (.int (Int32.ofNat (128 + ci))), some (.int (Int32.ofNat (128 + c)))], [.ref (b)], A)) rfl ?_
        refine rw_gr h rfl rfl rfl rfl rfl rfl ?_
        refine wp_st 1 (f' := (39, [some (.ref (b)), some (.int (Int32.ofNat (128 + ci))), some (.int (Int32.ofNat (128 + c)))], [.int (Int32.ofNat (128 + c)), .ref (b + 14)], A)) rfl ?_
        refine rw_al (j := 16) (n := 128 + c) (v := .int (rm_i 128 (mg_bo (mg_w M) i (mg_B M - (c + 1)) (c + 1)))) h rfl rfl rfl (Or.inl ⟨rfl, rfl⟩) rfl (show _ < 192 from by omega) (by rw [rf_c_ne (show 16 ≠ 17 ∧ 16 ≠ 18 ∧ 16 ≠ 28 ∧ 16 ≠ 29 by decide), h16]; exact rm_e_i _ _) rfl ?_
        refine wp_st 2 (f' := (7, [some (.ref (b)), some (.int (Int32.ofNat (128 + ci))), some (.int (rm_i 128 (mg_bo (mg_w M) i (mg_B M - (c + 1)) (c + 1))))], [], A)) rfl ?_
        rw [mg_bw_bo hbo, if_neg (show ¬ mg_s M c = sb_OTH from hne), show j + (mg_B M - j) - (c + 1) = mg_B M - (c + 1) by omega]
        exact ih (c + 1) (by omega) (by omega)
      · skip
        refine wp_st 1 (f' := (8, [some (.ref (b)), some (.int (Int32.ofNat (128 + ci))), some (.int (Int32.ofNat (128 + c)))], [.int (Int32.ofNat (128 + c))], A)) rfl ?_
        refine wp_izF rfl rfl (fun q => absurd ((i32_lt (a := 128 + c) (b := 0) (by omega) (by omega)).mp q) (by omega)) ?_
        refine wp_st 1 (f' := (12, [some (.ref (b)), some (.int (Int32.ofNat (128 + ci))), some (.int (Int32.ofNat (128 + c)))], [.ref (b)], A)) rfl ?_
        refine rw_gr h rfl rfl rfl rfl rfl rfl ?_
        refine wp_st 1 (f' := (16, [some (.ref (b)), some (.int (Int32.ofNat (128 + ci))), some (.int (Int32.ofNat (128 + c)))], [.int (Int32.ofNat (128 + c)), .ref (b + 11)], A)) rfl ?_
        refine rw_al (j := 13) (n := 128 + c) (v := .int (sb_i false)) h rfl rfl rfl (Or.inr (Or.inr (Or.inr (Or.inl ⟨rfl, rfl⟩)))) rfl (show _ < 192 from by omega) (by rw [rf_c_ne (show 13 ≠ 17 ∧ 13 ≠ 18 ∧ 13 ≠ 28 ∧ 13 ≠ 29 by decide)]; exact h13) rfl ?_
        refine wp_izF rfl rfl (show ¬ (sb_i false ≠ 0) from by decide) ?_
        refine wp_st 1 (f' := (21, [some (.ref (b)), some (.int (Int32.ofNat (128 + ci))), some (.int (Int32.ofNat (128 + c)))], [.ref (b)], A)) rfl ?_
        refine rw_gr h rfl rfl rfl rfl rfl rfl ?_
        refine wp_st 1 (f' := (25, [some (.ref (b)), some (.int (Int32.ofNat (128 + ci))), some (.int (Int32.ofNat (128 + c)))], [.int (Int32.ofNat (128 + c)), .ref (b + 12)], A)) rfl ?_
        refine rw_al (j := 14) (n := 128 + c) (v := .long (Int64.ofNat N9)) h rfl rfl rfl (Or.inr (Or.inl ⟨rfl, rfl⟩)) rfl (show _ < 192 from by omega) (by rw [rf_c_ne (show 14 ≠ 17 ∧ 14 ≠ 18 ∧ 14 ≠ 28 ∧ 14 ≠ 29 by decide)]; exact h14) rfl ?_
        by_cases hN8 : N9 = 16392370
        · skip
          have hN7 := hN8
          refine wp_cs (n := 0) (A' := A) (v := some (.int (Int32.ofNat 1))) rfl rfl rfl (by omega) (by have e := rn_oth (d := d - 1) (r := Int64.ofNat N9) (A := A) (by omega); rw [if_pos (congrArg Int64.ofNat hN8)] at e; exact e) rfl ?_
          show am_wp d 142 (29, [some (.ref (b)), some (.int (Int32.ofNat (128 + ci))), some (.int (Int32.ofNat (128 + c)))], [.int (Int32.ofNat 1)], A) _
          refine wp_izF rfl rfl (show ¬ ((Int32.ofNat 1) = (Int32.ofNat 0)) from by decide) ?_
          refine wp_st 1 (f' := (33, [some (.ref (b)), some (.int (Int32.ofNat (128 + ci))), some (.int (Int32.ofNat (128 + c)))], [.int (Int32.ofNat 1)], A)) rfl ?_
          refine wp_rt rfl rfl rfl ?_
          rw [mg_bw_bo hbo, if_pos (show mg_s M c = sb_OTH from heq.mp hN8)]
          rfl
        · skip
          refine wp_cs (n := 0) (A' := A) (v := some (.int (Int32.ofNat 0))) rfl rfl rfl (by omega) (by have e := rn_oth (d := d - 1) (r := Int64.ofNat N9) (A := A) (by omega); rw [if_neg (fun e => hN8 ((i64_eq (by omega) (by omega)).mp e))] at e; exact e) rfl ?_
          show am_wp d 142 (29, [some (.ref (b)), some (.int (Int32.ofNat (128 + ci))), some (.int (Int32.ofNat (128 + c)))], [.int (Int32.ofNat 0)], A) _
          refine wp_izT rfl rfl (show (Int32.ofNat 0) = (Int32.ofNat 0) from by decide) ?_
          refine wp_st 1 (f' := (35, [some (.ref (b)), some (.int (Int32.ofNat (128 + ci))), some (.int (Int32.ofNat (128 + c)))], [.ref (b)], A)) rfl ?_
          refine rw_gr h rfl rfl rfl rfl rfl rfl ?_
          refine wp_st 1 (f' := (39, [some (.ref (b)), some (.int (Int32.ofNat (128 + ci))), some (.int (Int32.ofNat (128 + c)))], [.int (Int32.ofNat (128 + c)), .ref (b + 14)], A)) rfl ?_
          refine rw_al (j := 16) (n := 128 + c) (v := .int (rm_i 128 (mg_bo (mg_w M) i (mg_B M - (c + 1)) (c + 1)))) h rfl rfl rfl (Or.inl ⟨rfl, rfl⟩) rfl (show _ < 192 from by omega) (by rw [rf_c_ne (show 16 ≠ 17 ∧ 16 ≠ 18 ∧ 16 ≠ 28 ∧ 16 ≠ 29 by decide), h16]; exact rm_e_i _ _) rfl ?_
          refine wp_st 2 (f' := (7, [some (.ref (b)), some (.int (Int32.ofNat (128 + ci))), some (.int (rm_i 128 (mg_bo (mg_w M) i (mg_B M - (c + 1)) (c + 1))))], [], A)) rfl ?_
          rw [mg_bw_bo hbo, if_neg (show ¬ mg_s M c = sb_OTH from fun e => hN8 (heq.mpr e)), show j + (mg_B M - j) - (c + 1) = mg_B M - (c + 1) by omega]
          exact ih (c + 1) (by omega) (by omega)
theorem rn_ho {d b p g ci i : Nat} {w : Int32} {r : Int64} {M : mg} {s : rf_S} {A : am_H} (hd : 2 ≤ d) (hB : mg_B M ≤ 60) (hci : ci ≤ 63) (hc0 : s 12 (128 + ci) = rm_e 128 (mg_bo (mg_w M) i (mg_B M) 0)) (hc : ∀ c, c < mg_B M → mg_w M c = i → rm_b s M 128 c) (h : rf A b (rf_c s p w r g)) : am_go d 142 [.ref b, .int (Int32.ofNat (128 + ci))] A (.inl (some (.int (sb_i (mg_bw M i sb_OTH (mg_B M) 0 != none)))), A) := by
  refine wp_go ?_
  refine wp_st 1 (f' := (1, [some (.ref (b)), some (.int (Int32.ofNat (128 + ci))), none], [.ref (b)], A)) rfl ?_
  refine rw_gr h rfl rfl rfl rfl rfl rfl ?_
  refine wp_st 1 (f' := (5, [some (.ref (b)), some (.int (Int32.ofNat (128 + ci))), none], [.int (Int32.ofNat (128 + ci)), .ref (b + 10)], A)) rfl ?_
  refine rw_al (j := 12) (n := 128 + ci) (v := .int (rm_i 128 (mg_bo (mg_w M) i (mg_B M) 0))) h rfl rfl rfl (Or.inl ⟨rfl, rfl⟩) rfl (show _ < 192 from by omega) (by rw [rf_c_ne (show 12 ≠ 17 ∧ 12 ≠ 18 ∧ 12 ≠ 28 ∧ 12 ≠ 29 by decide), hc0]; exact rm_e_i _ _) rfl ?_
  refine wp_st 1 (f' := (7, [some (.ref (b)), some (.int (Int32.ofNat (128 + ci))), some (.int (rm_i 128 (mg_bo (mg_w M) i (mg_B M) 0)))], [], A)) rfl ?_
  have e := rn_ho_l hd hB hci hc0 hc h (mg_B M + 1) 0 (by omega) (by omega)
  rw [Nat.sub_zero] at e
  exact e
