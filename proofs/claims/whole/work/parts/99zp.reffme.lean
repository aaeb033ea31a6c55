/-! The reference: how format begins and ends. -/
theorem fl_hd4 {d b t mk : Nat} {len : Bool} {o3 : Int32} {v5 : Option Value} {s : rf_S} {A : am_H} {Q : am_O × am_H → Prop} {L : Nat} (hL : L < 4) (h0 : s 0 0 = .int (Int32.ofNat 4)) (h22 : s 22 0 = .int (Int32.ofNat L)) (h : rf A b s) (kk : Q (.inl (some (.int (Int32.ofNat 0))), A)) : am_wp d 167 (63, [some (.ref b), some (.int (Int32.ofNat t)), some (.int (sb_i len)), some (.int o3), some (.int (Int32.ofNat mk)), v5], [], A) Q := by
  refine wp_st 1 (f' := (64, [some (.ref (b)), some (.int (Int32.ofNat t)), some (.int (sb_i len)), some (.int (o3)), some (.int (Int32.ofNat mk)), v5], [.ref (b)], A)) rfl ?_
  refine rw_gf (v := .int (Int32.ofNat L)) h rfl rfl rfl rfl (h22) rfl ?_
  refine wp_izF rfl rfl (fun q => absurd ((i32_lt (a := L) (b := 0) (by omega) (by omega)).mp q) (by omega)) ?_
  refine wp_st 1 (f' := (71, [some (.ref (b)), some (.int (Int32.ofNat t)), some (.int (sb_i len)), some (.int (o3)), some (.int (Int32.ofNat mk)), v5], [.ref (b)], A)) rfl ?_
  refine rw_gf (v := .int (Int32.ofNat 4)) h rfl rfl rfl rfl (h0) rfl ?_
  refine wp_izT rfl (show am_tgt 74 (124) = 198 by decide +kernel) (show (Int32.ofNat 4) ≠ (Int32.ofNat 0) from by decide) ?_
  refine wp_st 1 (f' := (199, [some (.ref (b)), some (.int (Int32.ofNat t)), some (.int (sb_i len)), some (.int (o3)), some (.int (Int32.ofNat mk)), v5], [.ref (b)], A)) rfl ?_
  refine rw_gf (v := .int (Int32.ofNat 4)) h rfl rfl rfl rfl (h0) rfl ?_
  refine wp_izF rfl rfl (show ¬ ((Int32.ofNat 4) ≤ (Int32.ofNat 0)) from by decide) ?_
  refine wp_st 1 (f' := (206, [some (.ref (b)), some (.int (Int32.ofNat t)), some (.int (sb_i len)), some (.int (o3)), some (.int (Int32.ofNat mk)), v5], [.int (Int32.ofNat 0)], A)) rfl ?_
  refine wp_rt rfl rfl rfl ?_
  exact kk
def fl_cp (s : rf_S) (w : List Nat) (k : Nat) : rf_S := rk s (fun j => decide (j = 49)) (fun _ i => .int (Int32.ofNat (w.getD i 0))) 0 k
theorem fl_cp_s {s u : rf_S} {w : List Nat} {k : Nat} (hu : u = fl_cp s w k) : rf_u u 49 k (.int (Int32.ofNat (w.getD k 0))) = fl_cp s w (k + 1) := by
  subst hu
  unfold fl_cp
  funext j i
  rw [rk_s, rf_u_if, Nat.zero_add]
  by_cases h : j = 49
  · subst h; by_cases h2 : i = k <;> simp [h2]
  · simp [h]
theorem fl_cpl {d b t mk : Nat} {len : Bool} {o3 : Int32} {s : rf_S} {Q : am_O × am_H → Prop} {w : List Nat} (hw : w.length ≤ 160) (h48 : s 48 0 = .int (Int32.ofNat w.length)) (h50 : s 50 0 = .int (Int32.ofNat w.length)) (h47 : ∀ i, i < w.length → s 47 i = .int (Int32.ofNat (w.getD i 0))) : ∀ (q k : Nat) (A : am_H), w.length - k < q → k ≤ w.length → rf A b (fl_cp s w k) → (∀ B, rf B b (fl_cp s w w.length) → sb_fr A B b (b + 38) → Q (.inl (some (.int (Int32.ofNat w.length))), B)) → am_wp d 167 (218, [some (.ref b), some (.int (Int32.ofNat t)), some (.int (sb_i len)), some (.int o3), some (.int (Int32.ofNat mk)), some (.int (Int32.ofNat k))], [], A) Q := by
  intro q
  induction q with
  | zero =>
    intro k A h1
    omega
  | succ q ih =>
    intro k A hq hk h kk
    refine wp_st 2 (f' := (221, [some (.ref (b)), some (.int (Int32.ofNat t)), some (.int (sb_i len)), some (.int (o3)), some (.int (Int32.ofNat mk)), some (.int (Int32.ofNat k))], [.ref (b), .int (Int32.ofNat k)], A)) rfl ?_
    refine rw_gf (v := .int (Int32.ofNat (w.length))) h rfl rfl rfl rfl ((show fl_cp s w k 48 0 = _ from (rk_nP (by decide)).trans h48)) rfl ?_
    refine wp_if rfl rfl rfl (fun (h1 : (Int32.ofNat (w.length)) ≤ (Int32.ofNat k)) => ?_) (fun (h1 : ¬ ((Int32.ofNat (w.length)) ≤ (Int32.ofNat k))) => ?_)
    · skip
      rw [i32_le (by omega) (by omega)] at h1
      refine wp_st 1 (f' := (248, [some (.ref (b)), some (.int (Int32.ofNat t)), some (.int (sb_i len)), some (.int (o3)), some (.int (Int32.ofNat mk)), some (.int (Int32.ofNat k))], [.ref (b)], A)) rfl ?_
      refine rw_gf (v := .int (Int32.ofNat (w.length))) h rfl rfl rfl rfl ((show fl_cp s w k 50 0 = _ from (rk_nP (by decide)).trans h50)) rfl ?_
      refine wp_rt rfl rfl rfl ?_
      obtain rfl : k = w.length := by omega
      exact kk _ h (sb_fr.refl A b (b + 38))
    · skip
      rw [i32_le (by omega) (by omega)] at h1
      refine wp_st 1 (f' := (228, [some (.ref (b)), some (.int (Int32.ofNat t)), some (.int (sb_i len)), some (.int (o3)), some (.int (Int32.ofNat mk)), some (.int (Int32.ofNat k))], [.ref (b)], A)) rfl ?_
      refine rw_gr h rfl rfl rfl rfl rfl rfl ?_
      refine wp_st 2 (f' := (234, [some (.ref (b)), some (.int (Int32.ofNat t)), some (.int (sb_i len)), some (.int (o3)), some (.int (Int32.ofNat mk)), some (.int (Int32.ofNat k))], [.ref (b), .int (Int32.ofNat k), .ref (b + 34)], A)) rfl ?_
      refine rw_gr h rfl rfl rfl rfl rfl rfl ?_
      refine wp_st 1 (f' := (239, [some (.ref (b)), some (.int (Int32.ofNat t)), some (.int (sb_i len)), some (.int (o3)), some (.int (Int32.ofNat mk)), some (.int (Int32.ofNat k))], [.int (Int32.ofNat k), .ref (b + 33), .int (Int32.ofNat k), .ref (b + 34)], A)) rfl ?_
      refine rw_al (j := 47) (n := k) (v := .int (Int32.ofNat (w.getD k 0))) h rfl rfl rfl (Or.inl ⟨rfl, rfl⟩) rfl (show _ < 160 from by omega) ((show fl_cp s w k 47 k = _ from (rk_nP (by decide)).trans (h47 k (by omega)))) rfl ?_
      refine rw_as (j := 49) (n := k) (v := .int (Int32.ofNat (w.getD k 0))) h rfl rfl rfl (Or.inl ⟨rfl, rfl, rfl⟩) (show _ < 160 from by omega) rfl rfl (fun A2 h3 f4 => ?_)
      have f5 := (sb_fr.refl A b (b + 38)).trans f4
      refine wp_st 1 (f' := (244, [some (.ref (b)), some (.int (Int32.ofNat t)), some (.int (sb_i len)), some (.int (o3)), some (.int (Int32.ofNat mk)), some (.int ((Int32.ofNat k) + (Int32.ofNat 1)))], [], A2)) rfl ?_
      rw [i32_add (k) (1)]
      refine wp_st 1 (f' := (218, [some (.ref (b)), some (.int (Int32.ofNat t)), some (.int (sb_i len)), some (.int (o3)), some (.int (Int32.ofNat mk)), some (.int (Int32.ofNat (k + 1)))], [], A2)) rfl ?_
      rw [fl_cp_s rfl] at h3
      exact ih (k + 1) _ (by omega) (by omega) h3 (fun B hB fB => kk B hB (f5.trans fB))
theorem fl_end {d b t mk : Nat} {len : Bool} {o3 : Int32} {v5 : Option Value} {s : rf_S} {A : am_H} {Q : am_O × am_H → Prop} {w : List Nat} (hw : rf_dw s w) (h22 : s 22 0 = .int (Int32.ofNat 0)) (h51 : s 51 0 = .int (-1)) (h : rf A b s) (kk : ∀ B, rf B b (fl_cp (rf_u (rf_u s 22 0 (.int (-1))) 50 0 (.int (Int32.ofNat w.length))) w w.length) → sb_fr A B b (b + 38) → Q (.inl (some (.int (Int32.ofNat w.length))), B)) : am_wp d 167 (63, [some (.ref b), some (.int (Int32.ofNat t)), some (.int (sb_i len)), some (.int o3), some (.int (Int32.ofNat mk)), v5], [], A) Q := by
  refine wp_st 1 (f' := (64, [some (.ref (b)), some (.int (Int32.ofNat t)), some (.int (sb_i len)), some (.int (o3)), some (.int (Int32.ofNat mk)), v5], [.ref (b)], A)) rfl ?_
  refine rw_gf (v := .int (Int32.ofNat 0)) h rfl rfl rfl rfl (h22) rfl ?_
  refine wp_izF rfl rfl (show ¬ ((Int32.ofNat 0) < (Int32.ofNat 0)) from by decide) ?_
  refine wp_st 1 (f' := (71, [some (.ref (b)), some (.int (Int32.ofNat t)), some (.int (sb_i len)), some (.int (o3)), some (.int (Int32.ofNat mk)), v5], [.ref (b)], A)) rfl ?_
  refine rw_gf (v := .int (Int32.ofNat 0)) h rfl rfl rfl rfl (hw.2.2.2) rfl ?_
  refine wp_izF rfl rfl (show ¬ ((Int32.ofNat 0) ≠ (Int32.ofNat 0)) from by decide) ?_
  refine wp_st 1 (f' := (78, [some (.ref (b)), some (.int (Int32.ofNat t)), some (.int (sb_i len)), some (.int (o3)), some (.int (Int32.ofNat mk)), v5], [.ref (b)], A)) rfl ?_
  refine rw_gr h rfl rfl rfl rfl rfl rfl ?_
  refine wp_st 1 (f' := (82, [some (.ref (b)), some (.int (Int32.ofNat t)), some (.int (sb_i len)), some (.int (o3)), some (.int (Int32.ofNat mk)), v5], [.ref (b), .ref (b + 35)], A)) rfl ?_
  refine rw_gf (v := .int (Int32.ofNat 0)) h rfl rfl rfl rfl (h22) rfl ?_
  refine rw_al (j := 51) (n := 0) (v := .int ((-1))) h rfl rfl rfl (Or.inl ⟨rfl, rfl⟩) rfl (show _ < 4 from by omega) (h51) rfl ?_
  refine wp_st 2 (f' := (90, [some (.ref (b)), some (.int (Int32.ofNat t)), some (.int (sb_i len)), some (.int (o3)), some (.int (Int32.ofNat mk)), some (.int ((-1)))], [.int ((-1))], A)) rfl ?_
  refine wp_izF rfl rfl (show ¬ ((Int32.ofNat 0) ≤ (-1 : Int32)) from by decide) ?_
  refine wp_st 2 (f' := (95, [some (.ref (b)), some (.int (Int32.ofNat t)), some (.int (sb_i len)), some (.int (o3)), some (.int (Int32.ofNat mk)), some (.int ((-1)))], [.ref (b), .ref (b)], A)) rfl ?_
  refine rw_gf (v := .int (Int32.ofNat 0)) h rfl rfl rfl rfl (h22) rfl ?_
  refine wp_st 2 (f' := (100, [some (.ref (b)), some (.int (Int32.ofNat t)), some (.int (sb_i len)), some (.int (o3)), some (.int (Int32.ofNat mk)), some (.int ((-1)))], [.int ((Int32.ofNat 0) - (Int32.ofNat 1)), .ref (b)], A)) rfl ?_
  rw [show (Int32.ofNat 0) - (Int32.ofNat 1) = -1 from by decide]
  refine rw_pf (v := .int ((-1))) h rfl rfl rfl rfl rfl rfl (fun A1 h2 f3 => ?_)
  have f4 := (sb_fr.refl A b (b + 38)).trans f3
  refine wp_gt rfl (show am_tgt 103 (92) = 195 by decide +kernel) ?_
  refine wp_gt rfl (show am_tgt 195 (-132) = 63 by decide +kernel) ?_
  refine wp_st 1 (f' := (64, [some (.ref (b)), some (.int (Int32.ofNat t)), some (.int (sb_i len)), some (.int (o3)), some (.int (Int32.ofNat mk)), some (.int ((-1)))], [.ref (b)], A1)) rfl ?_
  refine rw_gf (v := .int ((-1))) h2 rfl rfl rfl rfl (rfl) rfl ?_
  refine wp_izT rfl (show am_tgt 67 (131) = 198 by decide +kernel) (show (-1 : Int32) < (Int32.ofNat 0) from by decide) ?_
  refine wp_st 1 (f' := (199, [some (.ref (b)), some (.int (Int32.ofNat t)), some (.int (sb_i len)), some (.int (o3)), some (.int (Int32.ofNat mk)), some (.int ((-1)))], [.ref (b)], A1)) rfl ?_
  refine rw_gf (v := .int (Int32.ofNat 0)) h2 rfl rfl rfl rfl (hw.2.2.2) rfl ?_
  refine wp_izT rfl rfl (show (Int32.ofNat 0) ≤ (Int32.ofNat 0) from by decide) ?_
  refine wp_st 2 (f' := (209, [some (.ref (b)), some (.int (Int32.ofNat t)), some (.int (sb_i len)), some (.int (o3)), some (.int (Int32.ofNat mk)), some (.int ((-1)))], [.ref (b), .ref (b)], A1)) rfl ?_
  refine rw_gf (v := .int (Int32.ofNat (w.length))) h2 rfl rfl rfl rfl (hw.1) rfl ?_
  refine rw_pf (v := .int (Int32.ofNat (w.length))) h2 rfl rfl rfl rfl rfl rfl (fun A5 h6 f7 => ?_)
  have f8 := f4.trans f7
  refine wp_st 2 (f' := (218, [some (.ref (b)), some (.int (Int32.ofNat t)), some (.int (sb_i len)), some (.int (o3)), some (.int (Int32.ofNat mk)), some (.int (Int32.ofNat 0))], [], A5)) rfl ?_
  have e0 : (rf_u (rf_u s 22 0 (.int ((-1)))) 50 0 (.int (Int32.ofNat (w.length)))) = fl_cp (rf_u (rf_u s 22 0 (.int ((-1)))) 50 0 (.int (Int32.ofNat (w.length)))) w 0 := (rk_0 _ _ _ _).symm
  rw [e0] at h6
  exact fl_cpl hw.2.1 (by rw [rf_u_ne (Or.inl (by decide)), rf_u_ne (Or.inl (by decide))]; exact hw.1) rfl (fun i hi => by rw [rf_u_ne (Or.inl (by decide)), rf_u_ne (Or.inl (by decide))]; exact hw.2.2.1 i hi) (w.length + 1) 0 _ (by omega) (by omega) h6 (fun B hB fB => kk B hB (f8.trans fB))
theorem fl_beg {d b t : Nat} {len : Bool} {hd9 : Int32} {s : rf_S} {A : am_H} {Q : am_O × am_H → Prop} (ht : t ≤ 1) (h4 : s 4 t = .int (Int32.ofNat 1)) (h5 : s 5 t = .int hd9) (h : rf A b s) (kk : ∀ B, rf B b (rf_u (rf_u (rf_u (rf_u s 0 0 (.int (Int32.ofNat 0))) 48 0 (.int (Int32.ofNat 0))) 22 0 (.int (Int32.ofNat 0))) 51 0 (.int hd9)) → sb_fr A B b (b + 38) → am_wp d 167 (63, [some (.ref b), some (.int (Int32.ofNat t)), some (.int (sb_i len)), some (.int (-1)), some (.int (Int32.ofNat 0)), none], [], B) Q) : am_wp d 167 (0, am_ent 167 [.ref b, .int (Int32.ofNat t), .int (sb_i len)], [], A) Q := by
  refine wp_st 2 (f' := (2, [some (.ref (b)), some (.int (Int32.ofNat t)), some (.int (sb_i len)), none, none, none], [.int (Int32.ofNat t), .ref (b)], A)) rfl ?_
  refine wp_izF rfl rfl (fun q => absurd ((i32_lt (a := t) (b := 0) (by omega) (by omega)).mp q) (by omega)) ?_
  refine wp_st 2 (f' := (7, [some (.ref (b)), some (.int (Int32.ofNat t)), some (.int (sb_i len)), none, none, none], [.int (Int32.ofNat 1), .int (Int32.ofNat t), .ref (b)], A)) rfl ?_
  refine wp_ifF rfl rfl (fun q => absurd ((i32_lt (a := 1) (b := t) (by omega) (by omega)).mp q) (by omega)) ?_
  refine wp_st 1 (f' := (11, [some (.ref (b)), some (.int (Int32.ofNat t)), some (.int (sb_i len)), none, none, none], [.ref (b), .ref (b)], A)) rfl ?_
  refine rw_gr h rfl rfl rfl rfl rfl rfl ?_
  refine wp_st 1 (f' := (15, [some (.ref (b)), some (.int (Int32.ofNat t)), some (.int (sb_i len)), none, none, none], [.int (Int32.ofNat t), .ref (b + 2), .ref (b)], A)) rfl ?_
  refine rw_al (j := 4) (n := t) (v := .int (Int32.ofNat 1)) h rfl rfl rfl (Or.inr (Or.inr (Or.inr (Or.inl ⟨rfl, rfl⟩)))) rfl (show _ < 3 from by omega) (h4) rfl ?_
  refine wp_izT rfl rfl (show (Int32.ofNat 1) ≠ (Int32.ofNat 0) from by decide) ?_
  refine wp_st 1 (f' := (24, [some (.ref (b)), some (.int (Int32.ofNat t)), some (.int (sb_i len)), none, none, none], [.int (Int32.ofNat 0), .ref (b)], A)) rfl ?_
  refine rw_pf (v := .int (Int32.ofNat 0)) h rfl rfl rfl rfl rfl rfl (fun A1 h2 f3 => ?_)
  have f4 := (sb_fr.refl A b (b + 38)).trans f3
  refine wp_st 1 (f' := (28, [some (.ref (b)), some (.int (Int32.ofNat t)), some (.int (sb_i len)), none, none, none], [.ref (b)], A1)) rfl ?_
  refine rw_gf (v := .int (Int32.ofNat 0)) h2 rfl rfl rfl rfl (rfl) rfl ?_
  refine wp_izT rfl rfl (show (Int32.ofNat 0) ≤ (Int32.ofNat 0) from by decide) ?_
  refine wp_st 2 (f' := (38, [some (.ref (b)), some (.int (Int32.ofNat t)), some (.int (sb_i len)), none, none, none], [.int (Int32.ofNat 0), .ref (b)], A1)) rfl ?_
  refine rw_pf (v := .int (Int32.ofNat 0)) h2 rfl rfl rfl rfl rfl rfl (fun A5 h6 f7 => ?_)
  have f8 := f4.trans f7
  refine wp_st 2 (f' := (43, [some (.ref (b)), some (.int (Int32.ofNat t)), some (.int (sb_i len)), none, none, none], [.int (Int32.ofNat 0), .ref (b)], A5)) rfl ?_
  refine rw_pf (v := .int (Int32.ofNat 0)) h6 rfl rfl rfl rfl rfl rfl (fun A9 h10 f11 => ?_)
  have f12 := f8.trans f11
  refine wp_st 1 (f' := (47, [some (.ref (b)), some (.int (Int32.ofNat t)), some (.int (sb_i len)), none, none, none], [.ref (b)], A9)) rfl ?_
  refine rw_gr h10 rfl rfl rfl rfl rfl rfl ?_
  refine wp_st 2 (f' := (52, [some (.ref (b)), some (.int (Int32.ofNat t)), some (.int (sb_i len)), none, none, none], [.ref (b), .int (Int32.ofNat 0), .ref (b + 35)], A9)) rfl ?_
  refine rw_gr h10 rfl rfl rfl rfl rfl rfl ?_
  refine wp_st 1 (f' := (56, [some (.ref (b)), some (.int (Int32.ofNat t)), some (.int (sb_i len)), none, none, none], [.int (Int32.ofNat t), .ref (b + 3), .int (Int32.ofNat 0), .ref (b + 35)], A9)) rfl ?_
  refine rw_al (j := 5) (n := t) (v := .int (hd9)) h10 rfl rfl rfl (Or.inl ⟨rfl, rfl⟩) rfl (show _ < 3 from by omega) (by rw [rf_u_ne (Or.inl (by decide)), rf_u_ne (Or.inl (by decide)), rf_u_ne (Or.inl (by decide))]; exact h5) rfl ?_
  refine rw_as (j := 51) (n := 0) (v := .int (hd9)) h10 rfl rfl rfl (Or.inl ⟨rfl, rfl, rfl⟩) (show _ < 4 from by omega) rfl rfl (fun A13 h14 f15 => ?_)
  have f16 := f12.trans f15
  refine wp_st 4 (f' := (63, [some (.ref (b)), some (.int (Int32.ofNat t)), some (.int (sb_i len)), some (.int ((-1))), some (.int (Int32.ofNat 0)), none], [], A13)) rfl ?_
  exact kk _ h14 f16
theorem fl_emp {d b t : Nat} {len : Bool} {s : rf_S} {A : am_H} (ht : t ≤ 1) (h4 : s 4 t = .int (Int32.ofNat 0)) (h : rf A b s) : rf_go d 167 [.ref b, .int (Int32.ofNat t), .int (sb_i len)] A b (some (.int (Int32.ofNat 0))) (rf_u s 0 0 (.int (Int32.ofNat 1))) := by
  refine rf_of ?_
  refine wp_st 2 (f' := (2, [some (.ref (b)), some (.int (Int32.ofNat t)), some (.int (sb_i len)), none, none, none], [.int (Int32.ofNat t), .ref (b)], A)) rfl ?_
  refine wp_izF rfl rfl (fun q => absurd ((i32_lt (a := t) (b := 0) (by omega) (by omega)).mp q) (by omega)) ?_
  refine wp_st 2 (f' := (7, [some (.ref (b)), some (.int (Int32.ofNat t)), some (.int (sb_i len)), none, none, none], [.int (Int32.ofNat 1), .int (Int32.ofNat t), .ref (b)], A)) rfl ?_
  refine wp_ifF rfl rfl (fun q => absurd ((i32_lt (a := 1) (b := t) (by omega) (by omega)).mp q) (by omega)) ?_
  refine wp_st 1 (f' := (11, [some (.ref (b)), some (.int (Int32.ofNat t)), some (.int (sb_i len)), none, none, none], [.ref (b), .ref (b)], A)) rfl ?_
  refine rw_gr h rfl rfl rfl rfl rfl rfl ?_
  refine wp_st 1 (f' := (15, [some (.ref (b)), some (.int (Int32.ofNat t)), some (.int (sb_i len)), none, none, none], [.int (Int32.ofNat t), .ref (b + 2), .ref (b)], A)) rfl ?_
  refine rw_al (j := 4) (n := t) (v := .int (Int32.ofNat 0)) h rfl rfl rfl (Or.inr (Or.inr (Or.inr (Or.inl ⟨rfl, rfl⟩)))) rfl (show _ < 3 from by omega) (h4) rfl ?_
  refine wp_izF rfl rfl (show ¬ ((Int32.ofNat 0) ≠ (Int32.ofNat 0)) from by decide) ?_
  refine wp_st 2 (f' := (24, [some (.ref (b)), some (.int (Int32.ofNat t)), some (.int (sb_i len)), none, none, none], [.int (Int32.ofNat 1), .ref (b)], A)) rfl ?_
  refine rw_pf (v := .int (Int32.ofNat 1)) h rfl rfl rfl rfl rfl rfl (fun A1 h2 f3 => ?_)
  have f4 := (sb_fr.refl A b (b + 38)).trans f3
  refine wp_st 1 (f' := (28, [some (.ref (b)), some (.int (Int32.ofNat t)), some (.int (sb_i len)), none, none, none], [.ref (b)], A1)) rfl ?_
  refine rw_gf (v := .int (Int32.ofNat 1)) h2 rfl rfl rfl rfl (rfl) rfl ?_
  refine wp_izF rfl rfl (show ¬ ((Int32.ofNat 1) ≤ (Int32.ofNat 0)) from by decide) ?_
  refine wp_st 1 (f' := (35, [some (.ref (b)), some (.int (Int32.ofNat t)), some (.int (sb_i len)), none, none, none], [.int (Int32.ofNat 0)], A1)) rfl ?_
  refine wp_rt rfl rfl rfl ?_
  exact ⟨rfl, h2, f4⟩
theorem fl_neg {d b : Nat} {x : Int32} {len : Bool} {s : rf_S} {A : am_H} (hx : x < Int32.ofNat 0) (h : rf A b s) : rf_go d 167 [.ref b, .int x, .int (sb_i len)] A b (some (.int (Int32.ofNat 0))) (rf_u s 0 0 (.int (Int32.ofNat 1))) := by
  refine rf_of ?_
  refine wp_st 2 (f' := (2, [some (.ref (b)), some (.int (x)), some (.int (sb_i len)), none, none, none], [.int (x), .ref (b)], A)) rfl ?_
  refine wp_izT rfl rfl (hx) ?_
  refine wp_st 2 (f' := (24, [some (.ref (b)), some (.int (x)), some (.int (sb_i len)), none, none, none], [.int (Int32.ofNat 1), .ref (b)], A)) rfl ?_
  refine rw_pf (v := .int (Int32.ofNat 1)) h rfl rfl rfl rfl rfl rfl (fun A1 h2 f3 => ?_)
  have f4 := (sb_fr.refl A b (b + 38)).trans f3
  refine wp_st 1 (f' := (28, [some (.ref (b)), some (.int (x)), some (.int (sb_i len)), none, none, none], [.ref (b)], A1)) rfl ?_
  refine rw_gf (v := .int (Int32.ofNat 1)) h2 rfl rfl rfl rfl (rfl) rfl ?_
  refine wp_izF rfl rfl (show ¬ ((Int32.ofNat 1) ≤ (Int32.ofNat 0)) from by decide) ?_
  refine wp_st 1 (f' := (35, [some (.ref (b)), some (.int (x)), some (.int (sb_i len)), none, none, none], [.int (Int32.ofNat 0)], A1)) rfl ?_
  refine wp_rt rfl rfl rfl ?_
  exact ⟨rfl, h2, f4⟩
theorem fl_big {d b : Nat} {x : Int32} {len : Bool} {s : rf_S} {A : am_H} (hx : ¬ x < Int32.ofNat 0) (hx2 : Int32.ofNat 1 < x) (h : rf A b s) : rf_go d 167 [.ref b, .int x, .int (sb_i len)] A b (some (.int (Int32.ofNat 0))) (rf_u s 0 0 (.int (Int32.ofNat 1))) := by
  refine rf_of ?_
  refine wp_st 2 (f' := (2, [some (.ref (b)), some (.int (x)), some (.int (sb_i len)), none, none, none], [.int (x), .ref (b)], A)) rfl ?_
  refine wp_izF rfl rfl (hx) ?_
  refine wp_st 2 (f' := (7, [some (.ref (b)), some (.int (x)), some (.int (sb_i len)), none, none, none], [.int (Int32.ofNat 1), .int (x), .ref (b)], A)) rfl ?_
  refine wp_ifT rfl rfl (hx2) ?_
  refine wp_st 2 (f' := (24, [some (.ref (b)), some (.int (x)), some (.int (sb_i len)), none, none, none], [.int (Int32.ofNat 1), .ref (b)], A)) rfl ?_
  refine rw_pf (v := .int (Int32.ofNat 1)) h rfl rfl rfl rfl rfl rfl (fun A1 h2 f3 => ?_)
  have f4 := (sb_fr.refl A b (b + 38)).trans f3
  refine wp_st 1 (f' := (28, [some (.ref (b)), some (.int (x)), some (.int (sb_i len)), none, none, none], [.ref (b)], A1)) rfl ?_
  refine rw_gf (v := .int (Int32.ofNat 1)) h2 rfl rfl rfl rfl (rfl) rfl ?_
  refine wp_izF rfl rfl (show ¬ ((Int32.ofNat 1) ≤ (Int32.ofNat 0)) from by decide) ?_
  refine wp_st 1 (f' := (35, [some (.ref (b)), some (.int (x)), some (.int (sb_i len)), none, none, none], [.int (Int32.ofNat 0)], A1)) rfl ?_
  refine wp_rt rfl rfl rfl ?_
  exact ⟨rfl, h2, f4⟩
