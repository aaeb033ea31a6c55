/-! The reference: the beginning of readMessage. -/
def rm_u0 (s : rf_S) : rf_S := rf_u (rf_u (rf_u (rf_u (rf_u (rf_u (rf_u s 19 0 (.int (Int32.ofNat 0))) 20 0 (.int (Int32.ofNat 0))) 21 0 (.int (Int32.ofNat 0))) 22 0 (.int (Int32.ofNat 0))) 5 2 (.int ((-1)))) 23 0 (.int ((-1)))) 26 0 (.int (sb_i false))
theorem mm_ent {d b p g : Nat} {w : Int32} {r : Int64} {s : rf_S} {A : am_H} {Q : am_O × am_H → Prop} (h : rf A b (rf_c s p w r g)) (kk : ∀ B, rf B b (rf_c (rm_u0 s) 0 (-1) r g) → sb_fr A B b (b + 38) → am_wp d 122 (51, [some (.ref b)], [], B) Q) : am_wp d 122 (0, am_ent 122 [.ref b], [], A) Q := by
  refine wp_st 2 (f' := (2, [some (.ref (b))], [.int (Int32.ofNat 0), .ref (b)], A)) rfl ?_
  refine rw_pf (v := .int (Int32.ofNat 0)) h rfl rfl rfl rfl rfl rfl (fun A1 h2 f3 => ?_)
  have f4 := (sb_fr.refl A b (b + 38)).trans f3
  rw [rf_c17] at h2
  refine wp_st 2 (f' := (7, [some (.ref (b))], [.int ((-1)), .ref (b)], A1)) rfl ?_
  refine rw_pf (v := .int ((-1))) h2 rfl rfl rfl rfl rfl rfl (fun A5 h6 f7 => ?_)
  have f8 := f4.trans f7
  rw [rf_c18] at h6
  refine wp_st 2 (f' := (12, [some (.ref (b))], [.int (Int32.ofNat 0), .ref (b)], A5)) rfl ?_
  refine rw_pf (v := .int (Int32.ofNat 0)) h6 rfl rfl rfl rfl rfl rfl (fun A9 h10 f11 => ?_)
  have f12 := f8.trans f11
  rw [rf_c_u (by decide)] at h10
  refine wp_st 2 (f' := (17, [some (.ref (b))], [.int (Int32.ofNat 0), .ref (b)], A9)) rfl ?_
  refine rw_pf (v := .int (Int32.ofNat 0)) h10 rfl rfl rfl rfl rfl rfl (fun A13 h14 f15 => ?_)
  have f16 := f12.trans f15
  rw [rf_c_u (by decide)] at h14
  refine wp_st 2 (f' := (22, [some (.ref (b))], [.int (Int32.ofNat 0), .ref (b)], A13)) rfl ?_
  refine rw_pf (v := .int (Int32.ofNat 0)) h14 rfl rfl rfl rfl rfl rfl (fun A17 h18 f19 => ?_)
  have f20 := f16.trans f19
  rw [rf_c_u (by decide)] at h18
  refine wp_st 2 (f' := (27, [some (.ref (b))], [.int (Int32.ofNat 0), .ref (b)], A17)) rfl ?_
  refine rw_pf (v := .int (Int32.ofNat 0)) h18 rfl rfl rfl rfl rfl rfl (fun A21 h22 f23 => ?_)
  have f24 := f20.trans f23
  rw [rf_c_u (by decide)] at h22
  refine wp_st 1 (f' := (31, [some (.ref (b))], [.ref (b)], A21)) rfl ?_
  refine rw_gr h22 rfl rfl rfl rfl rfl rfl ?_
  refine wp_st 2 (f' := (36, [some (.ref (b))], [.int ((-1)), .int (Int32.ofNat 2), .ref (b + 3)], A21)) rfl ?_
  refine rw_as (j := 5) (n := 2) (v := .int ((-1))) h22 rfl rfl rfl (Or.inl ⟨rfl, rfl, rfl⟩) (show _ < 3 from by omega) rfl rfl (fun A25 h26 f27 => ?_)
  have f28 := f24.trans f27
  rw [rf_c_u (by decide)] at h26
  refine wp_st 1 (f' := (38, [some (.ref (b))], [.ref (b)], A25)) rfl ?_
  refine rw_gr h26 rfl rfl rfl rfl rfl rfl ?_
  refine wp_st 2 (f' := (43, [some (.ref (b))], [.int ((-1)), .int (Int32.ofNat 0), .ref (b + 15)], A25)) rfl ?_
  refine rw_as (j := 23) (n := 0) (v := .int ((-1))) h26 rfl rfl rfl (Or.inl ⟨rfl, rfl, rfl⟩) (show _ < 4 from by omega) rfl rfl (fun A29 h30 f31 => ?_)
  have f32 := f28.trans f31
  rw [rf_c_u (by decide)] at h30
  refine wp_st 1 (f' := (45, [some (.ref (b))], [.ref (b)], A29)) rfl ?_
  refine rw_gr h30 rfl rfl rfl rfl rfl rfl ?_
  refine wp_st 2 (f' := (50, [some (.ref (b))], [.int (Int32.ofNat 0), .int (Int32.ofNat 0), .ref (b + 18)], A29)) rfl ?_
  refine rw_as (j := 26) (n := 0) (v := .int (sb_i false)) h30 rfl rfl rfl (Or.inr (Or.inr ⟨rfl, rfl, rfl⟩)) (show _ < 4 from by omega) (sb_narrow_z false) rfl (fun A33 h34 f35 => ?_)
  have f36 := f32.trans f35
  rw [rf_c_u (by decide)] at h34
  exact kk _ h34 f36
