/-! The reference: categoryName. -/
def rf_cn (c : Nat) : Nat := match c with
  | 0 => 857679
  | 1 => 15813
  | 2 => 21231
  | 3 => 6327
  | 4 => 427481
  | _ => 16392370
theorem rn_cn0 {d : Nat} {A : am_H} (hd : 1 ≤ d) : am_go d 172 [.int (Int32.ofNat 0)] A (.inl (some (.long (Int64.ofNat 857679))), A) := by
  refine wp_go ?_
  refine wp_st 2 (f' := (36, [some (.int (Int32.ofNat 0))], [], A)) rfl ?_
  refine wp_st 3 (f' := (42, [some (.int (Int32.ofNat 0))], [.int (Int32.ofNat 114), .int (Int32.ofNat 101), .int (Int32.ofNat 122)], A)) rfl ?_
  refine wp_cs (n := 0) (A' := A) (v := some (.long (Int64.ofNat 26802))) rfl rfl rfl (by omega) ((show am_go (d - 1) 137 [.int (Int32.ofNat 122), .int (Int32.ofNat 101), .int (Int32.ofNat 114)] A (.inl (some (.long (Int64.ofNat 26802))), A) from rn_three (by omega) (by omega) (by omega) (by omega))) rfl ?_
  show am_wp d 172 (45, [some (.int (Int32.ofNat 0))], [.long (Int64.ofNat 26802)], A) _
  refine wp_st 2 (f' := (49, [some (.int (Int32.ofNat 0))], [.long ((Int64.ofNat 26802) * (32))], A)) rfl ?_
  rw [show (Int64.ofNat 26802) * (32) = Int64.ofNat 857664 from by decide]
  refine wp_st 2 (f' := (53, [some (.int (Int32.ofNat 0))], [.long ((Int64.ofNat 857664) + (15))], A)) rfl ?_
  rw [show (Int64.ofNat 857664) + (15) = Int64.ofNat 857679 from by decide]
  refine wp_rt rfl rfl rfl ?_
  rfl
theorem rn_cn1 {d : Nat} {A : am_H} (hd : 1 ≤ d) : am_go d 172 [.int (Int32.ofNat 1)] A (.inl (some (.long (Int64.ofNat 15813))), A) := by
  refine wp_go ?_
  refine wp_st 2 (f' := (54, [some (.int (Int32.ofNat 1))], [], A)) rfl ?_
  refine wp_st 3 (f' := (60, [some (.int (Int32.ofNat 1))], [.int (Int32.ofNat 101), .int (Int32.ofNat 110), .int (Int32.ofNat 111)], A)) rfl ?_
  refine wp_cs (n := 0) (A' := A) (v := some (.long (Int64.ofNat 15813))) rfl rfl rfl (by omega) ((show am_go (d - 1) 137 [.int (Int32.ofNat 111), .int (Int32.ofNat 110), .int (Int32.ofNat 101)] A (.inl (some (.long (Int64.ofNat 15813))), A) from rn_three (by omega) (by omega) (by omega) (by omega))) rfl ?_
  show am_wp d 172 (63, [some (.int (Int32.ofNat 1))], [.long (Int64.ofNat 15813)], A) _
  refine wp_rt rfl rfl rfl ?_
  rfl
theorem rn_cn2 {d : Nat} {A : am_H} (hd : 1 ≤ d) : am_go d 172 [.int (Int32.ofNat 2)] A (.inl (some (.long (Int64.ofNat 21231))), A) := by
  refine wp_go ?_
  refine wp_st 2 (f' := (64, [some (.int (Int32.ofNat 2))], [], A)) rfl ?_
  refine wp_st 3 (f' := (70, [some (.int (Int32.ofNat 2))], [.int (Int32.ofNat 111), .int (Int32.ofNat 119), .int (Int32.ofNat 116)], A)) rfl ?_
  refine wp_cs (n := 0) (A' := A) (v := some (.long (Int64.ofNat 21231))) rfl rfl rfl (by omega) ((show am_go (d - 1) 137 [.int (Int32.ofNat 116), .int (Int32.ofNat 119), .int (Int32.ofNat 111)] A (.inl (some (.long (Int64.ofNat 21231))), A) from rn_three (by omega) (by omega) (by omega) (by omega))) rfl ?_
  show am_wp d 172 (73, [some (.int (Int32.ofNat 2))], [.long (Int64.ofNat 21231)], A) _
  refine wp_rt rfl rfl rfl ?_
  rfl
theorem rn_cn3 {d : Nat} {A : am_H} (hd : 1 ≤ d) : am_go d 172 [.int (Int32.ofNat 3)] A (.inl (some (.long (Int64.ofNat 6327))), A) := by
  refine wp_go ?_
  refine wp_st 2 (f' := (74, [some (.int (Int32.ofNat 3))], [], A)) rfl ?_
  refine wp_st 3 (f' := (80, [some (.int (Int32.ofNat 3))], [.int (Int32.ofNat 119), .int (Int32.ofNat 101), .int (Int32.ofNat 102)], A)) rfl ?_
  refine wp_cs (n := 0) (A' := A) (v := some (.long (Int64.ofNat 6327))) rfl rfl rfl (by omega) ((show am_go (d - 1) 137 [.int (Int32.ofNat 102), .int (Int32.ofNat 101), .int (Int32.ofNat 119)] A (.inl (some (.long (Int64.ofNat 6327))), A) from rn_three (by omega) (by omega) (by omega) (by omega))) rfl ?_
  show am_wp d 172 (83, [some (.int (Int32.ofNat 3))], [.long (Int64.ofNat 6327)], A) _
  refine wp_rt rfl rfl rfl ?_
  rfl
theorem rn_cn4 {d : Nat} {A : am_H} (hd : 1 ≤ d) : am_go d 172 [.int (Int32.ofNat 4)] A (.inl (some (.long (Int64.ofNat 427481))), A) := by
  refine wp_go ?_
  refine wp_st 2 (f' := (84, [some (.int (Int32.ofNat 4))], [], A)) rfl ?_
  refine wp_st 3 (f' := (90, [some (.int (Int32.ofNat 4))], [.int (Int32.ofNat 110), .int (Int32.ofNat 97), .int (Int32.ofNat 109)], A)) rfl ?_
  refine wp_cs (n := 0) (A' := A) (v := some (.long (Int64.ofNat 13358))) rfl rfl rfl (by omega) ((show am_go (d - 1) 137 [.int (Int32.ofNat 109), .int (Int32.ofNat 97), .int (Int32.ofNat 110)] A (.inl (some (.long (Int64.ofNat 13358))), A) from rn_three (by omega) (by omega) (by omega) (by omega))) rfl ?_
  show am_wp d 172 (93, [some (.int (Int32.ofNat 4))], [.long (Int64.ofNat 13358)], A) _
  refine wp_st 2 (f' := (97, [some (.int (Int32.ofNat 4))], [.long ((Int64.ofNat 13358) * (32))], A)) rfl ?_
  rw [show (Int64.ofNat 13358) * (32) = Int64.ofNat 427456 from by decide]
  refine wp_st 2 (f' := (101, [some (.int (Int32.ofNat 4))], [.long ((Int64.ofNat 427456) + (25))], A)) rfl ?_
  rw [show (Int64.ofNat 427456) + (25) = Int64.ofNat 427481 from by decide]
  refine wp_rt rfl rfl rfl ?_
  rfl
theorem rn_cn5 {d : Nat} {A : am_H} (hd : 1 ≤ d) : am_go d 172 [.int (Int32.ofNat 5)] A (.inl (some (.long (Int64.ofNat 16392370))), A) := by
  refine wp_go ?_
  refine wp_st 2 (f' := (102, [some (.int (Int32.ofNat 5))], [], A)) rfl ?_
  refine wp_st 3 (f' := (108, [some (.int (Int32.ofNat 5))], [.int (Int32.ofNat 104), .int (Int32.ofNat 116), .int (Int32.ofNat 111)], A)) rfl ?_
  refine wp_cs (n := 0) (A' := A) (v := some (.long (Int64.ofNat 16008))) rfl rfl rfl (by omega) ((show am_go (d - 1) 137 [.int (Int32.ofNat 111), .int (Int32.ofNat 116), .int (Int32.ofNat 104)] A (.inl (some (.long (Int64.ofNat 16008))), A) from rn_three (by omega) (by omega) (by omega) (by omega))) rfl ?_
  show am_wp d 172 (111, [some (.int (Int32.ofNat 5))], [.long (Int64.ofNat 16008)], A) _
  refine wp_st 2 (f' := (115, [some (.int (Int32.ofNat 5))], [.long ((Int64.ofNat 16008) * (1024))], A)) rfl ?_
  rw [show (Int64.ofNat 16008) * (1024) = Int64.ofNat 16392192 from by decide]
  refine wp_st 2 (f' := (119, [some (.int (Int32.ofNat 5))], [.long ((Int64.ofNat 16392192) + (160))], A)) rfl ?_
  rw [show (Int64.ofNat 16392192) + (160) = Int64.ofNat 16392352 from by decide]
  refine wp_st 2 (f' := (123, [some (.int (Int32.ofNat 5))], [.long ((Int64.ofNat 16392352) + (18))], A)) rfl ?_
  rw [show (Int64.ofNat 16392352) + (18) = Int64.ofNat 16392370 from by decide]
  refine wp_rt rfl rfl rfl ?_
  rfl
theorem rn_cn {d c : Nat} {A : am_H} (hd : 1 ≤ d) (hc : c ≤ 5) : am_go d 172 [.int (Int32.ofNat c)] A (.inl (some (.long (Int64.ofNat (rf_cn c)))), A) := by
  match c, hc with
  | 0, _ => exact rn_cn0 hd
  | 1, _ => exact rn_cn1 hd
  | 2, _ => exact rn_cn2 hd
  | 3, _ => exact rn_cn3 hd
  | 4, _ => exact rn_cn4 hd
  | 5, _ => exact rn_cn5 hd
theorem rf_cn_w {c : Nat} (hc : c ≤ 5) : ∃ X, ru_CW.getD c 0 = Int64.ofNat X ∧ rm_w 6 X (rf_cn c) := by
  match c, hc with
  | 0, _ => exact ⟨2053468783, rfl, [122, 101, 114, 111], by decide, by decide, by decide, by decide, by decide⟩
  | 1, _ => exact ⟨7302757, rfl, [111, 110, 101], by decide, by decide, by decide, by decide, by decide⟩
  | 2, _ => exact ⟨7632751, rfl, [116, 119, 111], by decide, by decide, by decide, by decide, by decide⟩
  | 3, _ => exact ⟨6710647, rfl, [102, 101, 119], by decide, by decide, by decide, by decide, by decide⟩
  | 4, _ => exact ⟨1835101817, rfl, [109, 97, 110, 121], by decide, by decide, by decide, by decide, by decide⟩
  | 5, _ => exact ⟨478694368626, rfl, [111, 116, 104, 101, 114], by decide, by decide, by decide, by decide, by decide⟩
