/-! The reference: words as numbers. -/
theorem rn_three {d x y z : Nat} {A : am_H} (hx : 96 ≤ x) (hy : 96 ≤ y) (hz : 96 ≤ z) (hb : x < 128 ∧ y < 128 ∧ z < 128) : am_go d 137 [.int (Int32.ofNat x), .int (Int32.ofNat y), .int (Int32.ofNat z)] A (.inl (some (.long (Int64.ofNat ((x - 96) * 1024 + (y - 96) * 32 + z - 96)))), A) := by
  refine wp_go ?_
  refine wp_st 2 (f' := (2, [some (.int (Int32.ofNat x)), some (.int (Int32.ofNat y)), some (.int (Int32.ofNat z))], [.long ((Int32.ofNat x).toInt64)], A)) rfl ?_
  rw [i64_of (b := x) (by omega)]
  refine wp_st 2 (f' := (6, [some (.int (Int32.ofNat x)), some (.int (Int32.ofNat y)), some (.int (Int32.ofNat z))], [.long ((Int64.ofNat x) - (96))], A)) rfl ?_
  rw [show Int64.ofNat x - (96) = Int64.ofNat (x - 96) from i64_sub (b := 96) (by omega)]
  refine wp_st 2 (f' := (10, [some (.int (Int32.ofNat x)), some (.int (Int32.ofNat y)), some (.int (Int32.ofNat z))], [.long ((Int64.ofNat (x - 96)) * (1024))], A)) rfl ?_
  rw [show Int64.ofNat (x - 96) * (1024) = Int64.ofNat ((x - 96) * 1024) from (Int64.ofNat_mul ..).symm]
  refine wp_st 2 (f' := (12, [some (.int (Int32.ofNat x)), some (.int (Int32.ofNat y)), some (.int (Int32.ofNat z))], [.long ((Int32.ofNat y).toInt64), .long (Int64.ofNat ((x - 96) * 1024))], A)) rfl ?_
  rw [i64_of (b := y) (by omega)]
  refine wp_st 2 (f' := (16, [some (.int (Int32.ofNat x)), some (.int (Int32.ofNat y)), some (.int (Int32.ofNat z))], [.long ((Int64.ofNat y) - (96)), .long (Int64.ofNat ((x - 96) * 1024))], A)) rfl ?_
  rw [show Int64.ofNat y - (96) = Int64.ofNat (y - 96) from i64_sub (b := 96) (by omega)]
  refine wp_st 2 (f' := (20, [some (.int (Int32.ofNat x)), some (.int (Int32.ofNat y)), some (.int (Int32.ofNat z))], [.long ((Int64.ofNat (y - 96)) * (32)), .long (Int64.ofNat ((x - 96) * 1024))], A)) rfl ?_
  rw [show Int64.ofNat (y - 96) * (32) = Int64.ofNat ((y - 96) * 32) from (Int64.ofNat_mul ..).symm]
  refine wp_st 1 (f' := (21, [some (.int (Int32.ofNat x)), some (.int (Int32.ofNat y)), some (.int (Int32.ofNat z))], [.long ((Int64.ofNat ((x - 96) * 1024)) + (Int64.ofNat ((y - 96) * 32)))], A)) rfl ?_
  rw [← Int64.ofNat_add]
  refine wp_st 2 (f' := (23, [some (.int (Int32.ofNat x)), some (.int (Int32.ofNat y)), some (.int (Int32.ofNat z))], [.long ((Int32.ofNat z).toInt64), .long (Int64.ofNat ((x - 96) * 1024 + (y - 96) * 32))], A)) rfl ?_
  rw [i64_of (b := z) (by omega)]
  refine wp_st 1 (f' := (24, [some (.int (Int32.ofNat x)), some (.int (Int32.ofNat y)), some (.int (Int32.ofNat z))], [.long ((Int64.ofNat ((x - 96) * 1024 + (y - 96) * 32)) + (Int64.ofNat z))], A)) rfl ?_
  rw [← Int64.ofNat_add]
  refine wp_st 2 (f' := (28, [some (.int (Int32.ofNat x)), some (.int (Int32.ofNat y)), some (.int (Int32.ofNat z))], [.long ((Int64.ofNat ((x - 96) * 1024 + (y - 96) * 32 + z)) - (96))], A)) rfl ?_
  rw [show Int64.ofNat ((x - 96) * 1024 + (y - 96) * 32 + z) - (96) = Int64.ofNat ((x - 96) * 1024 + (y - 96) * 32 + z - 96) from i64_sub (b := 96) (by omega)]
  refine wp_rt rfl rfl rfl ?_
  rfl
/-- the category that a word names -/
def rf_rh (r : Int64) : Option Nat := if r = Int64.ofNat 15813 then some 1 else if r = Int64.ofNat 21231 then some 2 else if r = Int64.ofNat 857679 then some 0 else if r = Int64.ofNat 6327 then some 3 else if r = Int64.ofNat 427481 then some 4 else none
theorem rn_rh {d b p g : Nat} {w : Int32} {r : Int64} {s : rf_S} {A : am_H} (hd : 1 ≤ d) (h : rf A b (rf_c s p w r g)) : am_go d 150 [.ref b] A (.inl (some (.int (mg_bi (rf_rh r)))), A) := by
  refine wp_go ?_
  refine wp_st 1 (f' := (1, [some (.ref (b))], [.ref (b)], A)) rfl ?_
  refine rw_gf (v := .long (r)) h rfl rfl rfl rfl (rfl) rfl ?_
  refine wp_st 3 (f' := (10, [some (.ref (b))], [.int (Int32.ofNat 101), .int (Int32.ofNat 110), .int (Int32.ofNat 111), .long (r)], A)) rfl ?_
  refine wp_cs (n := 0) (A' := A) (v := some (.long (Int64.ofNat 15813))) rfl rfl rfl (by omega) ((show am_go (d - 1) 137 [.int (Int32.ofNat 111), .int (Int32.ofNat 110), .int (Int32.ofNat 101)] A (.inl (some (.long (Int64.ofNat 15813))), A) from rn_three (by omega) (by omega) (by omega) (by omega))) rfl ?_
  show am_wp d 150 (13, [some (.ref (b))], [.long (Int64.ofNat 15813), .long (r)], A) _
  refine wp_st 1 (f' := (14, [some (.ref (b))], [.int (lg_cmp r (Int64.ofNat 15813))], A)) rfl ?_
  refine wp_iz rfl rfl rfl (fun (h1 : (lg_cmp r (Int64.ofNat 15813)) ≠ (Int32.ofNat 0)) => ?_) (fun (h1 : ¬ ((lg_cmp r (Int64.ofNat 15813)) ≠ (Int32.ofNat 0))) => ?_)
  · skip
    have h1e : ¬ r = Int64.ofNat 15813 := fun e => h1 ((lg_cmp_eq _ _).mpr e)
    refine wp_st 1 (f' := (20, [some (.ref (b))], [.ref (b)], A)) rfl ?_
    refine rw_gf (v := .long (r)) h rfl rfl rfl rfl (rfl) rfl ?_
    refine wp_st 3 (f' := (29, [some (.ref (b))], [.int (Int32.ofNat 111), .int (Int32.ofNat 119), .int (Int32.ofNat 116), .long (r)], A)) rfl ?_
    refine wp_cs (n := 0) (A' := A) (v := some (.long (Int64.ofNat 21231))) rfl rfl rfl (by omega) ((show am_go (d - 1) 137 [.int (Int32.ofNat 116), .int (Int32.ofNat 119), .int (Int32.ofNat 111)] A (.inl (some (.long (Int64.ofNat 21231))), A) from rn_three (by omega) (by omega) (by omega) (by omega))) rfl ?_
    show am_wp d 150 (32, [some (.ref (b))], [.long (Int64.ofNat 21231), .long (r)], A) _
    refine wp_st 1 (f' := (33, [some (.ref (b))], [.int (lg_cmp r (Int64.ofNat 21231))], A)) rfl ?_
    refine wp_iz rfl rfl rfl (fun (h2 : (lg_cmp r (Int64.ofNat 21231)) ≠ (Int32.ofNat 0)) => ?_) (fun (h2 : ¬ ((lg_cmp r (Int64.ofNat 21231)) ≠ (Int32.ofNat 0))) => ?_)
    · skip
      have h2e : ¬ r = Int64.ofNat 21231 := fun e => h2 ((lg_cmp_eq _ _).mpr e)
      refine wp_st 1 (f' := (39, [some (.ref (b))], [.ref (b)], A)) rfl ?_
      refine rw_gf (v := .long (r)) h rfl rfl rfl rfl (rfl) rfl ?_
      refine wp_st 3 (f' := (48, [some (.ref (b))], [.int (Int32.ofNat 114), .int (Int32.ofNat 101), .int (Int32.ofNat 122), .long (r)], A)) rfl ?_
      refine wp_cs (n := 0) (A' := A) (v := some (.long (Int64.ofNat 26802))) rfl rfl rfl (by omega) ((show am_go (d - 1) 137 [.int (Int32.ofNat 122), .int (Int32.ofNat 101), .int (Int32.ofNat 114)] A (.inl (some (.long (Int64.ofNat 26802))), A) from rn_three (by omega) (by omega) (by omega) (by omega))) rfl ?_
      show am_wp d 150 (51, [some (.ref (b))], [.long (Int64.ofNat 26802), .long (r)], A) _
      refine wp_st 2 (f' := (55, [some (.ref (b))], [.long ((Int64.ofNat 26802) * (32)), .long (r)], A)) rfl ?_
      rw [show (Int64.ofNat 26802) * (32) = Int64.ofNat 857664 from by decide]
      refine wp_st 2 (f' := (59, [some (.ref (b))], [.long ((Int64.ofNat 857664) + (15)), .long (r)], A)) rfl ?_
      rw [show (Int64.ofNat 857664) + (15) = Int64.ofNat 857679 from by decide]
      refine wp_st 1 (f' := (60, [some (.ref (b))], [.int (lg_cmp r (Int64.ofNat 857679))], A)) rfl ?_
      refine wp_iz rfl rfl rfl (fun (h3 : (lg_cmp r (Int64.ofNat 857679)) ≠ (Int32.ofNat 0)) => ?_) (fun (h3 : ¬ ((lg_cmp r (Int64.ofNat 857679)) ≠ (Int32.ofNat 0))) => ?_)
      · skip
        have h3e : ¬ r = Int64.ofNat 857679 := fun e => h3 ((lg_cmp_eq _ _).mpr e)
        refine wp_st 1 (f' := (66, [some (.ref (b))], [.ref (b)], A)) rfl ?_
        refine rw_gf (v := .long (r)) h rfl rfl rfl rfl (rfl) rfl ?_
        refine wp_st 3 (f' := (75, [some (.ref (b))], [.int (Int32.ofNat 119), .int (Int32.ofNat 101), .int (Int32.ofNat 102), .long (r)], A)) rfl ?_
        refine wp_cs (n := 0) (A' := A) (v := some (.long (Int64.ofNat 6327))) rfl rfl rfl (by omega) ((show am_go (d - 1) 137 [.int (Int32.ofNat 102), .int (Int32.ofNat 101), .int (Int32.ofNat 119)] A (.inl (some (.long (Int64.ofNat 6327))), A) from rn_three (by omega) (by omega) (by omega) (by omega))) rfl ?_
        show am_wp d 150 (78, [some (.ref (b))], [.long (Int64.ofNat 6327), .long (r)], A) _
        refine wp_st 1 (f' := (79, [some (.ref (b))], [.int (lg_cmp r (Int64.ofNat 6327))], A)) rfl ?_
        refine wp_iz rfl rfl rfl (fun (h4 : (lg_cmp r (Int64.ofNat 6327)) ≠ (Int32.ofNat 0)) => ?_) (fun (h4 : ¬ ((lg_cmp r (Int64.ofNat 6327)) ≠ (Int32.ofNat 0))) => ?_)
        · skip
          have h4e : ¬ r = Int64.ofNat 6327 := fun e => h4 ((lg_cmp_eq _ _).mpr e)
          refine wp_st 1 (f' := (85, [some (.ref (b))], [.ref (b)], A)) rfl ?_
          refine rw_gf (v := .long (r)) h rfl rfl rfl rfl (rfl) rfl ?_
          refine wp_st 3 (f' := (94, [some (.ref (b))], [.int (Int32.ofNat 110), .int (Int32.ofNat 97), .int (Int32.ofNat 109), .long (r)], A)) rfl ?_
          refine wp_cs (n := 0) (A' := A) (v := some (.long (Int64.ofNat 13358))) rfl rfl rfl (by omega) ((show am_go (d - 1) 137 [.int (Int32.ofNat 109), .int (Int32.ofNat 97), .int (Int32.ofNat 110)] A (.inl (some (.long (Int64.ofNat 13358))), A) from rn_three (by omega) (by omega) (by omega) (by omega))) rfl ?_
          show am_wp d 150 (97, [some (.ref (b))], [.long (Int64.ofNat 13358), .long (r)], A) _
          refine wp_st 2 (f' := (101, [some (.ref (b))], [.long ((Int64.ofNat 13358) * (32)), .long (r)], A)) rfl ?_
          rw [show (Int64.ofNat 13358) * (32) = Int64.ofNat 427456 from by decide]
          refine wp_st 2 (f' := (105, [some (.ref (b))], [.long ((Int64.ofNat 427456) + (25)), .long (r)], A)) rfl ?_
          rw [show (Int64.ofNat 427456) + (25) = Int64.ofNat 427481 from by decide]
          refine wp_st 1 (f' := (106, [some (.ref (b))], [.int (lg_cmp r (Int64.ofNat 427481))], A)) rfl ?_
          refine wp_iz rfl rfl rfl (fun (h5 : (lg_cmp r (Int64.ofNat 427481)) ≠ (Int32.ofNat 0)) => ?_) (fun (h5 : ¬ ((lg_cmp r (Int64.ofNat 427481)) ≠ (Int32.ofNat 0))) => ?_)
          · skip
            have h5e : ¬ r = Int64.ofNat 427481 := fun e => h5 ((lg_cmp_eq _ _).mpr e)
            refine wp_st 1 (f' := (114, [some (.ref (b))], [.int ((-1))], A)) rfl ?_
            refine wp_rt rfl rfl rfl ?_
            rw [show rf_rh r = none from by rw [rf_rh, if_neg h1e, if_neg h2e, if_neg h3e, if_neg h4e, if_neg h5e]]
            rfl
          · skip
            replace h5 := Decidable.not_not.mp h5
            have h5e : r = Int64.ofNat 427481 := (lg_cmp_eq _ _).mp h5
            refine wp_st 2 (f' := (114, [some (.ref (b))], [.int (Int32.ofNat 4)], A)) rfl ?_
            refine wp_rt rfl rfl rfl ?_
            rw [show rf_rh r = some 4 from by rw [rf_rh, if_neg h1e, if_neg h2e, if_neg h3e, if_neg h4e, if_pos h5e]]
            rfl
        · skip
          replace h4 := Decidable.not_not.mp h4
          have h4e : r = Int64.ofNat 6327 := (lg_cmp_eq _ _).mp h4
          refine wp_st 1 (f' := (83, [some (.ref (b))], [.int (Int32.ofNat 3)], A)) rfl ?_
          refine wp_rt rfl rfl rfl ?_
          rw [show rf_rh r = some 3 from by rw [rf_rh, if_neg h1e, if_neg h2e, if_neg h3e, if_pos h4e]]
          rfl
      · skip
        replace h3 := Decidable.not_not.mp h3
        have h3e : r = Int64.ofNat 857679 := (lg_cmp_eq _ _).mp h3
        refine wp_st 1 (f' := (64, [some (.ref (b))], [.int (Int32.ofNat 0)], A)) rfl ?_
        refine wp_rt rfl rfl rfl ?_
        rw [show rf_rh r = some 0 from by rw [rf_rh, if_neg h1e, if_neg h2e, if_pos h3e]]
        rfl
    · skip
      replace h2 := Decidable.not_not.mp h2
      have h2e : r = Int64.ofNat 21231 := (lg_cmp_eq _ _).mp h2
      refine wp_st 1 (f' := (37, [some (.ref (b))], [.int (Int32.ofNat 2)], A)) rfl ?_
      refine wp_rt rfl rfl rfl ?_
      rw [show rf_rh r = some 2 from by rw [rf_rh, if_neg h1e, if_pos h2e]]
      rfl
  · skip
    replace h1 := Decidable.not_not.mp h1
    have h1e : r = Int64.ofNat 15813 := (lg_cmp_eq _ _).mp h1
    refine wp_st 1 (f' := (18, [some (.ref (b))], [.int (Int32.ofNat 1)], A)) rfl ?_
    refine wp_rt rfl rfl rfl ?_
    rw [show rf_rh r = some 1 from by rw [rf_rh, if_pos h1e]]
    rfl
theorem rn_oth {d : Nat} {r : Int64} {A : am_H} (hd : 1 ≤ d) : am_go d 143 [.long r] A (.inl (some (.int (sb_i (if r = Int64.ofNat 16392370 then true else false)))), A) := by
  refine wp_go ?_
  refine wp_st 4 (f' := (7, [some (.long (r)), none], [.int (Int32.ofNat 104), .int (Int32.ofNat 116), .int (Int32.ofNat 111), .long (r)], A)) rfl ?_
  refine wp_cs (n := 0) (A' := A) (v := some (.long (Int64.ofNat 16008))) rfl rfl rfl (by omega) ((show am_go (d - 1) 137 [.int (Int32.ofNat 111), .int (Int32.ofNat 116), .int (Int32.ofNat 104)] A (.inl (some (.long (Int64.ofNat 16008))), A) from rn_three (by omega) (by omega) (by omega) (by omega))) rfl ?_
  show am_wp d 143 (10, [some (.long (r)), none], [.long (Int64.ofNat 16008), .long (r)], A) _
  refine wp_st 2 (f' := (14, [some (.long (r)), none], [.long ((Int64.ofNat 16008) * (1024)), .long (r)], A)) rfl ?_
  rw [show (Int64.ofNat 16008) * (1024) = Int64.ofNat 16392192 from by decide]
  refine wp_st 2 (f' := (18, [some (.long (r)), none], [.long ((Int64.ofNat 16392192) + (160)), .long (r)], A)) rfl ?_
  rw [show (Int64.ofNat 16392192) + (160) = Int64.ofNat 16392352 from by decide]
  refine wp_st 2 (f' := (22, [some (.long (r)), none], [.long ((Int64.ofNat 16392352) + (18)), .long (r)], A)) rfl ?_
  rw [show (Int64.ofNat 16392352) + (18) = Int64.ofNat 16392370 from by decide]
  refine wp_st 1 (f' := (23, [some (.long (r)), none], [.int (lg_cmp r (Int64.ofNat 16392370))], A)) rfl ?_
  refine wp_iz rfl rfl rfl (fun (h1 : (lg_cmp r (Int64.ofNat 16392370)) ≠ (Int32.ofNat 0)) => ?_) (fun (h1 : ¬ ((lg_cmp r (Int64.ofNat 16392370)) ≠ (Int32.ofNat 0))) => ?_)
  · skip
    have h1e : ¬ r = Int64.ofNat 16392370 := fun e => h1 ((lg_cmp_eq _ _).mpr e)
    refine wp_st 1 (f' := (31, [some (.long (r)), none], [.int (Int32.ofNat 0)], A)) rfl ?_
    refine wp_rt rfl rfl rfl ?_
    rw [show (if r = Int64.ofNat 16392370 then true else false) = false from by rw [if_neg h1e]]
    rfl
  · skip
    replace h1 := Decidable.not_not.mp h1
    have h1e : r = Int64.ofNat 16392370 := (lg_cmp_eq _ _).mp h1
    refine wp_st 2 (f' := (31, [some (.long (r)), none], [.int (Int32.ofNat 1)], A)) rfl ?_
    refine wp_rt rfl rfl rfl ?_
    rw [show (if r = Int64.ofNat 16392370 then true else false) = true from by rw [if_pos h1e]]
    rfl
theorem rn_op {d b p g N : Nat} {w : Int32} {s : rf_S} {A : am_H} (hN : N < 27) (h : rf A b (rf_c s p w (Int64.ofNat N) g)) : am_go d 152 [.ref b] A (.inl (some (.int (mg_bi (ru_ix (N + 96))))), A) := by
  refine wp_go ?_
  refine wp_st 1 (f' := (1, [some (.ref b)], [.ref b], A)) rfl ?_
  refine rw_gf (v := .long (Int64.ofNat N)) h rfl rfl rfl rfl (rfl) rfl ?_
  refine wp_st 2 (f' := (8, [some (.ref b)], [.long (Int64.ofNat N &&& (127))], A)) rfl ?_
  rw [show Int64.ofNat N &&& (127) = Int64.ofNat N from by have e := i64_and (N := N) (m := 7) (by omega) (by omega); rw [show N % 2 ^ 7 = N by omega] at e; exact e]
  refine wp_st 1 (f' := (9, [some (.ref b)], [.int ((Int64.ofNat N).toInt32)], A)) rfl ?_
  rw [i64_i32 (a := N)]
  match N, hN with
  | 0, _ =>
    refine wp_st 1 (f' := (108, [some (.ref b)], [], A)) rfl ?_
    refine wp_st 1 (f' := (109, [some (.ref b)], [.int (-1)], A)) rfl ?_
    exact wp_rt rfl rfl rfl rfl
  | 1, _ =>
    refine wp_st 1 (f' := (108, [some (.ref b)], [], A)) rfl ?_
    refine wp_st 1 (f' := (109, [some (.ref b)], [.int (-1)], A)) rfl ?_
    exact wp_rt rfl rfl rfl rfl
  | 2, _ =>
    refine wp_st 1 (f' := (108, [some (.ref b)], [], A)) rfl ?_
    refine wp_st 1 (f' := (109, [some (.ref b)], [.int (-1)], A)) rfl ?_
    exact wp_rt rfl rfl rfl rfl
  | 3, _ =>
    refine wp_st 1 (f' := (108, [some (.ref b)], [], A)) rfl ?_
    refine wp_st 1 (f' := (109, [some (.ref b)], [.int (-1)], A)) rfl ?_
    exact wp_rt rfl rfl rfl rfl
  | 4, _ =>
    refine wp_st 1 (f' := (108, [some (.ref b)], [], A)) rfl ?_
    refine wp_st 1 (f' := (109, [some (.ref b)], [.int (-1)], A)) rfl ?_
    exact wp_rt rfl rfl rfl rfl
  | 5, _ =>
    refine wp_st 1 (f' := (108, [some (.ref b)], [], A)) rfl ?_
    refine wp_st 1 (f' := (109, [some (.ref b)], [.int (-1)], A)) rfl ?_
    exact wp_rt rfl rfl rfl rfl
  | 6, _ =>
    refine wp_st 1 (f' := (104, [some (.ref b)], [], A)) rfl ?_
    refine wp_st 1 (f' := (105, [some (.ref b)], [.int (Int32.ofNat 4)], A)) rfl ?_
    exact wp_rt rfl rfl rfl rfl
  | 7, _ =>
    refine wp_st 1 (f' := (108, [some (.ref b)], [], A)) rfl ?_
    refine wp_st 1 (f' := (109, [some (.ref b)], [.int (-1)], A)) rfl ?_
    exact wp_rt rfl rfl rfl rfl
  | 8, _ =>
    refine wp_st 1 (f' := (108, [some (.ref b)], [], A)) rfl ?_
    refine wp_st 1 (f' := (109, [some (.ref b)], [.int (-1)], A)) rfl ?_
    exact wp_rt rfl rfl rfl rfl
  | 9, _ =>
    refine wp_st 1 (f' := (98, [some (.ref b)], [], A)) rfl ?_
    refine wp_st 1 (f' := (99, [some (.ref b)], [.int (Int32.ofNat 1)], A)) rfl ?_
    exact wp_rt rfl rfl rfl rfl
  | 10, _ =>
    refine wp_st 1 (f' := (108, [some (.ref b)], [], A)) rfl ?_
    refine wp_st 1 (f' := (109, [some (.ref b)], [.int (-1)], A)) rfl ?_
    exact wp_rt rfl rfl rfl rfl
  | 11, _ =>
    refine wp_st 1 (f' := (108, [some (.ref b)], [], A)) rfl ?_
    refine wp_st 1 (f' := (109, [some (.ref b)], [.int (-1)], A)) rfl ?_
    exact wp_rt rfl rfl rfl rfl
  | 12, _ =>
    refine wp_st 1 (f' := (108, [some (.ref b)], [], A)) rfl ?_
    refine wp_st 1 (f' := (109, [some (.ref b)], [.int (-1)], A)) rfl ?_
    exact wp_rt rfl rfl rfl rfl
  | 13, _ =>
    refine wp_st 1 (f' := (108, [some (.ref b)], [], A)) rfl ?_
    refine wp_st 1 (f' := (109, [some (.ref b)], [.int (-1)], A)) rfl ?_
    exact wp_rt rfl rfl rfl rfl
  | 14, _ =>
    refine wp_st 1 (f' := (96, [some (.ref b)], [], A)) rfl ?_
    refine wp_st 1 (f' := (97, [some (.ref b)], [.int (Int32.ofNat 0)], A)) rfl ?_
    exact wp_rt rfl rfl rfl rfl
  | 15, _ =>
    refine wp_st 1 (f' := (108, [some (.ref b)], [], A)) rfl ?_
    refine wp_st 1 (f' := (109, [some (.ref b)], [.int (-1)], A)) rfl ?_
    exact wp_rt rfl rfl rfl rfl
  | 16, _ =>
    refine wp_st 1 (f' := (108, [some (.ref b)], [], A)) rfl ?_
    refine wp_st 1 (f' := (109, [some (.ref b)], [.int (-1)], A)) rfl ?_
    exact wp_rt rfl rfl rfl rfl
  | 17, _ =>
    refine wp_st 1 (f' := (108, [some (.ref b)], [], A)) rfl ?_
    refine wp_st 1 (f' := (109, [some (.ref b)], [.int (-1)], A)) rfl ?_
    exact wp_rt rfl rfl rfl rfl
  | 18, _ =>
    refine wp_st 1 (f' := (108, [some (.ref b)], [], A)) rfl ?_
    refine wp_st 1 (f' := (109, [some (.ref b)], [.int (-1)], A)) rfl ?_
    exact wp_rt rfl rfl rfl rfl
  | 19, _ =>
    refine wp_st 1 (f' := (108, [some (.ref b)], [], A)) rfl ?_
    refine wp_st 1 (f' := (109, [some (.ref b)], [.int (-1)], A)) rfl ?_
    exact wp_rt rfl rfl rfl rfl
  | 20, _ =>
    refine wp_st 1 (f' := (106, [some (.ref b)], [], A)) rfl ?_
    refine wp_st 1 (f' := (107, [some (.ref b)], [.int (Int32.ofNat 5)], A)) rfl ?_
    exact wp_rt rfl rfl rfl rfl
  | 21, _ =>
    refine wp_st 1 (f' := (108, [some (.ref b)], [], A)) rfl ?_
    refine wp_st 1 (f' := (109, [some (.ref b)], [.int (-1)], A)) rfl ?_
    exact wp_rt rfl rfl rfl rfl
  | 22, _ =>
    refine wp_st 1 (f' := (100, [some (.ref b)], [], A)) rfl ?_
    refine wp_st 1 (f' := (101, [some (.ref b)], [.int (Int32.ofNat 2)], A)) rfl ?_
    exact wp_rt rfl rfl rfl rfl
  | 23, _ =>
    refine wp_st 1 (f' := (102, [some (.ref b)], [], A)) rfl ?_
    refine wp_st 1 (f' := (103, [some (.ref b)], [.int (Int32.ofNat 3)], A)) rfl ?_
    exact wp_rt rfl rfl rfl rfl
  | 24, _ =>
    refine wp_st 1 (f' := (108, [some (.ref b)], [], A)) rfl ?_
    refine wp_st 1 (f' := (109, [some (.ref b)], [.int (-1)], A)) rfl ?_
    exact wp_rt rfl rfl rfl rfl
  | 25, _ =>
    refine wp_st 1 (f' := (108, [some (.ref b)], [], A)) rfl ?_
    refine wp_st 1 (f' := (109, [some (.ref b)], [.int (-1)], A)) rfl ?_
    exact wp_rt rfl rfl rfl rfl
  | 26, _ =>
    refine wp_st 1 (f' := (108, [some (.ref b)], [], A)) rfl ?_
    refine wp_st 1 (f' := (109, [some (.ref b)], [.int (-1)], A)) rfl ?_
    exact wp_rt rfl rfl rfl rfl
  | N + 27, hN => omega
