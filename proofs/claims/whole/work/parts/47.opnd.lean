/-! Operands.fill. -/
theorem of_l {d o : Nat} {x y4 y6 : Int64} {s3 : Option Value} {A : am_H} {Q : am_O × am_H → Prop} : ∀ (k f : Nat), k ≤ 6 → f < 9223372036854775808 → am_wp d 94 (72, [some (.ref o), some (.long x), none, s3, some (.long y4), none, some (.long y6), none, some (.long (Int64.ofNat (sb_sfr k f))), none, some (.int (Int32.ofNat (sb_sfw k f)))], [], A) Q → am_wp d 94 (42, [some (.ref o), some (.long x), none, s3, some (.long y4), none, some (.long y6), none, some (.long (Int64.ofNat (f))), none, some (.int (Int32.ofNat (k)))], [], A) Q := by
  intro k
  induction k with
  | zero =>
    intro f h1 h2 kk
    refine wp_st 1 (f' := (44, [some (.ref (o)), some (.long (x)), none, s3, some (.long (y4)), none, some (.long (y6)), none, some (.long (Int64.ofNat f)), none, some (.int (Int32.ofNat 0))], [.int (Int32.ofNat 0)], A)) rfl ?_
    refine wp_izT rfl rfl ((i32_le (a := 0) (b := 0) (by omega) (by omega)).mpr (by omega)) ?_
    exact kk
  | succ k ih =>
    intro f h1 h2 kk
    have hd10 : f / 10 ≤ f := Nat.div_le_self ..
    refine wp_st 1 (f' := (44, [some (.ref (o)), some (.long (x)), none, s3, some (.long (y4)), none, some (.long (y6)), none, some (.long (Int64.ofNat f)), none, some (.int (Int32.ofNat (k + 1)))], [.int (Int32.ofNat (k + 1))], A)) rfl ?_
    refine wp_izF rfl rfl (fun q => absurd ((i32_le (a := k + 1) (b := 0) (by omega) (by omega)).mp q) (by omega)) ?_
    refine wp_st 2 (f' := (52, [some (.ref (o)), some (.long (x)), none, s3, some (.long (y4)), none, some (.long (y6)), none, some (.long (Int64.ofNat f)), none, some (.int (Int32.ofNat (k + 1)))], [.long ((10)), .long (Int64.ofNat f)], A)) rfl ?_
    refine wp_lr rfl (by decide) rfl ?_
    rw [show Int64.ofNat f - Int64.ofNat f / (10) * (10) = Int64.ofNat (f % 10) from i64_rem (a := f) (b := 10) (by omega) (by omega)]
    refine wp_st 2 (f' := (55, [some (.ref (o)), some (.long (x)), none, s3, some (.long (y4)), none, some (.long (y6)), none, some (.long (Int64.ofNat f)), none, some (.int (Int32.ofNat (k + 1)))], [.int (lg_cmp (Int64.ofNat (f % 10)) (Int64.ofNat 0))], A)) rfl ?_
    refine wp_iz rfl rfl rfl (fun (h1 : (lg_cmp (Int64.ofNat (f % 10)) (Int64.ofNat 0)) ≠ (Int32.ofNat 0)) => ?_) (fun (h1 : ¬ ((lg_cmp (Int64.ofNat (f % 10)) (Int64.ofNat 0)) ≠ (Int32.ofNat 0))) => ?_)
    · skip
      have h8 : ¬ f % 10 = 0 := fun q => h1 (sb_cmp0.mpr (by rw [q]))
      rw [sb_sfr, if_neg h8, sb_sfw, if_neg h8] at kk
      exact kk
    · skip
      refine wp_st 2 (f' := (63, [some (.ref (o)), some (.long (x)), none, s3, some (.long (y4)), none, some (.long (y6)), none, some (.long (Int64.ofNat f)), none, some (.int (Int32.ofNat (k + 1)))], [.long ((10)), .long (Int64.ofNat f)], A)) rfl ?_
      refine wp_dv rfl (by decide) rfl ?_
      rw [show Int64.ofNat f / (10) = Int64.ofNat (f / 10) from i64_div (a := f) (b := 10) (by omega) (by omega)]
      refine wp_st 3 (f' := (42, [some (.ref (o)), some (.long (x)), none, s3, some (.long (y4)), none, some (.long (y6)), none, some (.long (Int64.ofNat (f / 10))), none, some (.int ((Int32.ofNat (k + 1)) + (-1)))], [], A)) rfl ?_
      have h8 : f % 10 = 0 := (i64_eq (a := f % 10) (b := 0) (by omega) (by omega)).mp (sb_cmp0.mp (Decidable.not_not.mp h1))
      rw [sb_sfr, if_pos h8, sb_sfw, if_pos h8] at kk
      rw [show Int32.ofNat (k + 1) + (-1) = Int32.ofNat k from sb_k1_s k]
      exact ih (f / 10) (by omega) (by omega) kk
theorem of_pos {d o v k : Nat} {am : List Int64} {un : Int64} {A : am_H} (hd : 2 ≤ d) (hv : v < 9223372036854775808) (hkk : k ≤ 6) (h : sb_P A o am un) (hTn : A[1]? = some (101, am_TENS.map Value.long)) : ∃ B, am_go d 94 [.ref o, .long (Int64.ofNat v), .int (Int32.ofNat k)] A (.inl none, B) ∧ sb_P B o (sb_am v k) (Int64.ofNat (10 ^ k)) ∧ sb_fr A B o (o + 2) := by
  obtain ⟨q0, q1, ham, h45⟩ := h
  have hp := sb_p10 (j := k) (by omega)
  have hdv : v / 10 ^ k ≤ v := Nat.div_le_self ..
  have hmd : v % 10 ^ k ≤ v := Nat.mod_le ..
  have hpos : Int64.ofNat 0 ≤ Int64.ofNat v := (i64_le (by omega) (by omega)).mpr (by omega)
  refine wp_goE ?_
  refine wp_st 3 (f' := (3, [some (.ref (o)), some (.long (Int64.ofNat v)), none, some (.int (Int32.ofNat k)), none, none, none, none, none, none, none], [.int (lg_cmp (Int64.ofNat v) (Int64.ofNat 0))], A)) rfl ?_
  refine wp_izT rfl rfl ((lg_cmp_ge _ _).mpr hpos) ?_
  refine wp_st 5 (f' := (17, [some (.ref (o)), some (.long (Int64.ofNat v)), none, some (.int (Int32.ofNat k)), some (.long (Int64.ofNat v)), none, none, none, none, none, none], [.int (Int32.ofNat k), .long (Int64.ofNat 1), .ref (o)], A)) rfl ?_
  refine wp_cs (n := 0) (A' := A) (v := some (.long (Int64.ofNat (10 ^ k)))) rfl rfl rfl (by omega) (un_go (by omega) hTn) rfl ?_
  show am_wp d 94 (20, [some (.ref (o)), some (.long (Int64.ofNat v)), none, some (.int (Int32.ofNat k)), some (.long (Int64.ofNat v)), none, none, none, none, none, none], [.long (Int64.ofNat (10 ^ k)), .long (Int64.ofNat 1), .ref (o)], A) _
  refine wp_mx rfl rfl (by omega) rfl rfl ?_
  rw [if_neg (fun q => by have y := (i64_lt (a := 10 ^ k) (b := 1) (by omega) (by omega)).mp q; omega)]
  obtain ⟨A1, e2⟩ : ∃ B, B = A.set (o) (6, [.ref (o + 1), .long (Int64.ofNat (10 ^ k))]) := ⟨_, rfl⟩
  refine wp_pf (A' := A1) rfl rfl q0 rfl rfl (decide_eq_true (by omega)) rfl e2.symm ?_
  have g3 : A1[o]? = some (6, [.ref (o + 1), .long (Int64.ofNat (10 ^ k))]) := by rw [e2]; exact sb_ss q0
  have g4 : A1[o + 1]? = some (101, am.map Value.long) := by rw [e2]; exact sb_so (by omega) q1
  have g5 : A1[1]? = some (101, am_TENS.map Value.long) := by rw [e2]; exact sb_so (by omega) hTn
  have f6 : sb_fr A A1 o (o + 2) := (sb_fr.refl A o (o + 2)).set e2 q0 (by simp) (by omega) (by omega)
  refine wp_st 2 (f' := (29, [some (.ref (o)), some (.long (Int64.ofNat v)), none, some (.int (Int32.ofNat k)), some (.long (Int64.ofNat v)), none, none, none, none, none, none], [.ref (o), .long (Int64.ofNat v)], A1)) rfl ?_
  refine wp_gf rfl rfl g3 rfl rfl ?_
  refine wp_lr rfl (fun q => by have y := (i64_eq (a := 10 ^ k) (b := 0) (by omega) (by omega)).mp q; omega) rfl ?_
  rw [i64_rem (a := v) (b := 10 ^ k) (by omega) (by omega)]
  refine wp_st 5 (f' := (42, [some (.ref (o)), some (.long (Int64.ofNat v)), none, some (.int (Int32.ofNat k)), some (.long (Int64.ofNat v)), none, some (.long (Int64.ofNat (v % 10 ^ k))), none, some (.long (Int64.ofNat (v % 10 ^ k))), none, some (.int (Int32.ofNat k))], [], A1)) rfl ?_
  refine of_l k (v % 10 ^ k) (by omega) (by omega) ?_
  have hle := sb_sfr_le k (v % 10 ^ k)
  refine wp_st 1 (f' := (73, [some (.ref (o)), some (.long (Int64.ofNat v)), none, some (.int (Int32.ofNat k)), some (.long (Int64.ofNat v)), none, some (.long (Int64.ofNat (v % 10 ^ k))), none, some (.long (Int64.ofNat (sb_sfr k (v % 10 ^ k)))), none, some (.int (Int32.ofNat (sb_sfw k (v % 10 ^ k))))], [.ref (o)], A1)) rfl ?_
  refine wp_gf rfl rfl g3 rfl rfl ?_
  refine wp_st 2 (f' := (79, [some (.ref (o)), some (.long (Int64.ofNat v)), none, some (.int (Int32.ofNat k)), some (.long (Int64.ofNat v)), none, some (.long (Int64.ofNat (v % 10 ^ k))), none, some (.long (Int64.ofNat (sb_sfr k (v % 10 ^ k)))), none, some (.int (Int32.ofNat (sb_sfw k (v % 10 ^ k))))], [.long (Int64.ofNat v), .int (Int32.ofNat 0), .ref (o + 1)], A1)) rfl ?_
  obtain ⟨A7, e8⟩ : ∃ B, B = A1.set (o + 1) (101, (am.set 0 (Int64.ofNat v)).map Value.long) := ⟨_, rfl⟩
  refine wp_ls (A' := A7) rfl g4 (by omega) (by simp; omega) (decide_eq_true (by omega)) rfl (by rw [e8]; exact congrArg (fun z => List.set _ _ (_, z)) sb_sm) ?_
  have g9 : A7[o]? = some (6, [.ref (o + 1), .long (Int64.ofNat (10 ^ k))]) := by rw [e8]; exact sb_so (by omega) g3
  have g10 : A7[o + 1]? = some (101, (am.set 0 (Int64.ofNat v)).map Value.long) := by rw [e8]; exact sb_ss g4
  have g11 : A7[1]? = some (101, am_TENS.map Value.long) := by rw [e8]; exact sb_so (by omega) g5
  have f12 : sb_fr A A7 o (o + 2) := f6.set e8 g4 (by simp) (by omega) (by omega)
  refine wp_st 1 (f' := (81, [some (.ref (o)), some (.long (Int64.ofNat v)), none, some (.int (Int32.ofNat k)), some (.long (Int64.ofNat v)), none, some (.long (Int64.ofNat (v % 10 ^ k))), none, some (.long (Int64.ofNat (sb_sfr k (v % 10 ^ k)))), none, some (.int (Int32.ofNat (sb_sfw k (v % 10 ^ k))))], [.ref (o)], A7)) rfl ?_
  refine wp_gf rfl rfl g9 rfl rfl ?_
  refine wp_st 3 (f' := (88, [some (.ref (o)), some (.long (Int64.ofNat v)), none, some (.int (Int32.ofNat k)), some (.long (Int64.ofNat v)), none, some (.long (Int64.ofNat (v % 10 ^ k))), none, some (.long (Int64.ofNat (sb_sfr k (v % 10 ^ k)))), none, some (.int (Int32.ofNat (sb_sfw k (v % 10 ^ k))))], [.ref (o), .long (Int64.ofNat v), .int (Int32.ofNat 1), .ref (o + 1)], A7)) rfl ?_
  refine wp_gf rfl rfl g9 rfl rfl ?_
  refine wp_dv rfl (fun q => by have y := (i64_eq (a := 10 ^ k) (b := 0) (by omega) (by omega)).mp q; omega) rfl ?_
  rw [i64_div (a := v) (b := 10 ^ k) (by omega) (by omega)]
  obtain ⟨A13, e14⟩ : ∃ B, B = A7.set (o + 1) (101, ((am.set 0 (Int64.ofNat v)).set 1 (Int64.ofNat (v / 10 ^ k))).map Value.long) := ⟨_, rfl⟩
  refine wp_ls (A' := A13) rfl g10 (by omega) (by simp; omega) (decide_eq_true (by omega)) rfl (by rw [e14]; exact congrArg (fun z => List.set _ _ (_, z)) sb_sm) ?_
  have g15 : A13[o]? = some (6, [.ref (o + 1), .long (Int64.ofNat (10 ^ k))]) := by rw [e14]; exact sb_so (by omega) g9
  have g16 : A13[o + 1]? = some (101, ((am.set 0 (Int64.ofNat v)).set 1 (Int64.ofNat (v / 10 ^ k))).map Value.long) := by rw [e14]; exact sb_ss g10
  have g17 : A13[1]? = some (101, am_TENS.map Value.long) := by rw [e14]; exact sb_so (by omega) g11
  have f18 : sb_fr A A13 o (o + 2) := f12.set e14 g10 (by simp) (by omega) (by omega)
  refine wp_st 1 (f' := (94, [some (.ref (o)), some (.long (Int64.ofNat v)), none, some (.int (Int32.ofNat k)), some (.long (Int64.ofNat v)), none, some (.long (Int64.ofNat (v % 10 ^ k))), none, some (.long (Int64.ofNat (sb_sfr k (v % 10 ^ k)))), none, some (.int (Int32.ofNat (sb_sfw k (v % 10 ^ k))))], [.ref (o)], A13)) rfl ?_
  refine wp_gf rfl rfl g15 rfl rfl ?_
  refine wp_st 3 (f' := (100, [some (.ref (o)), some (.long (Int64.ofNat v)), none, some (.int (Int32.ofNat k)), some (.long (Int64.ofNat v)), none, some (.long (Int64.ofNat (v % 10 ^ k))), none, some (.long (Int64.ofNat (sb_sfr k (v % 10 ^ k)))), none, some (.int (Int32.ofNat (sb_sfw k (v % 10 ^ k))))], [.long ((Int32.ofNat k).toInt64), .int (Int32.ofNat 2), .ref (o + 1)], A13)) rfl ?_
  rw [i64_of (b := k) (by omega)]
  obtain ⟨A19, e20⟩ : ∃ B, B = A13.set (o + 1) (101, (((am.set 0 (Int64.ofNat v)).set 1 (Int64.ofNat (v / 10 ^ k))).set 2 (Int64.ofNat k)).map Value.long) := ⟨_, rfl⟩
  refine wp_ls (A' := A19) rfl g16 (by omega) (by simp; omega) (decide_eq_true (by omega)) rfl (by rw [e20]; exact congrArg (fun z => List.set _ _ (_, z)) sb_sm) ?_
  have g21 : A19[o]? = some (6, [.ref (o + 1), .long (Int64.ofNat (10 ^ k))]) := by rw [e20]; exact sb_so (by omega) g15
  have g22 : A19[o + 1]? = some (101, (((am.set 0 (Int64.ofNat v)).set 1 (Int64.ofNat (v / 10 ^ k))).set 2 (Int64.ofNat k)).map Value.long) := by rw [e20]; exact sb_ss g16
  have g23 : A19[1]? = some (101, am_TENS.map Value.long) := by rw [e20]; exact sb_so (by omega) g17
  have f24 : sb_fr A A19 o (o + 2) := f18.set e20 g16 (by simp) (by omega) (by omega)
  refine wp_st 1 (f' := (102, [some (.ref (o)), some (.long (Int64.ofNat v)), none, some (.int (Int32.ofNat k)), some (.long (Int64.ofNat v)), none, some (.long (Int64.ofNat (v % 10 ^ k))), none, some (.long (Int64.ofNat (sb_sfr k (v % 10 ^ k)))), none, some (.int (Int32.ofNat (sb_sfw k (v % 10 ^ k))))], [.ref (o)], A19)) rfl ?_
  refine wp_gf rfl rfl g21 rfl rfl ?_
  refine wp_st 3 (f' := (109, [some (.ref (o)), some (.long (Int64.ofNat v)), none, some (.int (Int32.ofNat k)), some (.long (Int64.ofNat v)), none, some (.long (Int64.ofNat (v % 10 ^ k))), none, some (.long (Int64.ofNat (sb_sfr k (v % 10 ^ k)))), none, some (.int (Int32.ofNat (sb_sfw k (v % 10 ^ k))))], [.long ((Int32.ofNat (sb_sfw k (v % 10 ^ k))).toInt64), .int (Int32.ofNat 3), .ref (o + 1)], A19)) rfl ?_
  rw [i64_of (b := sb_sfw k (v % 10 ^ k)) (by omega)]
  obtain ⟨A25, e26⟩ : ∃ B, B = A19.set (o + 1) (101, ((((am.set 0 (Int64.ofNat v)).set 1 (Int64.ofNat (v / 10 ^ k))).set 2 (Int64.ofNat k)).set 3 (Int64.ofNat (sb_sfw k (v % 10 ^ k)))).map Value.long) := ⟨_, rfl⟩
  refine wp_ls (A' := A25) rfl g22 (by omega) (by simp; omega) (decide_eq_true (by omega)) rfl (by rw [e26]; exact congrArg (fun z => List.set _ _ (_, z)) sb_sm) ?_
  have g27 : A25[o]? = some (6, [.ref (o + 1), .long (Int64.ofNat (10 ^ k))]) := by rw [e26]; exact sb_so (by omega) g21
  have g28 : A25[o + 1]? = some (101, ((((am.set 0 (Int64.ofNat v)).set 1 (Int64.ofNat (v / 10 ^ k))).set 2 (Int64.ofNat k)).set 3 (Int64.ofNat (sb_sfw k (v % 10 ^ k)))).map Value.long) := by rw [e26]; exact sb_ss g22
  have g29 : A25[1]? = some (101, am_TENS.map Value.long) := by rw [e26]; exact sb_so (by omega) g23
  have f30 : sb_fr A A25 o (o + 2) := f24.set e26 g22 (by simp) (by omega) (by omega)
  refine wp_st 1 (f' := (111, [some (.ref (o)), some (.long (Int64.ofNat v)), none, some (.int (Int32.ofNat k)), some (.long (Int64.ofNat v)), none, some (.long (Int64.ofNat (v % 10 ^ k))), none, some (.long (Int64.ofNat (sb_sfr k (v % 10 ^ k)))), none, some (.int (Int32.ofNat (sb_sfw k (v % 10 ^ k))))], [.ref (o)], A25)) rfl ?_
  refine wp_gf rfl rfl g27 rfl rfl ?_
  refine wp_st 2 (f' := (117, [some (.ref (o)), some (.long (Int64.ofNat v)), none, some (.int (Int32.ofNat k)), some (.long (Int64.ofNat v)), none, some (.long (Int64.ofNat (v % 10 ^ k))), none, some (.long (Int64.ofNat (sb_sfr k (v % 10 ^ k)))), none, some (.int (Int32.ofNat (sb_sfw k (v % 10 ^ k))))], [.long (Int64.ofNat (v % 10 ^ k)), .int (Int32.ofNat 4), .ref (o + 1)], A25)) rfl ?_
  obtain ⟨A31, e32⟩ : ∃ B, B = A25.set (o + 1) (101, (((((am.set 0 (Int64.ofNat v)).set 1 (Int64.ofNat (v / 10 ^ k))).set 2 (Int64.ofNat k)).set 3 (Int64.ofNat (sb_sfw k (v % 10 ^ k)))).set 4 (Int64.ofNat (v % 10 ^ k))).map Value.long) := ⟨_, rfl⟩
  refine wp_ls (A' := A31) rfl g28 (by omega) (by simp; omega) (decide_eq_true (by omega)) rfl (by rw [e32]; exact congrArg (fun z => List.set _ _ (_, z)) sb_sm) ?_
  have g33 : A31[o]? = some (6, [.ref (o + 1), .long (Int64.ofNat (10 ^ k))]) := by rw [e32]; exact sb_so (by omega) g27
  have g34 : A31[o + 1]? = some (101, (((((am.set 0 (Int64.ofNat v)).set 1 (Int64.ofNat (v / 10 ^ k))).set 2 (Int64.ofNat k)).set 3 (Int64.ofNat (sb_sfw k (v % 10 ^ k)))).set 4 (Int64.ofNat (v % 10 ^ k))).map Value.long) := by rw [e32]; exact sb_ss g28
  have g35 : A31[1]? = some (101, am_TENS.map Value.long) := by rw [e32]; exact sb_so (by omega) g29
  have f36 : sb_fr A A31 o (o + 2) := f30.set e32 g28 (by simp) (by omega) (by omega)
  refine wp_st 1 (f' := (119, [some (.ref (o)), some (.long (Int64.ofNat v)), none, some (.int (Int32.ofNat k)), some (.long (Int64.ofNat v)), none, some (.long (Int64.ofNat (v % 10 ^ k))), none, some (.long (Int64.ofNat (sb_sfr k (v % 10 ^ k)))), none, some (.int (Int32.ofNat (sb_sfw k (v % 10 ^ k))))], [.ref (o)], A31)) rfl ?_
  refine wp_gf rfl rfl g33 rfl rfl ?_
  refine wp_st 2 (f' := (125, [some (.ref (o)), some (.long (Int64.ofNat v)), none, some (.int (Int32.ofNat k)), some (.long (Int64.ofNat v)), none, some (.long (Int64.ofNat (v % 10 ^ k))), none, some (.long (Int64.ofNat (sb_sfr k (v % 10 ^ k)))), none, some (.int (Int32.ofNat (sb_sfw k (v % 10 ^ k))))], [.long (Int64.ofNat (sb_sfr k (v % 10 ^ k))), .int (Int32.ofNat 5), .ref (o + 1)], A31)) rfl ?_
  obtain ⟨A37, e38⟩ : ∃ B, B = A31.set (o + 1) (101, ((((((am.set 0 (Int64.ofNat v)).set 1 (Int64.ofNat (v / 10 ^ k))).set 2 (Int64.ofNat k)).set 3 (Int64.ofNat (sb_sfw k (v % 10 ^ k)))).set 4 (Int64.ofNat (v % 10 ^ k))).set 5 (Int64.ofNat (sb_sfr k (v % 10 ^ k)))).map Value.long) := ⟨_, rfl⟩
  refine wp_ls (A' := A37) rfl g34 (by omega) (by simp; omega) (decide_eq_true (by omega)) rfl (by rw [e38]; exact congrArg (fun z => List.set _ _ (_, z)) sb_sm) ?_
  have g39 : A37[o]? = some (6, [.ref (o + 1), .long (Int64.ofNat (10 ^ k))]) := by rw [e38]; exact sb_so (by omega) g33
  have g40 : A37[o + 1]? = some (101, ((((((am.set 0 (Int64.ofNat v)).set 1 (Int64.ofNat (v / 10 ^ k))).set 2 (Int64.ofNat k)).set 3 (Int64.ofNat (sb_sfw k (v % 10 ^ k)))).set 4 (Int64.ofNat (v % 10 ^ k))).set 5 (Int64.ofNat (sb_sfr k (v % 10 ^ k)))).map Value.long) := by rw [e38]; exact sb_ss g34
  have g41 : A37[1]? = some (101, am_TENS.map Value.long) := by rw [e38]; exact sb_so (by omega) g35
  have f42 : sb_fr A A37 o (o + 2) := f36.set e38 g34 (by simp) (by omega) (by omega)
  refine wp_rt rfl rfl rfl ?_
  refine ⟨rfl, ⟨g39, ?_, rfl, h45⟩, f42⟩
  rw [g40, sb_six ham]
  rfl
theorem of_neg {d o v k : Nat} {am : List Int64} {un : Int64} {A : am_H} (hd : 2 ≤ d) (hv : v < 9223372036854775808) (hkk : k ≤ 6) (h : sb_P A o am un) (hTn : A[1]? = some (101, am_TENS.map Value.long)) (hv0 : 0 < v) : ∃ B, am_go d 94 [.ref o, .long (-Int64.ofNat v), .int (Int32.ofNat k)] A (.inl none, B) ∧ sb_P B o (sb_am v k) (Int64.ofNat (10 ^ k)) ∧ sb_fr A B o (o + 2) := by
  obtain ⟨q0, q1, ham, h45⟩ := h
  have hp := sb_p10 (j := k) (by omega)
  have hdv : v / 10 ^ k ≤ v := Nat.div_le_self ..
  have hmd : v % 10 ^ k ≤ v := Nat.mod_le ..
  have hneg : ¬ Int64.ofNat 0 ≤ -Int64.ofNat v := i64_neg hv0 hv
  refine wp_goE ?_
  refine wp_st 3 (f' := (3, [some (.ref (o)), some (.long (-Int64.ofNat v)), none, some (.int (Int32.ofNat k)), none, none, none, none, none, none, none], [.int (lg_cmp (-Int64.ofNat v) (Int64.ofNat 0))], A)) rfl ?_
  refine wp_izF rfl rfl (fun q => absurd ((lg_cmp_ge _ _).mp q) hneg) ?_
  refine wp_st 2 (f' := (8, [some (.ref (o)), some (.long (-Int64.ofNat v)), none, some (.int (Int32.ofNat k)), none, none, none, none, none, none, none], [.long (-(-Int64.ofNat v))], A)) rfl ?_
  rw [Int64.neg_neg]
  refine wp_st 5 (f' := (17, [some (.ref (o)), some (.long (-Int64.ofNat v)), none, some (.int (Int32.ofNat k)), some (.long (Int64.ofNat v)), none, none, none, none, none, none], [.int (Int32.ofNat k), .long (Int64.ofNat 1), .ref (o)], A)) rfl ?_
  refine wp_cs (n := 0) (A' := A) (v := some (.long (Int64.ofNat (10 ^ k)))) rfl rfl rfl (by omega) (un_go (by omega) hTn) rfl ?_
  show am_wp d 94 (20, [some (.ref (o)), some (.long (-Int64.ofNat v)), none, some (.int (Int32.ofNat k)), some (.long (Int64.ofNat v)), none, none, none, none, none, none], [.long (Int64.ofNat (10 ^ k)), .long (Int64.ofNat 1), .ref (o)], A) _
  refine wp_mx rfl rfl (by omega) rfl rfl ?_
  rw [if_neg (fun q => by have y := (i64_lt (a := 10 ^ k) (b := 1) (by omega) (by omega)).mp q; omega)]
  obtain ⟨A1, e2⟩ : ∃ B, B = A.set (o) (6, [.ref (o + 1), .long (Int64.ofNat (10 ^ k))]) := ⟨_, rfl⟩
  refine wp_pf (A' := A1) rfl rfl q0 rfl rfl (decide_eq_true (by omega)) rfl e2.symm ?_
  have g3 : A1[o]? = some (6, [.ref (o + 1), .long (Int64.ofNat (10 ^ k))]) := by rw [e2]; exact sb_ss q0
  have g4 : A1[o + 1]? = some (101, am.map Value.long) := by rw [e2]; exact sb_so (by omega) q1
  have g5 : A1[1]? = some (101, am_TENS.map Value.long) := by rw [e2]; exact sb_so (by omega) hTn
  have f6 : sb_fr A A1 o (o + 2) := (sb_fr.refl A o (o + 2)).set e2 q0 (by simp) (by omega) (by omega)
  refine wp_st 2 (f' := (29, [some (.ref (o)), some (.long (-Int64.ofNat v)), none, some (.int (Int32.ofNat k)), some (.long (Int64.ofNat v)), none, none, none, none, none, none], [.ref (o), .long (Int64.ofNat v)], A1)) rfl ?_
  refine wp_gf rfl rfl g3 rfl rfl ?_
  refine wp_lr rfl (fun q => by have y := (i64_eq (a := 10 ^ k) (b := 0) (by omega) (by omega)).mp q; omega) rfl ?_
  rw [i64_rem (a := v) (b := 10 ^ k) (by omega) (by omega)]
  refine wp_st 5 (f' := (42, [some (.ref (o)), some (.long (-Int64.ofNat v)), none, some (.int (Int32.ofNat k)), some (.long (Int64.ofNat v)), none, some (.long (Int64.ofNat (v % 10 ^ k))), none, some (.long (Int64.ofNat (v % 10 ^ k))), none, some (.int (Int32.ofNat k))], [], A1)) rfl ?_
  refine of_l k (v % 10 ^ k) (by omega) (by omega) ?_
  have hle := sb_sfr_le k (v % 10 ^ k)
  refine wp_st 1 (f' := (73, [some (.ref (o)), some (.long (-Int64.ofNat v)), none, some (.int (Int32.ofNat k)), some (.long (Int64.ofNat v)), none, some (.long (Int64.ofNat (v % 10 ^ k))), none, some (.long (Int64.ofNat (sb_sfr k (v % 10 ^ k)))), none, some (.int (Int32.ofNat (sb_sfw k (v % 10 ^ k))))], [.ref (o)], A1)) rfl ?_
  refine wp_gf rfl rfl g3 rfl rfl ?_
  refine wp_st 2 (f' := (79, [some (.ref (o)), some (.long (-Int64.ofNat v)), none, some (.int (Int32.ofNat k)), some (.long (Int64.ofNat v)), none, some (.long (Int64.ofNat (v % 10 ^ k))), none, some (.long (Int64.ofNat (sb_sfr k (v % 10 ^ k)))), none, some (.int (Int32.ofNat (sb_sfw k (v % 10 ^ k))))], [.long (Int64.ofNat v), .int (Int32.ofNat 0), .ref (o + 1)], A1)) rfl ?_
  obtain ⟨A7, e8⟩ : ∃ B, B = A1.set (o + 1) (101, (am.set 0 (Int64.ofNat v)).map Value.long) := ⟨_, rfl⟩
  refine wp_ls (A' := A7) rfl g4 (by omega) (by simp; omega) (decide_eq_true (by omega)) rfl (by rw [e8]; exact congrArg (fun z => List.set _ _ (_, z)) sb_sm) ?_
  have g9 : A7[o]? = some (6, [.ref (o + 1), .long (Int64.ofNat (10 ^ k))]) := by rw [e8]; exact sb_so (by omega) g3
  have g10 : A7[o + 1]? = some (101, (am.set 0 (Int64.ofNat v)).map Value.long) := by rw [e8]; exact sb_ss g4
  have g11 : A7[1]? = some (101, am_TENS.map Value.long) := by rw [e8]; exact sb_so (by omega) g5
  have f12 : sb_fr A A7 o (o + 2) := f6.set e8 g4 (by simp) (by omega) (by omega)
  refine wp_st 1 (f' := (81, [some (.ref (o)), some (.long (-Int64.ofNat v)), none, some (.int (Int32.ofNat k)), some (.long (Int64.ofNat v)), none, some (.long (Int64.ofNat (v % 10 ^ k))), none, some (.long (Int64.ofNat (sb_sfr k (v % 10 ^ k)))), none, some (.int (Int32.ofNat (sb_sfw k (v % 10 ^ k))))], [.ref (o)], A7)) rfl ?_
  refine wp_gf rfl rfl g9 rfl rfl ?_
  refine wp_st 3 (f' := (88, [some (.ref (o)), some (.long (-Int64.ofNat v)), none, some (.int (Int32.ofNat k)), some (.long (Int64.ofNat v)), none, some (.long (Int64.ofNat (v % 10 ^ k))), none, some (.long (Int64.ofNat (sb_sfr k (v % 10 ^ k)))), none, some (.int (Int32.ofNat (sb_sfw k (v % 10 ^ k))))], [.ref (o), .long (Int64.ofNat v), .int (Int32.ofNat 1), .ref (o + 1)], A7)) rfl ?_
  refine wp_gf rfl rfl g9 rfl rfl ?_
  refine wp_dv rfl (fun q => by have y := (i64_eq (a := 10 ^ k) (b := 0) (by omega) (by omega)).mp q; omega) rfl ?_
  rw [i64_div (a := v) (b := 10 ^ k) (by omega) (by omega)]
  obtain ⟨A13, e14⟩ : ∃ B, B = A7.set (o + 1) (101, ((am.set 0 (Int64.ofNat v)).set 1 (Int64.ofNat (v / 10 ^ k))).map Value.long) := ⟨_, rfl⟩
  refine wp_ls (A' := A13) rfl g10 (by omega) (by simp; omega) (decide_eq_true (by omega)) rfl (by rw [e14]; exact congrArg (fun z => List.set _ _ (_, z)) sb_sm) ?_
  have g15 : A13[o]? = some (6, [.ref (o + 1), .long (Int64.ofNat (10 ^ k))]) := by rw [e14]; exact sb_so (by omega) g9
  have g16 : A13[o + 1]? = some (101, ((am.set 0 (Int64.ofNat v)).set 1 (Int64.ofNat (v / 10 ^ k))).map Value.long) := by rw [e14]; exact sb_ss g10
  have g17 : A13[1]? = some (101, am_TENS.map Value.long) := by rw [e14]; exact sb_so (by omega) g11
  have f18 : sb_fr A A13 o (o + 2) := f12.set e14 g10 (by simp) (by omega) (by omega)
  refine wp_st 1 (f' := (94, [some (.ref (o)), some (.long (-Int64.ofNat v)), none, some (.int (Int32.ofNat k)), some (.long (Int64.ofNat v)), none, some (.long (Int64.ofNat (v % 10 ^ k))), none, some (.long (Int64.ofNat (sb_sfr k (v % 10 ^ k)))), none, some (.int (Int32.ofNat (sb_sfw k (v % 10 ^ k))))], [.ref (o)], A13)) rfl ?_
  refine wp_gf rfl rfl g15 rfl rfl ?_
  refine wp_st 3 (f' := (100, [some (.ref (o)), some (.long (-Int64.ofNat v)), none, some (.int (Int32.ofNat k)), some (.long (Int64.ofNat v)), none, some (.long (Int64.ofNat (v % 10 ^ k))), none, some (.long (Int64.ofNat (sb_sfr k (v % 10 ^ k)))), none, some (.int (Int32.ofNat (sb_sfw k (v % 10 ^ k))))], [.long ((Int32.ofNat k).toInt64), .int (Int32.ofNat 2), .ref (o + 1)], A13)) rfl ?_
  rw [i64_of (b := k) (by omega)]
  obtain ⟨A19, e20⟩ : ∃ B, B = A13.set (o + 1) (101, (((am.set 0 (Int64.ofNat v)).set 1 (Int64.ofNat (v / 10 ^ k))).set 2 (Int64.ofNat k)).map Value.long) := ⟨_, rfl⟩
  refine wp_ls (A' := A19) rfl g16 (by omega) (by simp; omega) (decide_eq_true (by omega)) rfl (by rw [e20]; exact congrArg (fun z => List.set _ _ (_, z)) sb_sm) ?_
  have g21 : A19[o]? = some (6, [.ref (o + 1), .long (Int64.ofNat (10 ^ k))]) := by rw [e20]; exact sb_so (by omega) g15
  have g22 : A19[o + 1]? = some (101, (((am.set 0 (Int64.ofNat v)).set 1 (Int64.ofNat (v / 10 ^ k))).set 2 (Int64.ofNat k)).map Value.long) := by rw [e20]; exact sb_ss g16
  have g23 : A19[1]? = some (101, am_TENS.map Value.long) := by rw [e20]; exact sb_so (by omega) g17
  have f24 : sb_fr A A19 o (o + 2) := f18.set e20 g16 (by simp) (by omega) (by omega)
  refine wp_st 1 (f' := (102, [some (.ref (o)), some (.long (-Int64.ofNat v)), none, some (.int (Int32.ofNat k)), some (.long (Int64.ofNat v)), none, some (.long (Int64.ofNat (v % 10 ^ k))), none, some (.long (Int64.ofNat (sb_sfr k (v % 10 ^ k)))), none, some (.int (Int32.ofNat (sb_sfw k (v % 10 ^ k))))], [.ref (o)], A19)) rfl ?_
  refine wp_gf rfl rfl g21 rfl rfl ?_
  refine wp_st 3 (f' := (109, [some (.ref (o)), some (.long (-Int64.ofNat v)), none, some (.int (Int32.ofNat k)), some (.long (Int64.ofNat v)), none, some (.long (Int64.ofNat (v % 10 ^ k))), none, some (.long (Int64.ofNat (sb_sfr k (v % 10 ^ k)))), none, some (.int (Int32.ofNat (sb_sfw k (v % 10 ^ k))))], [.long ((Int32.ofNat (sb_sfw k (v % 10 ^ k))).toInt64), .int (Int32.ofNat 3), .ref (o + 1)], A19)) rfl ?_
  rw [i64_of (b := sb_sfw k (v % 10 ^ k)) (by omega)]
  obtain ⟨A25, e26⟩ : ∃ B, B = A19.set (o + 1) (101, ((((am.set 0 (Int64.ofNat v)).set 1 (Int64.ofNat (v / 10 ^ k))).set 2 (Int64.ofNat k)).set 3 (Int64.ofNat (sb_sfw k (v % 10 ^ k)))).map Value.long) := ⟨_, rfl⟩
  refine wp_ls (A' := A25) rfl g22 (by omega) (by simp; omega) (decide_eq_true (by omega)) rfl (by rw [e26]; exact congrArg (fun z => List.set _ _ (_, z)) sb_sm) ?_
  have g27 : A25[o]? = some (6, [.ref (o + 1), .long (Int64.ofNat (10 ^ k))]) := by rw [e26]; exact sb_so (by omega) g21
  have g28 : A25[o + 1]? = some (101, ((((am.set 0 (Int64.ofNat v)).set 1 (Int64.ofNat (v / 10 ^ k))).set 2 (Int64.ofNat k)).set 3 (Int64.ofNat (sb_sfw k (v % 10 ^ k)))).map Value.long) := by rw [e26]; exact sb_ss g22
  have g29 : A25[1]? = some (101, am_TENS.map Value.long) := by rw [e26]; exact sb_so (by omega) g23
  have f30 : sb_fr A A25 o (o + 2) := f24.set e26 g22 (by simp) (by omega) (by omega)
  refine wp_st 1 (f' := (111, [some (.ref (o)), some (.long (-Int64.ofNat v)), none, some (.int (Int32.ofNat k)), some (.long (Int64.ofNat v)), none, some (.long (Int64.ofNat (v % 10 ^ k))), none, some (.long (Int64.ofNat (sb_sfr k (v % 10 ^ k)))), none, some (.int (Int32.ofNat (sb_sfw k (v % 10 ^ k))))], [.ref (o)], A25)) rfl ?_
  refine wp_gf rfl rfl g27 rfl rfl ?_
  refine wp_st 2 (f' := (117, [some (.ref (o)), some (.long (-Int64.ofNat v)), none, some (.int (Int32.ofNat k)), some (.long (Int64.ofNat v)), none, some (.long (Int64.ofNat (v % 10 ^ k))), none, some (.long (Int64.ofNat (sb_sfr k (v % 10 ^ k)))), none, some (.int (Int32.ofNat (sb_sfw k (v % 10 ^ k))))], [.long (Int64.ofNat (v % 10 ^ k)), .int (Int32.ofNat 4), .ref (o + 1)], A25)) rfl ?_
  obtain ⟨A31, e32⟩ : ∃ B, B = A25.set (o + 1) (101, (((((am.set 0 (Int64.ofNat v)).set 1 (Int64.ofNat (v / 10 ^ k))).set 2 (Int64.ofNat k)).set 3 (Int64.ofNat (sb_sfw k (v % 10 ^ k)))).set 4 (Int64.ofNat (v % 10 ^ k))).map Value.long) := ⟨_, rfl⟩
  refine wp_ls (A' := A31) rfl g28 (by omega) (by simp; omega) (decide_eq_true (by omega)) rfl (by rw [e32]; exact congrArg (fun z => List.set _ _ (_, z)) sb_sm) ?_
  have g33 : A31[o]? = some (6, [.ref (o + 1), .long (Int64.ofNat (10 ^ k))]) := by rw [e32]; exact sb_so (by omega) g27
  have g34 : A31[o + 1]? = some (101, (((((am.set 0 (Int64.ofNat v)).set 1 (Int64.ofNat (v / 10 ^ k))).set 2 (Int64.ofNat k)).set 3 (Int64.ofNat (sb_sfw k (v % 10 ^ k)))).set 4 (Int64.ofNat (v % 10 ^ k))).map Value.long) := by rw [e32]; exact sb_ss g28
  have g35 : A31[1]? = some (101, am_TENS.map Value.long) := by rw [e32]; exact sb_so (by omega) g29
  have f36 : sb_fr A A31 o (o + 2) := f30.set e32 g28 (by simp) (by omega) (by omega)
  refine wp_st 1 (f' := (119, [some (.ref (o)), some (.long (-Int64.ofNat v)), none, some (.int (Int32.ofNat k)), some (.long (Int64.ofNat v)), none, some (.long (Int64.ofNat (v % 10 ^ k))), none, some (.long (Int64.ofNat (sb_sfr k (v % 10 ^ k)))), none, some (.int (Int32.ofNat (sb_sfw k (v % 10 ^ k))))], [.ref (o)], A31)) rfl ?_
  refine wp_gf rfl rfl g33 rfl rfl ?_
  refine wp_st 2 (f' := (125, [some (.ref (o)), some (.long (-Int64.ofNat v)), none, some (.int (Int32.ofNat k)), some (.long (Int64.ofNat v)), none, some (.long (Int64.ofNat (v % 10 ^ k))), none, some (.long (Int64.ofNat (sb_sfr k (v % 10 ^ k)))), none, some (.int (Int32.ofNat (sb_sfw k (v % 10 ^ k))))], [.long (Int64.ofNat (sb_sfr k (v % 10 ^ k))), .int (Int32.ofNat 5), .ref (o + 1)], A31)) rfl ?_
  obtain ⟨A37, e38⟩ : ∃ B, B = A31.set (o + 1) (101, ((((((am.set 0 (Int64.ofNat v)).set 1 (Int64.ofNat (v / 10 ^ k))).set 2 (Int64.ofNat k)).set 3 (Int64.ofNat (sb_sfw k (v % 10 ^ k)))).set 4 (Int64.ofNat (v % 10 ^ k))).set 5 (Int64.ofNat (sb_sfr k (v % 10 ^ k)))).map Value.long) := ⟨_, rfl⟩
  refine wp_ls (A' := A37) rfl g34 (by omega) (by simp; omega) (decide_eq_true (by omega)) rfl (by rw [e38]; exact congrArg (fun z => List.set _ _ (_, z)) sb_sm) ?_
  have g39 : A37[o]? = some (6, [.ref (o + 1), .long (Int64.ofNat (10 ^ k))]) := by rw [e38]; exact sb_so (by omega) g33
  have g40 : A37[o + 1]? = some (101, ((((((am.set 0 (Int64.ofNat v)).set 1 (Int64.ofNat (v / 10 ^ k))).set 2 (Int64.ofNat k)).set 3 (Int64.ofNat (sb_sfw k (v % 10 ^ k)))).set 4 (Int64.ofNat (v % 10 ^ k))).set 5 (Int64.ofNat (sb_sfr k (v % 10 ^ k)))).map Value.long) := by rw [e38]; exact sb_ss g34
  have g41 : A37[1]? = some (101, am_TENS.map Value.long) := by rw [e38]; exact sb_so (by omega) g35
  have f42 : sb_fr A A37 o (o + 2) := f36.set e38 g34 (by simp) (by omega) (by omega)
  refine wp_rt rfl rfl rfl ?_
  refine ⟨rfl, ⟨g39, ?_, rfl, h45⟩, f42⟩
  rw [g40, sb_six ham]
  rfl
