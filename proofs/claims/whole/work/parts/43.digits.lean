/-! Numbers, written. -/
theorem un_go {d k : Nat} {A : am_H} (hk : k < 19) (hTn : A[1]? = some (101, am_TENS.map Value.long)) : am_go d 95 [.int (Int32.ofNat k)] A (.inl (some (.long (Int64.ofNat (10 ^ k)))), A) := by
  refine wp_go ?_
  refine wp_st 1 (f' := (1, [some (.int (Int32.ofNat k))], [.int (Int32.ofNat k)], A)) rfl ?_
  refine wp_izF rfl rfl (Int32.ofNat_not_neg (by omega)) ?_
  refine wp_st 2 (f' := (8, [some (.int (Int32.ofNat k))], [.ref (1), .int (Int32.ofNat k)], A)) rfl ?_
  refine wp_ln rfl hTn rfl rfl rfl ?_
  rw [show (am_TENS.map Value.long).length = 19 from rfl]
  refine wp_ifF rfl rfl (fun q => absurd ((i32_le (a := 19) (b := k) (by omega) (by omega)).mp q) (by omega)) ?_
  refine wp_st 2 (f' := (16, [some (.int (Int32.ofNat k))], [.int (Int32.ofNat k), .ref (1)], A)) rfl ?_
  refine wp_al rfl (Or.inr (Or.inl ⟨rfl, rfl⟩)) rfl hTn (by omega) (sb_gd 0 (by show k < 19; omega)) rfl ?_
  rw [sb_tens (j := k) (by omega)]
  refine wp_st 1 (f' := (21, [some (.int (Int32.ofNat k))], [.long (Int64.ofNat (10 ^ k))], A)) rfl ?_
  refine wp_rt rfl rfl rfl ?_
  rfl
theorem op_dg_l {d u v : Nat} {s3 s6 s7 : Option Value} {z4 : Int32} {A : am_H} {Q : am_O × am_H → Prop} (hv : v < 9223372036854775808) (hTn : A[1]? = some (101, am_TENS.map Value.long)) : ∀ (k j : Nat), 19 - j = k → j ≤ 19 → am_wp d 104 (29, [some (.ref u), some (.long (Int64.ofNat v)), none, s3, some (.int z4), some (.int (Int32.ofNat (sb_nd v k j))), s6, s7], [], A) Q → am_wp d 104 (3, [some (.ref u), some (.long (Int64.ofNat v)), none, s3, some (.int z4), some (.int (Int32.ofNat (j))), s6, s7], [], A) Q := by
  intro k
  induction k with
  | zero =>
    intro j h1 h2 kk
    refine wp_st 2 (f' := (8, [some (.ref (u)), some (.long (Int64.ofNat v)), none, s3, some (.int (z4)), some (.int (Int32.ofNat j)), s6, s7], [.ref (1), .int (Int32.ofNat j)], A)) rfl ?_
    refine wp_ln rfl hTn rfl rfl rfl ?_
    rw [show (am_TENS.map Value.long).length = 19 from rfl]
    refine wp_ifT rfl rfl ((i32_le (a := 19) (b := j) (by omega) (by omega)).mpr (by omega)) ?_
    exact kk
  | succ k ih =>
    intro j h1 h2 kk
    have hp := sb_p10 (j := j) (by omega)
    refine wp_st 2 (f' := (8, [some (.ref (u)), some (.long (Int64.ofNat v)), none, s3, some (.int (z4)), some (.int (Int32.ofNat j)), s6, s7], [.ref (1), .int (Int32.ofNat j)], A)) rfl ?_
    refine wp_ln rfl hTn rfl rfl rfl ?_
    rw [show (am_TENS.map Value.long).length = 19 from rfl]
    refine wp_ifF rfl rfl (fun q => absurd ((i32_le (a := 19) (b := j) (by omega) (by omega)).mp q) (by omega)) ?_
    refine wp_st 3 (f' := (18, [some (.ref (u)), some (.long (Int64.ofNat v)), none, s3, some (.int (z4)), some (.int (Int32.ofNat j)), s6, s7], [.int (Int32.ofNat j), .ref (1), .long (Int64.ofNat v)], A)) rfl ?_
    refine wp_al rfl (Or.inr (Or.inl ⟨rfl, rfl⟩)) rfl hTn (by omega) (sb_gd 0 (by show j < 19; omega)) rfl ?_
    rw [sb_tens (j := j) (by omega)]
    refine wp_st 1 (f' := (20, [some (.ref (u)), some (.long (Int64.ofNat v)), none, s3, some (.int (z4)), some (.int (Int32.ofNat j)), s6, s7], [.int (lg_cmp (Int64.ofNat v) (Int64.ofNat (10 ^ j)))], A)) rfl ?_
    refine wp_iz rfl rfl rfl (fun (h1 : (lg_cmp (Int64.ofNat v) (Int64.ofNat (10 ^ j))) < (Int32.ofNat 0)) => ?_) (fun (h1 : ¬ ((lg_cmp (Int64.ofNat v) (Int64.ofNat (10 ^ j))) < (Int32.ofNat 0))) => ?_)
    · skip
      have h8 := (i64_lt (by omega) (by omega)).mp ((lg_cmp_lt _ _).mp h1)
      rw [sb_nd, if_neg (by omega)] at kk
      exact kk
    · skip
      refine wp_st 1 (f' := (26, [some (.ref (u)), some (.long (Int64.ofNat v)), none, s3, some (.int (z4)), some (.int ((Int32.ofNat j) + (Int32.ofNat 1))), s6, s7], [], A)) rfl ?_
      rw [i32_add (j) (1)]
      refine wp_st 1 (f' := (3, [some (.ref (u)), some (.long (Int64.ofNat v)), none, s3, some (.int (z4)), some (.int (Int32.ofNat (j + 1))), s6, s7], [], A)) rfl ?_
      have h8 : 10 ^ j ≤ v := Nat.not_lt.mp (fun q => h1 ((lg_cmp_lt _ _).mpr ((i64_lt (by omega) (by omega)).mpr q)))
      rw [sb_nd, if_pos h8] at kk
      exact ih (j + 1) (by omega) (by omega) kk
theorem op_ds_x {d u v : Nat} {g : Bool} {s3 : Option Value} {z5 : Int32} {c x7 : Int32} {A : am_H} {Q : am_O × am_H → Prop} (hc : c ≠ 0) (hTn : A[1]? = some (101, am_TENS.map Value.long)) (q : Q (.inl (some (.int c)), A)) : am_wp d 104 (38, [some (.ref u), some (.long (Int64.ofNat v)), none, s3, some (.int (sb_i g)), some (.int z5), some (.int c), some (.int x7)], [], A) Q := by
  refine wp_st 1 (f' := (40, [some (.ref (u)), some (.long (Int64.ofNat v)), none, s3, some (.int (sb_i g)), some (.int (z5)), some (.int (c)), some (.int (x7))], [.int (x7)], A)) rfl ?_
  refine wp_iz rfl rfl rfl (fun (h1 : x7 < (Int32.ofNat 0)) => ?_) (fun (h1 : ¬ (x7 < (Int32.ofNat 0))) => ?_)
  · skip
    refine wp_st 1 (f' := (117, [some (.ref (u)), some (.long (Int64.ofNat v)), none, s3, some (.int (sb_i g)), some (.int (z5)), some (.int (c)), some (.int (x7))], [.int (c)], A)) rfl ?_
    refine wp_rt rfl rfl rfl ?_
    exact q
  · skip
    refine wp_st 2 (f' := (48, [some (.ref (u)), some (.long (Int64.ofNat v)), none, s3, some (.int (sb_i g)), some (.int (z5)), some (.int (c)), some (.int (x7))], [.ref (1), .int (x7)], A)) rfl ?_
    refine wp_ln rfl hTn rfl rfl rfl ?_
    rw [show (am_TENS.map Value.long).length = 19 from rfl]
    refine wp_if rfl rfl rfl (fun (h2 : (Int32.ofNat 19) ≤ x7) => ?_) (fun (h2 : ¬ ((Int32.ofNat 19) ≤ x7)) => ?_)
    · skip
      refine wp_st 1 (f' := (117, [some (.ref (u)), some (.long (Int64.ofNat v)), none, s3, some (.int (sb_i g)), some (.int (z5)), some (.int (c)), some (.int (x7))], [.int (c)], A)) rfl ?_
      refine wp_rt rfl rfl rfl ?_
      exact q
    · skip
      refine wp_st 1 (f' := (54, [some (.ref (u)), some (.long (Int64.ofNat v)), none, s3, some (.int (sb_i g)), some (.int (z5)), some (.int (c)), some (.int (x7))], [.int (c)], A)) rfl ?_
      refine wp_izT rfl rfl (hc) ?_
      refine wp_st 1 (f' := (117, [some (.ref (u)), some (.long (Int64.ofNat v)), none, s3, some (.int (sb_i g)), some (.int (z5)), some (.int (c)), some (.int (x7))], [.int (c)], A)) rfl ?_
      refine wp_rt rfl rfl rfl ?_
      exact q
theorem op_ds_l {d u v : Nat} {g : Bool} {s3 : Option Value} {z5 : Int32} (hd : 1 ≤ d) (hv : v < 9223372036854775808) : ∀ (k : Nat) (w : List Nat) (A : am_H), k ≤ 19 → sb_O A u w → A[1]? = some (101, am_TENS.map Value.long) → am_wp d 104 (38, [some (.ref u), some (.long (Int64.ofNat v)), none, s3, some (.int (sb_i g)), some (.int z5), some (.int 0), some (.int (sb_k1 k))], [], A) (fun q => ∃ c w', q.1 = .inl (some (.int c)) ∧ sb_res w (sb_ds v g k) c w' ∧ sb_O q.2 u w' ∧ sb_fr A q.2 u (u + 2)) := by
  intro k
  induction k with
  | zero =>
    intro w A hk h hTn
    have hh := h
    obtain ⟨cs, q0, q1, hl, hw, hk, h45⟩ := h
    unfold sb_oc at q0
    refine wp_st 1 (f' := (40, [some (.ref (u)), some (.long (Int64.ofNat v)), none, s3, some (.int (sb_i g)), some (.int (z5)), some (.int (Int32.ofNat 0)), some (.int (sb_k1 0))], [.int (sb_k1 0)], A)) rfl ?_
    refine wp_izT rfl rfl (sb_k1_z) ?_
    refine wp_st 1 (f' := (117, [some (.ref (u)), some (.long (Int64.ofNat v)), none, s3, some (.int (sb_i g)), some (.int (z5)), some (.int (Int32.ofNat 0)), some (.int (sb_k1 0))], [.int (Int32.ofNat 0)], A)) rfl ?_
    refine wp_rt rfl rfl rfl ?_
    exact ⟨0, w, rfl, sb_res.nil w hw, hh, sb_fr.refl ..⟩
  | succ k ih =>
    intro w A hk4 h hTn
    have hh := h
    obtain ⟨cs, q0, q1, hl, hw, hk, h45⟩ := h
    unfold sb_oc at q0
    rw [sb_k1_s]
    have hp := sb_p10 (j := k) (by omega)
    have hdv : v / 10 ^ k ≤ v := Nat.div_le_self ..
    obtain ⟨e, he⟩ : ∃ e, e = v / 10 ^ k := ⟨_, rfl⟩
    rw [← he] at hdv
    have hm10 : e % 10 < 10 := Nat.mod_lt _ (by decide)
    obtain ⟨f, hf⟩ : ∃ f, f = e % 10 := ⟨_, rfl⟩
    rw [← hf] at hm10
    refine wp_st 1 (f' := (40, [some (.ref (u)), some (.long (Int64.ofNat v)), none, s3, some (.int (sb_i g)), some (.int (z5)), some (.int (Int32.ofNat 0)), some (.int (Int32.ofNat k))], [.int (Int32.ofNat k)], A)) rfl ?_
    refine wp_izF rfl rfl (Int32.ofNat_not_neg (by omega)) ?_
    refine wp_st 2 (f' := (48, [some (.ref (u)), some (.long (Int64.ofNat v)), none, s3, some (.int (sb_i g)), some (.int (z5)), some (.int (Int32.ofNat 0)), some (.int (Int32.ofNat k))], [.ref (1), .int (Int32.ofNat k)], A)) rfl ?_
    refine wp_ln rfl hTn rfl rfl rfl ?_
    rw [show (am_TENS.map Value.long).length = 19 from rfl]
    refine wp_ifF rfl rfl (fun q => absurd ((i32_le (a := 19) (b := k) (by omega) (by omega)).mp q) (by omega)) ?_
    refine wp_st 1 (f' := (54, [some (.ref (u)), some (.long (Int64.ofNat v)), none, s3, some (.int (sb_i g)), some (.int (z5)), some (.int (Int32.ofNat 0)), some (.int (Int32.ofNat k))], [.int (Int32.ofNat 0)], A)) rfl ?_
    refine wp_izF rfl rfl (by show ¬ ((0 : Int32) ≠ 0); decide) ?_
    refine wp_st 4 (f' := (64, [some (.ref (u)), some (.long (Int64.ofNat v)), none, s3, some (.int (sb_i g)), some (.int (z5)), some (.int (Int32.ofNat 0)), some (.int (Int32.ofNat k))], [.int (Int32.ofNat k), .ref (1), .long (Int64.ofNat v), .ref (u)], A)) rfl ?_
    refine wp_al rfl (Or.inr (Or.inl ⟨rfl, rfl⟩)) rfl hTn (by omega) (sb_gd 0 (by show k < 19; omega)) rfl ?_
    rw [sb_tens (j := k) (by omega)]
    refine wp_dv rfl (fun q => by have y := (i64_eq (a := 10 ^ k) (b := 0) (by omega) (by omega)).mp q; omega) rfl ?_
    rw [i64_div (a := v) (b := 10 ^ k) (by omega) (by omega), ← he]
    refine wp_st 1 (f' := (69, [some (.ref (u)), some (.long (Int64.ofNat v)), none, s3, some (.int (sb_i g)), some (.int (z5)), some (.int (Int32.ofNat 0)), some (.int (Int32.ofNat k))], [.long ((10)), .long (Int64.ofNat e), .ref (u)], A)) rfl ?_
    refine wp_lr rfl (by decide) rfl ?_
    rw [show Int64.ofNat e - Int64.ofNat e / (10) * (10) = Int64.ofNat f from by rw [hf]; exact i64_rem (a := e) (b := 10) (by omega) (by omega)]
    refine wp_st 1 (f' := (71, [some (.ref (u)), some (.long (Int64.ofNat v)), none, s3, some (.int (sb_i g)), some (.int (z5)), some (.int (Int32.ofNat 0)), some (.int (Int32.ofNat k))], [.int ((Int64.ofNat f).toInt32), .ref (u)], A)) rfl ?_
    rw [i64_i32]
    refine wp_st 2 (f' := (74, [some (.ref (u)), some (.long (Int64.ofNat v)), none, s3, some (.int (sb_i g)), some (.int (z5)), some (.int (Int32.ofNat 0)), some (.int (Int32.ofNat k))], [.int ((Int32.ofNat f) + (Int32.ofNat 48)), .ref (u)], A)) rfl ?_
    rw [i32_add (f) (48)]
    obtain ⟨B1, c1, w1, go1, rs1, O1, fr1⟩ := op_put (d := d - 1) (x := f + 48) (by omega) hh
    have P1 := O1
    obtain ⟨cs1, q01, q11, hl1, hw1, hk1, h451⟩ := O1
    unfold sb_oc at q01
    have hT1 : B1[1]? = some (101, am_TENS.map Value.long) := fr1.at (Or.inl (by omega)) hTn
    refine wp_cv (A' := B1) (v := some (.int (c1))) rfl rfl rfl rfl rfl q0 (by omega) (go1) rfl ?_
    show am_wp d 104 (77, [some (.ref (u)), some (.long (Int64.ofNat v)), none, s3, some (.int (sb_i g)), some (.int (z5)), some (.int (Int32.ofNat 0)), some (.int (Int32.ofNat k))], [.int (c1)], B1) _
    refine wp_st 2 (f' := (81, [some (.ref (u)), some (.long (Int64.ofNat v)), none, s3, some (.int (sb_i g)), some (.int (z5)), some (.int (c1)), some (.int (Int32.ofNat k))], [.int (sb_i g)], B1)) rfl ?_
    refine wp_iz rfl rfl rfl (fun (h1 : (sb_i g) = (Int32.ofNat 0)) => ?_) (fun (h1 : ¬ ((sb_i g) = (Int32.ofNat 0))) => ?_)
    · skip
      refine wp_st 2 (f' := (38, [some (.ref (u)), some (.long (Int64.ofNat v)), none, s3, some (.int (sb_i g)), some (.int (z5)), some (.int (c1)), some (.int ((Int32.ofNat k) + (-1)))], [], B1)) rfl ?_
      rw [sb_ds, ← he, ← hf]
      rw [if_neg (fun q => by have y := sb_i_z h1; rw [y] at q; cases q.1)]
      by_cases hc9 : c1 = 0
      · obtain ⟨z, z1, c9, w9, z2, z3, z4, z5⟩ := ih w1 B1 (by omega) P1 hT1
        rw [hc9]
        exact ⟨z, z1, c9, w9, z2, (show sb_res w [f + 48] 0 w1 by rw [← hc9]; exact rs1).app z3, z4, fr1.trans z5⟩
      · refine op_ds_x hc9 hT1 ⟨c1, w1, rfl, ?_, P1, fr1⟩
        have z := rs1.full (l' := sb_ds v g k) hc9
        rcases rs1 with ⟨-, y, -⟩ | ⟨-, y⟩
        · exact absurd y hc9
        · rw [y]; exact z
    · skip
      refine wp_st 1 (f' := (86, [some (.ref (u)), some (.long (Int64.ofNat v)), none, s3, some (.int (sb_i g)), some (.int (z5)), some (.int (c1)), some (.int (Int32.ofNat k))], [.int (Int32.ofNat k)], B1)) rfl ?_
      refine wp_iz rfl rfl rfl (fun (h2 : (Int32.ofNat k) ≤ (Int32.ofNat 0)) => ?_) (fun (h2 : ¬ ((Int32.ofNat k) ≤ (Int32.ofNat 0))) => ?_)
      · skip
        rw [i32_le (by omega) (by omega)] at h2
        refine wp_st 2 (f' := (38, [some (.ref (u)), some (.long (Int64.ofNat v)), none, s3, some (.int (sb_i g)), some (.int (z5)), some (.int (c1)), some (.int ((Int32.ofNat k) + (-1)))], [], B1)) rfl ?_
        rw [sb_ds, ← he, ← hf]
        rw [if_neg (fun q => by omega)]
        by_cases hc9 : c1 = 0
        · obtain ⟨z, z1, c9, w9, z2, z3, z4, z5⟩ := ih w1 B1 (by omega) P1 hT1
          rw [hc9]
          exact ⟨z, z1, c9, w9, z2, (show sb_res w [f + 48] 0 w1 by rw [← hc9]; exact rs1).app z3, z4, fr1.trans z5⟩
        · refine op_ds_x hc9 hT1 ⟨c1, w1, rfl, ?_, P1, fr1⟩
          have z := rs1.full (l' := sb_ds v g k) hc9
          rcases rs1 with ⟨-, y, -⟩ | ⟨-, y⟩
          · exact absurd y hc9
          · rw [y]; exact z
      · skip
        rw [i32_le (by omega) (by omega)] at h2
        refine wp_st 3 (f' := (93, [some (.ref (u)), some (.long (Int64.ofNat v)), none, s3, some (.int (sb_i g)), some (.int (z5)), some (.int (c1)), some (.int (Int32.ofNat k))], [.int ((Int32.ofNat k) - (Int32.ofNat k) / (Int32.ofNat 3) * (Int32.ofNat 3))], B1)) rfl ?_
        rw [i32_rem3 (k := k) (by omega)]
        refine wp_iz rfl rfl rfl (fun (h3 : (Int32.ofNat (k % 3)) ≠ (Int32.ofNat 0)) => ?_) (fun (h3 : ¬ ((Int32.ofNat (k % 3)) ≠ (Int32.ofNat 0))) => ?_)
        · skip
          rw [ne_eq, i32_eq (by omega) (by omega)] at h3
          refine wp_st 2 (f' := (38, [some (.ref (u)), some (.long (Int64.ofNat v)), none, s3, some (.int (sb_i g)), some (.int (z5)), some (.int (c1)), some (.int ((Int32.ofNat k) + (-1)))], [], B1)) rfl ?_
          rw [sb_ds, ← he, ← hf]
          rw [if_neg (fun q => by omega)]
          by_cases hc9 : c1 = 0
          · obtain ⟨z, z1, c9, w9, z2, z3, z4, z5⟩ := ih w1 B1 (by omega) P1 hT1
            rw [hc9]
            exact ⟨z, z1, c9, w9, z2, (show sb_res w [f + 48] 0 w1 by rw [← hc9]; exact rs1).app z3, z4, fr1.trans z5⟩
          · refine op_ds_x hc9 hT1 ⟨c1, w1, rfl, ?_, P1, fr1⟩
            have z := rs1.full (l' := sb_ds v g k) hc9
            rcases rs1 with ⟨-, y, -⟩ | ⟨-, y⟩
            · exact absurd y hc9
            · rw [y]; exact z
        · skip
          rw [ne_eq, i32_eq (by omega) (by omega)] at h3
          refine wp_st 1 (f' := (98, [some (.ref (u)), some (.long (Int64.ofNat v)), none, s3, some (.int (sb_i g)), some (.int (z5)), some (.int (c1)), some (.int (Int32.ofNat k))], [.int (c1)], B1)) rfl ?_
          refine wp_iz rfl rfl rfl (fun (h4 : c1 ≠ (Int32.ofNat 0)) => ?_) (fun (h4 : ¬ (c1 ≠ (Int32.ofNat 0))) => ?_)
          · skip
            refine wp_st 2 (f' := (38, [some (.ref (u)), some (.long (Int64.ofNat v)), none, s3, some (.int (sb_i g)), some (.int (z5)), some (.int (c1)), some (.int ((Int32.ofNat k) + (-1)))], [], B1)) rfl ?_
            rw [sb_ds, ← he, ← hf]
            refine op_ds_x h4 hT1 ⟨c1, w1, rfl, ?_, P1, fr1⟩
            have z := rs1.full (l' := (if g = true ∧ 0 < k ∧ k % 3 = 0 then 44 :: sb_ds v g k else sb_ds v g k)) h4
            rcases rs1 with ⟨-, y, -⟩ | ⟨-, y⟩
            · exact absurd y h4
            · rw [y]; exact z
          · skip
            have hc1z : c1 = 0 := Decidable.not_not.mp h4
            refine wp_st 2 (f' := (104, [some (.ref (u)), some (.long (Int64.ofNat v)), none, s3, some (.int (sb_i g)), some (.int (z5)), some (.int (c1)), some (.int (Int32.ofNat k))], [.int (Int32.ofNat 44), .ref (u)], B1)) rfl ?_
            obtain ⟨B2, c2, w2, go2, rs2, O2, fr2⟩ := op_put (d := d - 1) (x := 44) (by omega) P1
            have P2 := O2
            obtain ⟨cs2, q02, q12, hl2, hw2, hk2, h452⟩ := O2
            unfold sb_oc at q02
            have hT2 : B2[1]? = some (101, am_TENS.map Value.long) := fr2.at (Or.inl (by omega)) hT1
            refine wp_cv (A' := B2) (v := some (.int (c2))) rfl rfl rfl rfl rfl q01 (by omega) (go2) rfl ?_
            show am_wp d 104 (107, [some (.ref (u)), some (.long (Int64.ofNat v)), none, s3, some (.int (sb_i g)), some (.int (z5)), some (.int (c1)), some (.int (Int32.ofNat k))], [.int (c2)], B2) _
            refine wp_st 3 (f' := (38, [some (.ref (u)), some (.long (Int64.ofNat v)), none, s3, some (.int (sb_i g)), some (.int (z5)), some (.int (c2)), some (.int ((Int32.ofNat k) + (-1)))], [], B2)) rfl ?_
            rw [sb_ds, ← he, ← hf]
            rw [if_pos ⟨sb_i_nz h1, by omega, by omega⟩]
            by_cases hc9 : c2 = 0
            · obtain ⟨z, z1, c9, w9, z2, z3, z4, z5⟩ := ih w2 B2 (by omega) P2 hT2
              rw [hc9]
              exact ⟨z, z1, c9, w9, z2, (show sb_res w [f + 48] 0 w1 by rw [← hc1z]; exact rs1).app ((show sb_res w1 [44] 0 w2 by rw [← hc9]; exact rs2).app z3), z4, fr1.trans (fr2.trans z5)⟩
            · refine op_ds_x hc9 hT2 ⟨c2, w2, rfl, ?_, P2, fr1.trans fr2⟩
              have z := rs2.full (l' := sb_ds v g k) hc9
              rcases rs2 with ⟨-, y, -⟩ | ⟨-, y⟩
              · exact absurd y hc9
              · rw [y]; exact (show sb_res w [f + 48] 0 w1 by rw [← hc1z]; exact rs1).app z
theorem op_dig {d u v fw : Nat} {g : Bool} {w : List Nat} {A : am_H} (hd : 1 ≤ d) (hv : v < 9223372036854775808) (h1 : 1 ≤ fw) (h2 : fw ≤ 19) (h : sb_O A u w) (hTn : A[1]? = some (101, am_TENS.map Value.long)) : sb_wrt d 104 [.ref u, .long (Int64.ofNat v), .int (Int32.ofNat fw), .int (sb_i g)] A u w (sb_ds v g (sb_nd v (19 - fw) fw)) := by
  have hh := h
  obtain ⟨cs, q0, q1, hl, hw, hk, h45⟩ := h
  unfold sb_oc at q0
  refine wp_goC ?_
  refine wp_st 2 (f' := (3, [some (.ref (u)), some (.long (Int64.ofNat v)), none, some (.int (Int32.ofNat fw)), some (.int (sb_i g)), some (.int (Int32.ofNat fw)), none, none], [], A)) rfl ?_
  have hle := sb_nd_le v (19 - fw) fw
  refine op_dg_l hv hTn (19 - fw) fw rfl (by omega) ?_
  refine wp_st 5 (f' := (36, [some (.ref (u)), some (.long (Int64.ofNat v)), none, some (.int (Int32.ofNat fw)), some (.int (sb_i g)), some (.int (Int32.ofNat (sb_nd v (19 - fw) fw))), some (.int (Int32.ofNat 0)), none], [.int ((Int32.ofNat (sb_nd v (19 - fw) fw)) - (Int32.ofNat 1))], A)) rfl ?_
  rw [i32_sub (a := sb_nd v (19 - fw) fw) (b := 1) (by omega)]
  refine wp_st 1 (f' := (38, [some (.ref (u)), some (.long (Int64.ofNat v)), none, some (.int (Int32.ofNat fw)), some (.int (sb_i g)), some (.int (Int32.ofNat (sb_nd v (19 - fw) fw))), some (.int (Int32.ofNat 0)), some (.int (Int32.ofNat ((sb_nd v (19 - fw) fw) - 1)))], [], A)) rfl ?_
  have h9 := op_ds_l (s3 := some (.int (Int32.ofNat fw))) (z5 := Int32.ofNat (sb_nd v (19 - fw) fw)) (g := g) hd hv (sb_nd v (19 - fw) fw) w A (by omega) hh hTn
  rw [show sb_k1 (sb_nd v (19 - fw) fw) = Int32.ofNat (sb_nd v (19 - fw) fw - 1) from by obtain ⟨j, hj⟩ : ∃ j, sb_nd v (19 - fw) fw = j + 1 := ⟨sb_nd v (19 - fw) fw - 1, by omega⟩; rw [hj, sb_k1_s]; rfl] at h9
  exact h9
def sb_nm (v k : Nat) (g : Bool) : List Nat := sb_ds (v / 10 ^ k) g (sb_nd (v / 10 ^ k) 18 1) ++ (if 0 < k then [46] ++ sb_ds (v % 10 ^ k) false (sb_nd (v % 10 ^ k) (19 - k) k) else [])
theorem sb_res_z {w l w' : List Nat} {c : Int32} (h : sb_res w l c w') (hc : c = 0) : sb_res w l 0 w' := by rw [← hc]; exact h
theorem sb_res3 {w l w' : List Nat} {c : Int32} (h : sb_res w l c w') (hc : c ≠ 0) : c = 3 := by
  rcases h with ⟨-, h, -⟩ | ⟨-, h⟩
  · exact absurd h hc
  · exact h
theorem op_num {d u v k : Nat} {g : Bool} {w : List Nat} {A : am_H} (hd : 3 ≤ d) (hv : v < 9223372036854775808) (hkk : k ≤ 6) (h : sb_O A u w) (hTn : A[1]? = some (101, am_TENS.map Value.long)) : sb_wrt d 103 [.ref u, .long (Int64.ofNat v), .int (Int32.ofNat k), .int (sb_i g)] A u w (sb_nm v k g) := by
  have hh := h
  obtain ⟨cs, q0, q1, hl, hw, hk, h45⟩ := h
  unfold sb_oc at q0
  have hp := sb_p10 (j := k) (by omega)
  have hdv : v / 10 ^ k ≤ v := Nat.div_le_self ..
  have hmd : v % 10 ^ k ≤ v := Nat.mod_le ..
  have hpos : Int64.ofNat 0 ≤ Int64.ofNat v := (i64_le (by omega) (by omega)).mpr (by omega)
  refine wp_goC ?_
  refine wp_st 3 (f' := (3, [some (.ref (u)), some (.long (Int64.ofNat v)), none, some (.int (Int32.ofNat k)), some (.int (sb_i g)), none, none, none, none, none], [.int (lg_cmp (Int64.ofNat v) (Int64.ofNat 0))], A)) rfl ?_
  refine wp_izT rfl rfl ((lg_cmp_ge _ _).mpr hpos) ?_
  refine wp_st 4 (f' := (16, [some (.ref (u)), some (.long (Int64.ofNat v)), none, some (.int (Int32.ofNat k)), some (.int (sb_i g)), some (.long (Int64.ofNat v)), none, none, none, none], [.int (Int32.ofNat k), .long (Int64.ofNat 1)], A)) rfl ?_
  refine wp_cs (n := 0) (A' := A) (v := some (.long (Int64.ofNat (10 ^ k)))) rfl rfl rfl (by omega) (un_go (by omega) hTn) rfl ?_
  show am_wp d 103 (19, [some (.ref (u)), some (.long (Int64.ofNat v)), none, some (.int (Int32.ofNat k)), some (.int (sb_i g)), some (.long (Int64.ofNat v)), none, none, none, none], [.long (Int64.ofNat (10 ^ k)), .long (Int64.ofNat 1)], A) _
  refine wp_mx rfl rfl (by omega) rfl rfl ?_
  rw [if_neg (fun q => by have y := (i64_lt (a := 10 ^ k) (b := 1) (by omega) (by omega)).mp q; omega)]
  refine wp_st 4 (f' := (27, [some (.ref (u)), some (.long (Int64.ofNat v)), none, some (.int (Int32.ofNat k)), some (.int (sb_i g)), some (.long (Int64.ofNat v)), none, some (.long (Int64.ofNat (10 ^ k))), none, none], [.int (lg_cmp (Int64.ofNat v) (Int64.ofNat 0))], A)) rfl ?_
  refine wp_izT rfl rfl ((lg_cmp_ge _ _).mpr hpos) ?_
  refine wp_st 3 (f' := (44, [some (.ref (u)), some (.long (Int64.ofNat v)), none, some (.int (Int32.ofNat k)), some (.int (sb_i g)), some (.long (Int64.ofNat v)), none, some (.long (Int64.ofNat (10 ^ k))), none, some (.int (Int32.ofNat 0))], [.int (Int32.ofNat 0)], A)) rfl ?_
  refine wp_izF rfl rfl (by show ¬ ((0 : Int32) ≠ 0); decide) ?_
  refine wp_st 3 (f' := (52, [some (.ref (u)), some (.long (Int64.ofNat v)), none, some (.int (Int32.ofNat k)), some (.int (sb_i g)), some (.long (Int64.ofNat v)), none, some (.long (Int64.ofNat (10 ^ k))), none, some (.int (Int32.ofNat 0))], [.long (Int64.ofNat (10 ^ k)), .long (Int64.ofNat v), .ref (u)], A)) rfl ?_
  refine wp_dv rfl (fun q => by have y := (i64_eq (a := 10 ^ k) (b := 0) (by omega) (by omega)).mp q; omega) rfl ?_
  rw [i64_div (a := v) (b := 10 ^ k) (by omega) (by omega)]
  refine wp_st 2 (f' := (56, [some (.ref (u)), some (.long (Int64.ofNat v)), none, some (.int (Int32.ofNat k)), some (.int (sb_i g)), some (.long (Int64.ofNat v)), none, some (.long (Int64.ofNat (10 ^ k))), none, some (.int (Int32.ofNat 0))], [.int (sb_i g), .int (Int32.ofNat 1), .long (Int64.ofNat (v / 10 ^ k)), .ref (u)], A)) rfl ?_
  obtain ⟨B1, c1, w1, go1, rs1, O1, fr1⟩ := op_dig (d := d - 1) (v := v / 10 ^ k) (fw := 1) (g := g) (by omega) (by omega) (by omega) (by omega) hh hTn
  have P1 := O1
  obtain ⟨cs1, q01, q11, hl1, hw1, hk1, h451⟩ := O1
  unfold sb_oc at q01
  have hT1 : B1[1]? = some (101, am_TENS.map Value.long) := fr1.at (Or.inl (by omega)) hTn
  refine wp_cv (A' := B1) (v := some (.int (c1))) rfl rfl rfl rfl rfl q0 (by omega) (go1) rfl ?_
  show am_wp d 103 (59, [some (.ref (u)), some (.long (Int64.ofNat v)), none, some (.int (Int32.ofNat k)), some (.int (sb_i g)), some (.long (Int64.ofNat v)), none, some (.long (Int64.ofNat (10 ^ k))), none, some (.int (Int32.ofNat 0))], [.int (c1)], B1) _
  refine wp_st 2 (f' := (63, [some (.ref (u)), some (.long (Int64.ofNat v)), none, some (.int (Int32.ofNat k)), some (.int (sb_i g)), some (.long (Int64.ofNat v)), none, some (.long (Int64.ofNat (10 ^ k))), none, some (.int (c1))], [.int (c1)], B1)) rfl ?_
  refine wp_iz rfl rfl rfl (fun (h1 : c1 ≠ (Int32.ofNat 0)) => ?_) (fun (h1 : ¬ (c1 ≠ (Int32.ofNat 0))) => ?_)
  · skip
    refine wp_st 1 (f' := (98, [some (.ref (u)), some (.long (Int64.ofNat v)), none, some (.int (Int32.ofNat k)), some (.int (sb_i g)), some (.long (Int64.ofNat v)), none, some (.long (Int64.ofNat (10 ^ k))), none, some (.int (c1))], [.int (c1)], B1)) rfl ?_
    refine wp_rt rfl rfl rfl ?_
    refine ⟨c1, w1, rfl, ?_, P1, fr1⟩
    rw [sb_res3 rs1 h1]
    exact rs1.full (l' := (if 0 < k then [46] ++ sb_ds (v % 10 ^ k) false (sb_nd (v % 10 ^ k) (19 - k) k) else [])) h1
  · skip
    refine wp_st 1 (f' := (67, [some (.ref (u)), some (.long (Int64.ofNat v)), none, some (.int (Int32.ofNat k)), some (.int (sb_i g)), some (.long (Int64.ofNat v)), none, some (.long (Int64.ofNat (10 ^ k))), none, some (.int (c1))], [.int (Int32.ofNat k)], B1)) rfl ?_
    refine wp_iz rfl rfl rfl (fun (h2 : (Int32.ofNat k) ≤ (Int32.ofNat 0)) => ?_) (fun (h2 : ¬ ((Int32.ofNat k) ≤ (Int32.ofNat 0))) => ?_)
    · skip
      rw [i32_le (by omega) (by omega)] at h2
      refine wp_st 1 (f' := (98, [some (.ref (u)), some (.long (Int64.ofNat v)), none, some (.int (Int32.ofNat k)), some (.int (sb_i g)), some (.long (Int64.ofNat v)), none, some (.long (Int64.ofNat (10 ^ k))), none, some (.int (c1))], [.int (c1)], B1)) rfl ?_
      refine wp_rt rfl rfl rfl ?_
      refine ⟨c1, w1, rfl, ?_, P1, fr1⟩
      rw [sb_nm, if_neg (by omega), List.append_nil, Decidable.not_not.mp h1]
      exact (sb_res_z rs1 (Decidable.not_not.mp h1))
    · skip
      rw [i32_le (by omega) (by omega)] at h2
      refine wp_st 2 (f' := (73, [some (.ref (u)), some (.long (Int64.ofNat v)), none, some (.int (Int32.ofNat k)), some (.int (sb_i g)), some (.long (Int64.ofNat v)), none, some (.long (Int64.ofNat (10 ^ k))), none, some (.int (c1))], [.int (Int32.ofNat 46), .ref (u)], B1)) rfl ?_
      obtain ⟨B2, c2, w2, go2, rs2, O2, fr2⟩ := op_put (d := d - 1) (x := 46) (by omega) P1
      have P2 := O2
      obtain ⟨cs2, q02, q12, hl2, hw2, hk2, h452⟩ := O2
      unfold sb_oc at q02
      have hT2 : B2[1]? = some (101, am_TENS.map Value.long) := fr2.at (Or.inl (by omega)) hT1
      refine wp_cv (A' := B2) (v := some (.int (c2))) rfl rfl rfl rfl rfl q01 (by omega) (go2) rfl ?_
      show am_wp d 103 (76, [some (.ref (u)), some (.long (Int64.ofNat v)), none, some (.int (Int32.ofNat k)), some (.int (sb_i g)), some (.long (Int64.ofNat v)), none, some (.long (Int64.ofNat (10 ^ k))), none, some (.int (c1))], [.int (c2)], B2) _
      refine wp_st 2 (f' := (80, [some (.ref (u)), some (.long (Int64.ofNat v)), none, some (.int (Int32.ofNat k)), some (.int (sb_i g)), some (.long (Int64.ofNat v)), none, some (.long (Int64.ofNat (10 ^ k))), none, some (.int (c2))], [.int (c2)], B2)) rfl ?_
      refine wp_iz rfl rfl rfl (fun (h3 : c2 ≠ (Int32.ofNat 0)) => ?_) (fun (h3 : ¬ (c2 ≠ (Int32.ofNat 0))) => ?_)
      · skip
        refine wp_st 1 (f' := (98, [some (.ref (u)), some (.long (Int64.ofNat v)), none, some (.int (Int32.ofNat k)), some (.int (sb_i g)), some (.long (Int64.ofNat v)), none, some (.long (Int64.ofNat (10 ^ k))), none, some (.int (c2))], [.int (c2)], B2)) rfl ?_
        refine wp_rt rfl rfl rfl ?_
        refine ⟨c2, w2, rfl, ?_, P2, fr1.trans fr2⟩
        rw [sb_res3 rs2 h3]
        rw [sb_nm, if_pos (by omega)]
        exact (sb_res_z rs1 (Decidable.not_not.mp h1)).app (rs2.full (l' := sb_ds (v % 10 ^ k) false (sb_nd (v % 10 ^ k) (19 - k) k)) h3)
      · skip
        refine wp_st 3 (f' := (88, [some (.ref (u)), some (.long (Int64.ofNat v)), none, some (.int (Int32.ofNat k)), some (.int (sb_i g)), some (.long (Int64.ofNat v)), none, some (.long (Int64.ofNat (10 ^ k))), none, some (.int (c2))], [.long (Int64.ofNat (10 ^ k)), .long (Int64.ofNat v), .ref (u)], B2)) rfl ?_
        refine wp_lr rfl (fun q => by have y := (i64_eq (a := 10 ^ k) (b := 0) (by omega) (by omega)).mp q; omega) rfl ?_
        rw [i64_rem (a := v) (b := 10 ^ k) (by omega) (by omega)]
        refine wp_st 2 (f' := (91, [some (.ref (u)), some (.long (Int64.ofNat v)), none, some (.int (Int32.ofNat k)), some (.int (sb_i g)), some (.long (Int64.ofNat v)), none, some (.long (Int64.ofNat (10 ^ k))), none, some (.int (c2))], [.int (Int32.ofNat 0), .int (Int32.ofNat k), .long (Int64.ofNat (v % 10 ^ k)), .ref (u)], B2)) rfl ?_
        obtain ⟨B3, c3, w3, go3, rs3, O3, fr3⟩ := op_dig (d := d - 1) (v := v % 10 ^ k) (fw := k) (g := false) (by omega) (by omega) (by omega) (by omega) P2 hT2
        have P3 := O3
        obtain ⟨cs3, q03, q13, hl3, hw3, hk3, h453⟩ := O3
        unfold sb_oc at q03
        have hT3 : B3[1]? = some (101, am_TENS.map Value.long) := fr3.at (Or.inl (by omega)) hT2
        refine wp_cv (A' := B3) (v := some (.int (c3))) rfl rfl rfl rfl rfl q02 (by omega) (go3) rfl ?_
        show am_wp d 103 (94, [some (.ref (u)), some (.long (Int64.ofNat v)), none, some (.int (Int32.ofNat k)), some (.int (sb_i g)), some (.long (Int64.ofNat v)), none, some (.long (Int64.ofNat (10 ^ k))), none, some (.int (c2))], [.int (c3)], B3) _
        refine wp_st 2 (f' := (98, [some (.ref (u)), some (.long (Int64.ofNat v)), none, some (.int (Int32.ofNat k)), some (.int (sb_i g)), some (.long (Int64.ofNat v)), none, some (.long (Int64.ofNat (10 ^ k))), none, some (.int (c3))], [.int (c3)], B3)) rfl ?_
        refine wp_rt rfl rfl rfl ?_
        refine ⟨c3, w3, rfl, ?_, P3, (fr1.trans fr2).trans fr3⟩
        rw [sb_nm, if_pos (by omega)]
        exact (sb_res_z rs1 (Decidable.not_not.mp h1)).app ((sb_res_z rs2 (Decidable.not_not.mp h3)).app (rs3))
theorem op_numn {d u v k : Nat} {g : Bool} {w : List Nat} {A : am_H} (hd : 3 ≤ d) (hv0 : 0 < v) (hv : v < 9223372036854775808) (hkk : k ≤ 6) (h : sb_O A u w) (hTn : A[1]? = some (101, am_TENS.map Value.long)) : sb_wrt d 103 [.ref u, .long (-Int64.ofNat v), .int (Int32.ofNat k), .int (sb_i g)] A u w ([45] ++ sb_nm v k g) := by
  have hh := h
  obtain ⟨cs, q0, q1, hl, hw, hk, h45⟩ := h
  unfold sb_oc at q0
  have hp := sb_p10 (j := k) (by omega)
  have hdv : v / 10 ^ k ≤ v := Nat.div_le_self ..
  have hmd : v % 10 ^ k ≤ v := Nat.mod_le ..
  have hneg : ¬ Int64.ofNat 0 ≤ -Int64.ofNat v := i64_neg hv0 hv
  refine wp_goC ?_
  refine wp_st 3 (f' := (3, [some (.ref (u)), some (.long (-Int64.ofNat v)), none, some (.int (Int32.ofNat k)), some (.int (sb_i g)), none, none, none, none, none], [.int (lg_cmp (-Int64.ofNat v) (Int64.ofNat 0))], A)) rfl ?_
  refine wp_izF rfl rfl (fun q => absurd ((lg_cmp_ge _ _).mp q) hneg) ?_
  refine wp_st 2 (f' := (8, [some (.ref (u)), some (.long (-Int64.ofNat v)), none, some (.int (Int32.ofNat k)), some (.int (sb_i g)), none, none, none, none, none], [.long (-(-Int64.ofNat v))], A)) rfl ?_
  rw [Int64.neg_neg]
  refine wp_st 4 (f' := (16, [some (.ref (u)), some (.long (-Int64.ofNat v)), none, some (.int (Int32.ofNat k)), some (.int (sb_i g)), some (.long (Int64.ofNat v)), none, none, none, none], [.int (Int32.ofNat k), .long (Int64.ofNat 1)], A)) rfl ?_
  refine wp_cs (n := 0) (A' := A) (v := some (.long (Int64.ofNat (10 ^ k)))) rfl rfl rfl (by omega) (un_go (by omega) hTn) rfl ?_
  show am_wp d 103 (19, [some (.ref (u)), some (.long (-Int64.ofNat v)), none, some (.int (Int32.ofNat k)), some (.int (sb_i g)), some (.long (Int64.ofNat v)), none, none, none, none], [.long (Int64.ofNat (10 ^ k)), .long (Int64.ofNat 1)], A) _
  refine wp_mx rfl rfl (by omega) rfl rfl ?_
  rw [if_neg (fun q => by have y := (i64_lt (a := 10 ^ k) (b := 1) (by omega) (by omega)).mp q; omega)]
  refine wp_st 4 (f' := (27, [some (.ref (u)), some (.long (-Int64.ofNat v)), none, some (.int (Int32.ofNat k)), some (.int (sb_i g)), some (.long (Int64.ofNat v)), none, some (.long (Int64.ofNat (10 ^ k))), none, none], [.int (lg_cmp (-Int64.ofNat v) (Int64.ofNat 0))], A)) rfl ?_
  refine wp_izF rfl rfl (fun q => absurd ((lg_cmp_ge _ _).mp q) hneg) ?_
  refine wp_st 2 (f' := (33, [some (.ref (u)), some (.long (-Int64.ofNat v)), none, some (.int (Int32.ofNat k)), some (.int (sb_i g)), some (.long (Int64.ofNat v)), none, some (.long (Int64.ofNat (10 ^ k))), none, none], [.int (Int32.ofNat 45), .ref (u)], A)) rfl ?_
  obtain ⟨B1, c1, w1, go1, rs1, O1, fr1⟩ := op_put (d := d - 1) (x := 45) (by omega) hh
  have P1 := O1
  obtain ⟨cs1, q01, q11, hl1, hw1, hk1, h451⟩ := O1
  unfold sb_oc at q01
  have hT1 : B1[1]? = some (101, am_TENS.map Value.long) := fr1.at (Or.inl (by omega)) hTn
  refine wp_cv (A' := B1) (v := some (.int (c1))) rfl rfl rfl rfl rfl q0 (by omega) (go1) rfl ?_
  show am_wp d 103 (36, [some (.ref (u)), some (.long (-Int64.ofNat v)), none, some (.int (Int32.ofNat k)), some (.int (sb_i g)), some (.long (Int64.ofNat v)), none, some (.long (Int64.ofNat (10 ^ k))), none, none], [.int (c1)], B1) _
  refine wp_st 3 (f' := (44, [some (.ref (u)), some (.long (-Int64.ofNat v)), none, some (.int (Int32.ofNat k)), some (.int (sb_i g)), some (.long (Int64.ofNat v)), none, some (.long (Int64.ofNat (10 ^ k))), none, some (.int (c1))], [.int (c1)], B1)) rfl ?_
  refine wp_iz rfl rfl rfl (fun (h1 : c1 ≠ (Int32.ofNat 0)) => ?_) (fun (h1 : ¬ (c1 ≠ (Int32.ofNat 0))) => ?_)
  · skip
    refine wp_st 1 (f' := (63, [some (.ref (u)), some (.long (-Int64.ofNat v)), none, some (.int (Int32.ofNat k)), some (.int (sb_i g)), some (.long (Int64.ofNat v)), none, some (.long (Int64.ofNat (10 ^ k))), none, some (.int (c1))], [.int (c1)], B1)) rfl ?_
    refine wp_izT rfl rfl (h1) ?_
    refine wp_st 1 (f' := (98, [some (.ref (u)), some (.long (-Int64.ofNat v)), none, some (.int (Int32.ofNat k)), some (.int (sb_i g)), some (.long (Int64.ofNat v)), none, some (.long (Int64.ofNat (10 ^ k))), none, some (.int (c1))], [.int (c1)], B1)) rfl ?_
    refine wp_rt rfl rfl rfl ?_
    refine ⟨c1, w1, rfl, ?_, P1, fr1⟩
    rw [sb_res3 rs1 h1]
    exact rs1.full (l' := sb_nm v k g) h1
  · skip
    refine wp_st 3 (f' := (52, [some (.ref (u)), some (.long (-Int64.ofNat v)), none, some (.int (Int32.ofNat k)), some (.int (sb_i g)), some (.long (Int64.ofNat v)), none, some (.long (Int64.ofNat (10 ^ k))), none, some (.int (c1))], [.long (Int64.ofNat (10 ^ k)), .long (Int64.ofNat v), .ref (u)], B1)) rfl ?_
    refine wp_dv rfl (fun q => by have y := (i64_eq (a := 10 ^ k) (b := 0) (by omega) (by omega)).mp q; omega) rfl ?_
    rw [i64_div (a := v) (b := 10 ^ k) (by omega) (by omega)]
    refine wp_st 2 (f' := (56, [some (.ref (u)), some (.long (-Int64.ofNat v)), none, some (.int (Int32.ofNat k)), some (.int (sb_i g)), some (.long (Int64.ofNat v)), none, some (.long (Int64.ofNat (10 ^ k))), none, some (.int (c1))], [.int (sb_i g), .int (Int32.ofNat 1), .long (Int64.ofNat (v / 10 ^ k)), .ref (u)], B1)) rfl ?_
    obtain ⟨B2, c2, w2, go2, rs2, O2, fr2⟩ := op_dig (d := d - 1) (v := v / 10 ^ k) (fw := 1) (g := g) (by omega) (by omega) (by omega) (by omega) P1 hT1
    have P2 := O2
    obtain ⟨cs2, q02, q12, hl2, hw2, hk2, h452⟩ := O2
    unfold sb_oc at q02
    have hT2 : B2[1]? = some (101, am_TENS.map Value.long) := fr2.at (Or.inl (by omega)) hT1
    refine wp_cv (A' := B2) (v := some (.int (c2))) rfl rfl rfl rfl rfl q01 (by omega) (go2) rfl ?_
    show am_wp d 103 (59, [some (.ref (u)), some (.long (-Int64.ofNat v)), none, some (.int (Int32.ofNat k)), some (.int (sb_i g)), some (.long (Int64.ofNat v)), none, some (.long (Int64.ofNat (10 ^ k))), none, some (.int (c1))], [.int (c2)], B2) _
    refine wp_st 2 (f' := (63, [some (.ref (u)), some (.long (-Int64.ofNat v)), none, some (.int (Int32.ofNat k)), some (.int (sb_i g)), some (.long (Int64.ofNat v)), none, some (.long (Int64.ofNat (10 ^ k))), none, some (.int (c2))], [.int (c2)], B2)) rfl ?_
    refine wp_iz rfl rfl rfl (fun (h2 : c2 ≠ (Int32.ofNat 0)) => ?_) (fun (h2 : ¬ (c2 ≠ (Int32.ofNat 0))) => ?_)
    · skip
      refine wp_st 1 (f' := (98, [some (.ref (u)), some (.long (-Int64.ofNat v)), none, some (.int (Int32.ofNat k)), some (.int (sb_i g)), some (.long (Int64.ofNat v)), none, some (.long (Int64.ofNat (10 ^ k))), none, some (.int (c2))], [.int (c2)], B2)) rfl ?_
      refine wp_rt rfl rfl rfl ?_
      refine ⟨c2, w2, rfl, ?_, P2, fr1.trans fr2⟩
      rw [sb_res3 rs2 h2]
      exact (sb_res_z rs1 (Decidable.not_not.mp h1)).app (rs2.full (l' := (if 0 < k then [46] ++ sb_ds (v % 10 ^ k) false (sb_nd (v % 10 ^ k) (19 - k) k) else [])) h2)
    · skip
      refine wp_st 1 (f' := (67, [some (.ref (u)), some (.long (-Int64.ofNat v)), none, some (.int (Int32.ofNat k)), some (.int (sb_i g)), some (.long (Int64.ofNat v)), none, some (.long (Int64.ofNat (10 ^ k))), none, some (.int (c2))], [.int (Int32.ofNat k)], B2)) rfl ?_
      refine wp_iz rfl rfl rfl (fun (h3 : (Int32.ofNat k) ≤ (Int32.ofNat 0)) => ?_) (fun (h3 : ¬ ((Int32.ofNat k) ≤ (Int32.ofNat 0))) => ?_)
      · skip
        rw [i32_le (by omega) (by omega)] at h3
        refine wp_st 1 (f' := (98, [some (.ref (u)), some (.long (-Int64.ofNat v)), none, some (.int (Int32.ofNat k)), some (.int (sb_i g)), some (.long (Int64.ofNat v)), none, some (.long (Int64.ofNat (10 ^ k))), none, some (.int (c2))], [.int (c2)], B2)) rfl ?_
        refine wp_rt rfl rfl rfl ?_
        refine ⟨c2, w2, rfl, ?_, P2, fr1.trans fr2⟩
        rw [sb_nm, if_neg (by omega), List.append_nil, Decidable.not_not.mp h2]
        exact (sb_res_z rs1 (Decidable.not_not.mp h1)).app ((sb_res_z rs2 (Decidable.not_not.mp h2)))
      · skip
        rw [i32_le (by omega) (by omega)] at h3
        refine wp_st 2 (f' := (73, [some (.ref (u)), some (.long (-Int64.ofNat v)), none, some (.int (Int32.ofNat k)), some (.int (sb_i g)), some (.long (Int64.ofNat v)), none, some (.long (Int64.ofNat (10 ^ k))), none, some (.int (c2))], [.int (Int32.ofNat 46), .ref (u)], B2)) rfl ?_
        obtain ⟨B3, c3, w3, go3, rs3, O3, fr3⟩ := op_put (d := d - 1) (x := 46) (by omega) P2
        have P3 := O3
        obtain ⟨cs3, q03, q13, hl3, hw3, hk3, h453⟩ := O3
        unfold sb_oc at q03
        have hT3 : B3[1]? = some (101, am_TENS.map Value.long) := fr3.at (Or.inl (by omega)) hT2
        refine wp_cv (A' := B3) (v := some (.int (c3))) rfl rfl rfl rfl rfl q02 (by omega) (go3) rfl ?_
        show am_wp d 103 (76, [some (.ref (u)), some (.long (-Int64.ofNat v)), none, some (.int (Int32.ofNat k)), some (.int (sb_i g)), some (.long (Int64.ofNat v)), none, some (.long (Int64.ofNat (10 ^ k))), none, some (.int (c2))], [.int (c3)], B3) _
        refine wp_st 2 (f' := (80, [some (.ref (u)), some (.long (-Int64.ofNat v)), none, some (.int (Int32.ofNat k)), some (.int (sb_i g)), some (.long (Int64.ofNat v)), none, some (.long (Int64.ofNat (10 ^ k))), none, some (.int (c3))], [.int (c3)], B3)) rfl ?_
        refine wp_iz rfl rfl rfl (fun (h4 : c3 ≠ (Int32.ofNat 0)) => ?_) (fun (h4 : ¬ (c3 ≠ (Int32.ofNat 0))) => ?_)
        · skip
          refine wp_st 1 (f' := (98, [some (.ref (u)), some (.long (-Int64.ofNat v)), none, some (.int (Int32.ofNat k)), some (.int (sb_i g)), some (.long (Int64.ofNat v)), none, some (.long (Int64.ofNat (10 ^ k))), none, some (.int (c3))], [.int (c3)], B3)) rfl ?_
          refine wp_rt rfl rfl rfl ?_
          refine ⟨c3, w3, rfl, ?_, P3, (fr1.trans fr2).trans fr3⟩
          rw [sb_res3 rs3 h4]
          rw [sb_nm, if_pos (by omega)]
          exact (sb_res_z rs1 (Decidable.not_not.mp h1)).app ((sb_res_z rs2 (Decidable.not_not.mp h2)).app (rs3.full (l' := sb_ds (v % 10 ^ k) false (sb_nd (v % 10 ^ k) (19 - k) k)) h4))
        · skip
          refine wp_st 3 (f' := (88, [some (.ref (u)), some (.long (-Int64.ofNat v)), none, some (.int (Int32.ofNat k)), some (.int (sb_i g)), some (.long (Int64.ofNat v)), none, some (.long (Int64.ofNat (10 ^ k))), none, some (.int (c3))], [.long (Int64.ofNat (10 ^ k)), .long (Int64.ofNat v), .ref (u)], B3)) rfl ?_
          refine wp_lr rfl (fun q => by have y := (i64_eq (a := 10 ^ k) (b := 0) (by omega) (by omega)).mp q; omega) rfl ?_
          rw [i64_rem (a := v) (b := 10 ^ k) (by omega) (by omega)]
          refine wp_st 2 (f' := (91, [some (.ref (u)), some (.long (-Int64.ofNat v)), none, some (.int (Int32.ofNat k)), some (.int (sb_i g)), some (.long (Int64.ofNat v)), none, some (.long (Int64.ofNat (10 ^ k))), none, some (.int (c3))], [.int (Int32.ofNat 0), .int (Int32.ofNat k), .long (Int64.ofNat (v % 10 ^ k)), .ref (u)], B3)) rfl ?_
          obtain ⟨B4, c4, w4, go4, rs4, O4, fr4⟩ := op_dig (d := d - 1) (v := v % 10 ^ k) (fw := k) (g := false) (by omega) (by omega) (by omega) (by omega) P3 hT3
          have P4 := O4
          obtain ⟨cs4, q04, q14, hl4, hw4, hk4, h454⟩ := O4
          unfold sb_oc at q04
          have hT4 : B4[1]? = some (101, am_TENS.map Value.long) := fr4.at (Or.inl (by omega)) hT3
          refine wp_cv (A' := B4) (v := some (.int (c4))) rfl rfl rfl rfl rfl q03 (by omega) (go4) rfl ?_
          show am_wp d 103 (94, [some (.ref (u)), some (.long (-Int64.ofNat v)), none, some (.int (Int32.ofNat k)), some (.int (sb_i g)), some (.long (Int64.ofNat v)), none, some (.long (Int64.ofNat (10 ^ k))), none, some (.int (c3))], [.int (c4)], B4) _
          refine wp_st 2 (f' := (98, [some (.ref (u)), some (.long (-Int64.ofNat v)), none, some (.int (Int32.ofNat k)), some (.int (sb_i g)), some (.long (Int64.ofNat v)), none, some (.long (Int64.ofNat (10 ^ k))), none, some (.int (c4))], [.int (c4)], B4)) rfl ?_
          refine wp_rt rfl rfl rfl ?_
          refine ⟨c4, w4, rfl, ?_, P4, ((fr1.trans fr2).trans fr3).trans fr4⟩
          rw [sb_nm, if_pos (by omega)]
          exact (sb_res_z rs1 (Decidable.not_not.mp h1)).app ((sb_res_z rs2 (Decidable.not_not.mp h2)).app ((sb_res_z rs3 (Decidable.not_not.mp h4)).app (rs4)))
