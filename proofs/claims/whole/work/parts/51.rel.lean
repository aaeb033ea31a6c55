/-! RuleSet.relationHolds: its ranges. -/
theorem rl_l {d s r g : Nat} {fi en op mo fr re lo hi : List Nat} {ng og : List Bool} {A : am_H} {W e : Nat} {z1 z2 : Int32} {y3 y5 y7 : Int64} {Q : am_O × am_H → Prop} (hW : W < 9223372036854775808) (he : e ≤ g) (hlo : ∀ i, lo.getD i 0 < 10000) (hhi : ∀ i, hi.getD i 0 < 10000) (h : sb_R A s fi en op mo ng og fr re r lo hi g) : ∀ (k j : Nat) (f : Bool), e - j = k → j ≤ e → am_wp d 97 (184, [some (.ref s), some (.int z1), some (.int z2), some (.long y3), none, some (.long y5), none, some (.long y7), none, some (.int (sb_i (sb_ir W lo hi k j f))), some (.long (Int64.ofNat W)), none, some (.int (Int32.ofNat e)), some (.int (Int32.ofNat (e)))], [], A) Q → am_wp d 97 (117, [some (.ref s), some (.int z1), some (.int z2), some (.long y3), none, some (.long y5), none, some (.long y7), none, some (.int (sb_i (f))), some (.long (Int64.ofNat W)), none, some (.int (Int32.ofNat e)), some (.int (Int32.ofNat (j)))], [], A) Q := by
  have hh := h
  obtain ⟨q0, q1, q2, q3, q4, q5, q6, q7, q8, q9, q10, ⟨l1, l2⟩, ⟨l3, l4, l5, l6, l7, l8⟩, ⟨l9, l10⟩, hr, hg, h45⟩ := h
  unfold sb_rc at q0
  intro k
  induction k with
  | zero =>
    intro j f j1 j2 kk
    obtain rfl : j = e := by omega
    refine wp_st 1 (f' := (119, [some (.ref (s)), some (.int (z1)), some (.int (z2)), some (.long (y3)), none, some (.long (y5)), none, some (.long (y7)), none, some (.int (sb_i f)), some (.long (Int64.ofNat W)), none, some (.int (Int32.ofNat j)), some (.int (Int32.ofNat j))], [.int (Int32.ofNat j)], A)) rfl ?_
    refine wp_izF rfl rfl (Int32.ofNat_not_neg (by omega)) ?_
    refine wp_st 2 (f' := (126, [some (.ref (s)), some (.int (z1)), some (.int (z2)), some (.long (y3)), none, some (.long (y5)), none, some (.long (y7)), none, some (.int (sb_i f)), some (.long (Int64.ofNat W)), none, some (.int (Int32.ofNat j)), some (.int (Int32.ofNat j))], [.int (Int32.ofNat j), .int (Int32.ofNat j)], A)) rfl ?_
    refine wp_ifT rfl rfl ((i32_le (a := j) (b := j) (by omega) (by omega)).mpr (by omega)) ?_
    exact kk
  | succ k ih =>
    intro j f j1 j2 kk
    have hl9 := hlo j
    have hh9 := hhi j
    rw [sb_ir] at kk
    refine wp_st 1 (f' := (119, [some (.ref (s)), some (.int (z1)), some (.int (z2)), some (.long (y3)), none, some (.long (y5)), none, some (.long (y7)), none, some (.int (sb_i f)), some (.long (Int64.ofNat W)), none, some (.int (Int32.ofNat e)), some (.int (Int32.ofNat j))], [.int (Int32.ofNat j)], A)) rfl ?_
    refine wp_izF rfl rfl (Int32.ofNat_not_neg (by omega)) ?_
    refine wp_st 2 (f' := (126, [some (.ref (s)), some (.int (z1)), some (.int (z2)), some (.long (y3)), none, some (.long (y5)), none, some (.long (y7)), none, some (.int (sb_i f)), some (.long (Int64.ofNat W)), none, some (.int (Int32.ofNat e)), some (.int (Int32.ofNat j))], [.int (Int32.ofNat e), .int (Int32.ofNat j)], A)) rfl ?_
    refine wp_ifF rfl rfl (fun q => absurd ((i32_le (a := e) (b := j) (by omega) (by omega)).mp q) (by omega)) ?_
    refine wp_st 2 (f' := (132, [some (.ref (s)), some (.int (z1)), some (.int (z2)), some (.long (y3)), none, some (.long (y5)), none, some (.long (y7)), none, some (.int (sb_i f)), some (.long (Int64.ofNat W)), none, some (.int (Int32.ofNat e)), some (.int (Int32.ofNat j))], [.ref (s), .int (Int32.ofNat j)], A)) rfl ?_
    refine wp_gf rfl rfl q0 rfl rfl ?_
    refine wp_ifF rfl rfl (fun q => absurd ((i32_le (a := g) (b := j) (by omega) (by omega)).mp q) (by omega)) ?_
    refine wp_st 1 (f' := (140, [some (.ref (s)), some (.int (z1)), some (.int (z2)), some (.long (y3)), none, some (.long (y5)), none, some (.long (y7)), none, some (.int (sb_i f)), some (.long (Int64.ofNat W)), none, some (.int (Int32.ofNat e)), some (.int (Int32.ofNat j))], [.int (sb_i f)], A)) rfl ?_
    refine wp_iz rfl rfl rfl (fun (h1 : (sb_i f) ≠ (Int32.ofNat 0)) => ?_) (fun (h1 : ¬ ((sb_i f) ≠ (Int32.ofNat 0))) => ?_)
    · skip
      refine wp_st 4 (f' := (181, [some (.ref (s)), some (.int (z1)), some (.int (z2)), some (.long (y3)), none, some (.long (y5)), none, some (.long (y7)), none, some (.int (Int32.ofNat 1)), some (.long (Int64.ofNat W)), none, some (.int (Int32.ofNat e)), some (.int ((Int32.ofNat j) + (Int32.ofNat 1)))], [], A)) rfl ?_
      rw [i32_add (j) (1)]
      refine wp_st 1 (f' := (117, [some (.ref (s)), some (.int (z1)), some (.int (z2)), some (.long (y3)), none, some (.long (y5)), none, some (.long (y7)), none, some (.int (Int32.ofNat 1)), some (.long (Int64.ofNat W)), none, some (.int (Int32.ofNat e)), some (.int (Int32.ofNat (j + 1)))], [], A)) rfl ?_
      have hf : f = true := sb_i_nz h1
      rw [hf, Bool.true_or] at kk
      exact ih (j + 1) true (by omega) (by omega) kk
    · skip
      refine wp_st 2 (f' := (146, [some (.ref (s)), some (.int (z1)), some (.int (z2)), some (.long (y3)), none, some (.long (y5)), none, some (.long (y7)), none, some (.int (sb_i f)), some (.long (Int64.ofNat W)), none, some (.int (Int32.ofNat e)), some (.int (Int32.ofNat j))], [.ref (s), .long (Int64.ofNat W)], A)) rfl ?_
      refine wp_gf rfl rfl q0 rfl rfl ?_
      refine wp_st 1 (f' := (151, [some (.ref (s)), some (.int (z1)), some (.int (z2)), some (.long (y3)), none, some (.long (y5)), none, some (.long (y7)), none, some (.int (sb_i f)), some (.long (Int64.ofNat W)), none, some (.int (Int32.ofNat e)), some (.int (Int32.ofNat j))], [.int (Int32.ofNat j), .ref (s + 9), .long (Int64.ofNat W)], A)) rfl ?_
      refine wp_al rfl (Or.inl ⟨rfl, rfl⟩) rfl q9 (by omega) (sb_gd 0 (by omega)) rfl ?_
      refine wp_st 1 (f' := (153, [some (.ref (s)), some (.int (z1)), some (.int (z2)), some (.long (y3)), none, some (.long (y5)), none, some (.long (y7)), none, some (.int (sb_i f)), some (.long (Int64.ofNat W)), none, some (.int (Int32.ofNat e)), some (.int (Int32.ofNat j))], [.long ((Int32.ofNat (lo.getD j 0)).toInt64), .long (Int64.ofNat W)], A)) rfl ?_
      rw [i64_of (b := lo.getD j 0) (by omega)]
      refine wp_st 1 (f' := (154, [some (.ref (s)), some (.int (z1)), some (.int (z2)), some (.long (y3)), none, some (.long (y5)), none, some (.long (y7)), none, some (.int (sb_i f)), some (.long (Int64.ofNat W)), none, some (.int (Int32.ofNat e)), some (.int (Int32.ofNat j))], [.int (lg_cmp (Int64.ofNat W) (Int64.ofNat (lo.getD j 0)))], A)) rfl ?_
      refine wp_iz rfl rfl rfl (fun (h2 : (lg_cmp (Int64.ofNat W) (Int64.ofNat (lo.getD j 0))) < (Int32.ofNat 0)) => ?_) (fun (h2 : ¬ ((lg_cmp (Int64.ofNat W) (Int64.ofNat (lo.getD j 0))) < (Int32.ofNat 0))) => ?_)
      · skip
        refine wp_st 3 (f' := (181, [some (.ref (s)), some (.int (z1)), some (.int (z2)), some (.long (y3)), none, some (.long (y5)), none, some (.long (y7)), none, some (.int (Int32.ofNat 0)), some (.long (Int64.ofNat W)), none, some (.int (Int32.ofNat e)), some (.int ((Int32.ofNat j) + (Int32.ofNat 1)))], [], A)) rfl ?_
        rw [i32_add (j) (1)]
        refine wp_st 1 (f' := (117, [some (.ref (s)), some (.int (z1)), some (.int (z2)), some (.long (y3)), none, some (.long (y5)), none, some (.long (y7)), none, some (.int (Int32.ofNat 0)), some (.long (Int64.ofNat W)), none, some (.int (Int32.ofNat e)), some (.int (Int32.ofNat (j + 1)))], [], A)) rfl ?_
        have hf : f = false := sb_i_z (Decidable.not_not.mp h1)
        have h8 := (i64_lt (by omega) (by omega)).mp ((lg_cmp_lt _ _).mp h2)
        rw [hf, Bool.false_or, show (decide (lo.getD j 0 ≤ W) && decide (W ≤ hi.getD j 0)) = false from sb_in_f (by omega)] at kk
        exact ih (j + 1) false (by omega) (by omega) kk
      · skip
        refine wp_st 2 (f' := (160, [some (.ref (s)), some (.int (z1)), some (.int (z2)), some (.long (y3)), none, some (.long (y5)), none, some (.long (y7)), none, some (.int (sb_i f)), some (.long (Int64.ofNat W)), none, some (.int (Int32.ofNat e)), some (.int (Int32.ofNat j))], [.ref (s), .long (Int64.ofNat W)], A)) rfl ?_
        refine wp_gf rfl rfl q0 rfl rfl ?_
        refine wp_st 1 (f' := (165, [some (.ref (s)), some (.int (z1)), some (.int (z2)), some (.long (y3)), none, some (.long (y5)), none, some (.long (y7)), none, some (.int (sb_i f)), some (.long (Int64.ofNat W)), none, some (.int (Int32.ofNat e)), some (.int (Int32.ofNat j))], [.int (Int32.ofNat j), .ref (s + 10), .long (Int64.ofNat W)], A)) rfl ?_
        refine wp_al rfl (Or.inl ⟨rfl, rfl⟩) rfl q10 (by omega) (sb_gd 0 (by omega)) rfl ?_
        refine wp_st 1 (f' := (167, [some (.ref (s)), some (.int (z1)), some (.int (z2)), some (.long (y3)), none, some (.long (y5)), none, some (.long (y7)), none, some (.int (sb_i f)), some (.long (Int64.ofNat W)), none, some (.int (Int32.ofNat e)), some (.int (Int32.ofNat j))], [.long ((Int32.ofNat (hi.getD j 0)).toInt64), .long (Int64.ofNat W)], A)) rfl ?_
        rw [i64_of (b := hi.getD j 0) (by omega)]
        refine wp_st 1 (f' := (168, [some (.ref (s)), some (.int (z1)), some (.int (z2)), some (.long (y3)), none, some (.long (y5)), none, some (.long (y7)), none, some (.int (sb_i f)), some (.long (Int64.ofNat W)), none, some (.int (Int32.ofNat e)), some (.int (Int32.ofNat j))], [.int (lg_cmp (Int64.ofNat W) (Int64.ofNat (hi.getD j 0)))], A)) rfl ?_
        refine wp_iz rfl rfl rfl (fun (h3 : (Int32.ofNat 0) < (lg_cmp (Int64.ofNat W) (Int64.ofNat (hi.getD j 0)))) => ?_) (fun (h3 : ¬ ((Int32.ofNat 0) < (lg_cmp (Int64.ofNat W) (Int64.ofNat (hi.getD j 0))))) => ?_)
        · skip
          refine wp_st 3 (f' := (181, [some (.ref (s)), some (.int (z1)), some (.int (z2)), some (.long (y3)), none, some (.long (y5)), none, some (.long (y7)), none, some (.int (Int32.ofNat 0)), some (.long (Int64.ofNat W)), none, some (.int (Int32.ofNat e)), some (.int ((Int32.ofNat j) + (Int32.ofNat 1)))], [], A)) rfl ?_
          rw [i32_add (j) (1)]
          refine wp_st 1 (f' := (117, [some (.ref (s)), some (.int (z1)), some (.int (z2)), some (.long (y3)), none, some (.long (y5)), none, some (.long (y7)), none, some (.int (Int32.ofNat 0)), some (.long (Int64.ofNat W)), none, some (.int (Int32.ofNat e)), some (.int (Int32.ofNat (j + 1)))], [], A)) rfl ?_
          have hf : f = false := sb_i_z (Decidable.not_not.mp h1)
          have h8 := (i64_lt (by omega) (by omega)).mp ((lg_cmp_gt _ _).mp h3)
          rw [hf, Bool.false_or, show (decide (lo.getD j 0 ≤ W) && decide (W ≤ hi.getD j 0)) = false from sb_in_f (by omega)] at kk
          exact ih (j + 1) false (by omega) (by omega) kk
        · skip
          refine wp_st 4 (f' := (181, [some (.ref (s)), some (.int (z1)), some (.int (z2)), some (.long (y3)), none, some (.long (y5)), none, some (.long (y7)), none, some (.int (Int32.ofNat 1)), some (.long (Int64.ofNat W)), none, some (.int (Int32.ofNat e)), some (.int ((Int32.ofNat j) + (Int32.ofNat 1)))], [], A)) rfl ?_
          rw [i32_add (j) (1)]
          refine wp_st 1 (f' := (117, [some (.ref (s)), some (.int (z1)), some (.int (z2)), some (.long (y3)), none, some (.long (y5)), none, some (.long (y7)), none, some (.int (Int32.ofNat 1)), some (.long (Int64.ofNat W)), none, some (.int (Int32.ofNat e)), some (.int (Int32.ofNat (j + 1)))], [], A)) rfl ?_
          have hf : f = false := sb_i_z (Decidable.not_not.mp h1)
          have h8 : ¬ W < lo.getD j 0 := fun q => h2 ((lg_cmp_lt _ _).mpr ((i64_lt (by omega) (by omega)).mpr q))
          have h9 : ¬ hi.getD j 0 < W := fun q => h3 ((lg_cmp_gt _ _).mpr ((i64_lt (by omega) (by omega)).mpr q))
          rw [hf, Bool.false_or, show (decide (lo.getD j 0 ≤ W) && decide (W ≤ hi.getD j 0)) = true from sb_in_t h8 h9] at kk
          exact ih (j + 1) true (by omega) (by omega) kk
