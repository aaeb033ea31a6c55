/-! RuleSet: relationHolds, conditionHolds, categoryOf. -/
theorem rl_t {d s r g : Nat} {fi en op mo fr re lo hi : List Nat} {ng og : List Bool} {A : am_H} {q : Nat} {z2 : Int32} {y3 y5 y7 : Int64} {f : Bool} {b10 b11 b12 b13 : Option Value} (hq : q < 40) (h : sb_R A s fi en op mo ng og fr re r lo hi g) : am_wp d 97 (184, [some (.ref s), some (.int (Int32.ofNat q)), some (.int z2), some (.long y3), none, some (.long y5), none, some (.long y7), none, some (.int (sb_i f)), b10, b11, b12, b13], [], A) (fun z => z = (.inl (some (.int (sb_i (f != ng.getD q false)))), A)) := by
  have hh := h
  obtain ⟨q0, q1, q2, q3, q4, q5, q6, q7, q8, q9, q10, ⟨l1, l2⟩, ⟨l3, l4, l5, l6, l7, l8⟩, ⟨l9, l10⟩, hr, hg, h45⟩ := h
  unfold sb_rc at q0
  refine wp_st 2 (f' := (187, [some (.ref (s)), some (.int (Int32.ofNat q)), some (.int (z2)), some (.long (y3)), none, some (.long (y5)), none, some (.long (y7)), none, some (.int (sb_i f)), b10, b11, b12, b13], [.ref (s), .int (sb_i f)], A)) rfl ?_
  refine wp_gf rfl rfl q0 rfl rfl ?_
  refine wp_st 1 (f' := (191, [some (.ref (s)), some (.int (Int32.ofNat q)), some (.int (z2)), some (.long (y3)), none, some (.long (y5)), none, some (.long (y7)), none, some (.int (sb_i f)), b10, b11, b12, b13], [.int (Int32.ofNat q), .ref (s + 5), .int (sb_i f)], A)) rfl ?_
  refine wp_al rfl (Or.inr (Or.inr (Or.inr (Or.inl ⟨rfl, rfl⟩)))) rfl q5 (by omega) (sb_gd false (by omega)) rfl ?_
  refine wp_if rfl rfl rfl (fun (h1 : (sb_i f) = (sb_i (ng.getD q false))) => ?_) (fun (h1 : ¬ ((sb_i f) = (sb_i (ng.getD q false)))) => ?_)
  · skip
    refine wp_st 1 (f' := (200, [some (.ref (s)), some (.int (Int32.ofNat q)), some (.int (z2)), some (.long (y3)), none, some (.long (y5)), none, some (.long (y7)), none, some (.int (sb_i f)), b10, b11, b12, b13], [.int (Int32.ofNat 0)], A)) rfl ?_
    refine wp_rt rfl rfl rfl ?_
    rw [show (f != ng.getD q false) = false from by rw [sb_i_inj.mp h1]; simp]
    rfl
  · skip
    refine wp_st 2 (f' := (200, [some (.ref (s)), some (.int (Int32.ofNat q)), some (.int (z2)), some (.long (y3)), none, some (.long (y5)), none, some (.long (y7)), none, some (.int (sb_i f)), b10, b11, b12, b13], [.int (Int32.ofNat 1)], A)) rfl ?_
    refine wp_rt rfl rfl rfl ?_
    rw [show (f != ng.getD q false) = true from by simp only [bne_iff_ne, ne_eq]; exact fun e => h1 (by rw [e])]
    rfl
theorem rl_go {d s r g : Nat} {fi en op mo fr re lo hi : List Nat} {ng og : List Bool} {A : am_H} {v k q : Nat} {l h9 : Nat → Nat} (hq : q < 40) (hk : k ≤ 6) (hv : v < 9223372036854775808) (ho : op.getD q 0 < 6) (hm : mo.getD q 0 < 10000) (hlo : ∀ i, lo.getD i 0 < 10000) (hhi : ∀ i, hi.getD i 0 < 10000) (hfr9 : fr.getD q 0 ≤ re.getD q 0) (hre9 : re.getD q 0 ≤ g) (e1 : ∀ i, lo.getD i 0 = l i) (e2 : ∀ i, hi.getD i 0 = h9 i) (hP : sb_P A (s + 11) (sb_am v k) (Int64.ofNat (10 ^ k))) (h : sb_R A s fi en op mo ng og fr re r lo hi g) : am_go d 97 [.ref s, .int (Int32.ofNat q)] A (.inl (some (.int (sb_i (ct_in v k (op.getD q 0) (mo.getD q 0) l h9 (fr.getD q 0) (re.getD q 0) != ng.getD q false)))), A) := by
  have hh := h
  obtain ⟨q0, q1, q2, q3, q4, q5, q6, q7, q8, q9, q10, ⟨l1, l2⟩, ⟨l3, l4, l5, l6, l7, l8⟩, ⟨l9, l10⟩, hr, hg, h45⟩ := h
  unfold sb_rc at q0
  obtain ⟨p0, p1, p2, p3⟩ := hP
  obtain ⟨U, hU⟩ : ∃ U, U = ct_U k (op.getD q 0) := ⟨_, rfl⟩
  obtain ⟨a0, ha0⟩ : ∃ x, x = (ct_am v k).getD (op.getD q 0) 0 := ⟨_, rfl⟩
  obtain ⟨m0, hm0⟩ : ∃ x, x = mo.getD q 0 := ⟨_, rfl⟩
  obtain ⟨a9, ha9⟩ : ∃ x, x = ct_A v k (op.getD q 0) (mo.getD q 0) := ⟨_, rfl⟩
  have hUl := ct_U_le (k := k) (o := op.getD q 0) hk
  rw [← hU] at hUl
  have ha0l := ct_am_lt (v := v) (k := k) (o := op.getD q 0) hk hv
  rw [← ha0] at ha0l
  have hmul : m0 * U ≤ 10000 * 1000000 := Nat.mul_le_mul (by omega) hUl.2
  have ha9l : a9 ≤ a0 := by
    rw [ha9, ct_A, ← ha0]
    split
    · exact Nat.mod_le _ _
    · exact Nat.le_refl _
  have hau9 : a9 % U ≤ a9 := Nat.mod_le _ _
  have hW9 : a9 / U < 9223372036854775808 := by have := Nat.div_le_self a9 U; omega
  refine wp_go ?_
  refine wp_st 1 (f' := (1, [some (.ref (s)), some (.int (Int32.ofNat q)), none, none, none, none, none, none, none, none, none, none, none, none], [.ref (s)], A)) rfl ?_
  refine wp_gf rfl rfl q0 rfl rfl ?_
  refine wp_st 1 (f' := (5, [some (.ref (s)), some (.int (Int32.ofNat q)), none, none, none, none, none, none, none, none, none, none, none, none], [.int (Int32.ofNat q), .ref (s + 3)], A)) rfl ?_
  refine wp_al rfl (Or.inl ⟨rfl, rfl⟩) rfl q3 (by omega) (sb_gd 0 (by omega)) rfl ?_
  refine wp_st 2 (f' := (8, [some (.ref (s)), some (.int (Int32.ofNat q)), some (.int (Int32.ofNat (op.getD q 0))), none, none, none, none, none, none, none, none, none, none, none], [.int (Int32.ofNat (op.getD q 0))], A)) rfl ?_
  refine wp_izF rfl rfl (Int32.ofNat_not_neg (by omega)) ?_
  refine wp_st 2 (f' := (13, [some (.ref (s)), some (.int (Int32.ofNat q)), some (.int (Int32.ofNat (op.getD q 0))), none, none, none, none, none, none, none, none, none, none, none], [.ref (s), .int (Int32.ofNat (op.getD q 0))], A)) rfl ?_
  refine wp_gf rfl rfl q0 rfl rfl ?_
  refine wp_gf rfl rfl p0 rfl rfl ?_
  refine wp_ln rfl p1 rfl rfl rfl ?_
  rw [show ((sb_am v k).map Value.long).length = 6 from by rfl]
  refine wp_ifT rfl rfl ((i32_lt (a := op.getD q 0) (b := 6) (by omega) (by omega)).mpr (by omega)) ?_
  refine wp_st 1 (f' := (26, [some (.ref (s)), some (.int (Int32.ofNat q)), some (.int (Int32.ofNat (op.getD q 0))), none, none, none, none, none, none, none, none, none, none, none], [.int (Int32.ofNat (op.getD q 0))], A)) rfl ?_
  refine wp_iz rfl rfl rfl (fun (h1 : (Int32.ofNat (op.getD q 0)) ≠ (Int32.ofNat 0)) => ?_) (fun (h1 : ¬ ((Int32.ofNat (op.getD q 0)) ≠ (Int32.ofNat 0))) => ?_)
  · skip
    rw [ne_eq, i32_eq (by omega) (by omega)] at h1
    refine wp_st 1 (f' := (40, [some (.ref (s)), some (.int (Int32.ofNat q)), some (.int (Int32.ofNat (op.getD q 0))), none, none, none, none, none, none, none, none, none, none, none], [.long (Int64.ofNat 1)], A)) rfl ?_
    rw [show Int64.ofNat 1 = Int64.ofNat (ct_U k (op.getD q 0)) from by rw [ct_U, if_neg h1]]
    rw [← hU]
    refine wp_st 2 (f' := (42, [some (.ref (s)), some (.int (Int32.ofNat q)), some (.int (Int32.ofNat (op.getD q 0))), some (.long (Int64.ofNat U)), none, none, none, none, none, none, none, none, none, none], [.ref (s)], A)) rfl ?_
    refine wp_gf rfl rfl q0 rfl rfl ?_
    refine wp_gf rfl rfl p0 rfl rfl ?_
    refine wp_st 1 (f' := (49, [some (.ref (s)), some (.int (Int32.ofNat q)), some (.int (Int32.ofNat (op.getD q 0))), some (.long (Int64.ofNat U)), none, none, none, none, none, none, none, none, none, none], [.int (Int32.ofNat (op.getD q 0)), .ref (s + 11 + 1)], A)) rfl ?_
    refine wp_al rfl (Or.inr (Or.inl ⟨rfl, rfl⟩)) rfl p1 (by omega) (sb_gd 0 (by omega)) rfl ?_
    rw [ct_am_64 ho, ← ha0]
    refine wp_st 2 (f' := (53, [some (.ref (s)), some (.int (Int32.ofNat q)), some (.int (Int32.ofNat (op.getD q 0))), some (.long (Int64.ofNat U)), none, some (.long (Int64.ofNat a0)), none, none, none, none, none, none, none, none], [.ref (s)], A)) rfl ?_
    refine wp_gf rfl rfl q0 rfl rfl ?_
    refine wp_st 1 (f' := (57, [some (.ref (s)), some (.int (Int32.ofNat q)), some (.int (Int32.ofNat (op.getD q 0))), some (.long (Int64.ofNat U)), none, some (.long (Int64.ofNat a0)), none, none, none, none, none, none, none, none], [.int (Int32.ofNat q), .ref (s + 4)], A)) rfl ?_
    refine wp_al rfl (Or.inl ⟨rfl, rfl⟩) rfl q4 (by omega) (sb_gd 0 (by omega)) rfl ?_
    refine wp_st 1 (f' := (59, [some (.ref (s)), some (.int (Int32.ofNat q)), some (.int (Int32.ofNat (op.getD q 0))), some (.long (Int64.ofNat U)), none, some (.long (Int64.ofNat a0)), none, none, none, none, none, none, none, none], [.long ((Int32.ofNat (mo.getD q 0)).toInt64)], A)) rfl ?_
    rw [← hm0, i64_of (b := m0) (by omega)]
    refine wp_st 2 (f' := (61, [some (.ref (s)), some (.int (Int32.ofNat q)), some (.int (Int32.ofNat (op.getD q 0))), some (.long (Int64.ofNat U)), none, some (.long (Int64.ofNat a0)), none, none, none, none, none, none, none, none], [.long ((Int64.ofNat m0) * (Int64.ofNat U))], A)) rfl ?_
    rw [← Int64.ofNat_mul]
    refine wp_st 4 (f' := (67, [some (.ref (s)), some (.int (Int32.ofNat q)), some (.int (Int32.ofNat (op.getD q 0))), some (.long (Int64.ofNat U)), none, some (.long (Int64.ofNat a0)), none, some (.long (Int64.ofNat (m0 * U))), none, none, none, none, none, none], [.int (lg_cmp (Int64.ofNat (m0 * U)) (Int64.ofNat 0))], A)) rfl ?_
    refine wp_iz rfl rfl rfl (fun (h2 : (lg_cmp (Int64.ofNat (m0 * U)) (Int64.ofNat 0)) ≤ (Int32.ofNat 0)) => ?_) (fun (h2 : ¬ ((lg_cmp (Int64.ofNat (m0 * U)) (Int64.ofNat 0)) ≤ (Int32.ofNat 0))) => ?_)
    · skip
      have hmu : ¬ 0 < m0 * U := fun q => absurd ((i64_le (by omega) (by omega)).mp ((lg_cmp_le _ _).mp h2)) (by omega)
      rw [show Int64.ofNat (a0) = Int64.ofNat a9 from by rw [ha9, ct_A, ← hU, ← ha0, ← hm0, if_neg hmu]]
      refine wp_st 5 (f' := (83, [some (.ref (s)), some (.int (Int32.ofNat q)), some (.int (Int32.ofNat (op.getD q 0))), some (.long (Int64.ofNat U)), none, some (.long (Int64.ofNat a9)), none, some (.long (Int64.ofNat (m0 * U))), none, some (.int (Int32.ofNat 0)), none, none, none, none], [.int (lg_cmp (Int64.ofNat U) (Int64.ofNat 0))], A)) rfl ?_
      refine wp_izF rfl rfl (fun q => absurd ((i64_le (a := U) (b := 0) (by omega) (by omega)).mp ((lg_cmp_le _ _).mp q)) (by omega)) ?_
      refine wp_st 2 (f' := (89, [some (.ref (s)), some (.int (Int32.ofNat q)), some (.int (Int32.ofNat (op.getD q 0))), some (.long (Int64.ofNat U)), none, some (.long (Int64.ofNat a9)), none, some (.long (Int64.ofNat (m0 * U))), none, some (.int (Int32.ofNat 0)), none, none, none, none], [.long (Int64.ofNat U), .long (Int64.ofNat a9)], A)) rfl ?_
      refine wp_lr rfl (fun q => absurd ((i64_eq (a := U) (b := 0) (by omega) (by omega)).mp q) (by omega)) rfl ?_
      rw [i64_rem (by omega) (by omega)]
      refine wp_st 2 (f' := (92, [some (.ref (s)), some (.int (Int32.ofNat q)), some (.int (Int32.ofNat (op.getD q 0))), some (.long (Int64.ofNat U)), none, some (.long (Int64.ofNat a9)), none, some (.long (Int64.ofNat (m0 * U))), none, some (.int (Int32.ofNat 0)), none, none, none, none], [.int (lg_cmp (Int64.ofNat (a9 % U)) (Int64.ofNat 0))], A)) rfl ?_
      refine wp_iz rfl rfl rfl (fun (h3 : (lg_cmp (Int64.ofNat (a9 % U)) (Int64.ofNat 0)) ≠ (Int32.ofNat 0)) => ?_) (fun (h3 : ¬ ((lg_cmp (Int64.ofNat (a9 % U)) (Int64.ofNat 0)) ≠ (Int32.ofNat 0))) => ?_)
      · skip
        have hau : ¬ a9 % U = 0 := fun q => h3 ((lg_cmp_eq _ _).mpr ((i64_eq (by omega) (by omega)).mpr q))
        have hres : ct_in v k (op.getD q 0) m0 l h9 (fr.getD q 0) (re.getD q 0) = false := by rw [hm0, ct_in, ← ha9, ← hU, if_neg hau]
        rw [hres]
        exact rl_t (f := false) hq hh
      · skip
        have hau : a9 % U = 0 := (i64_eq (by omega) (by omega)).mp ((lg_cmp_eq _ _).mp (Decidable.not_not.mp h3))
        refine wp_st 2 (f' := (98, [some (.ref (s)), some (.int (Int32.ofNat q)), some (.int (Int32.ofNat (op.getD q 0))), some (.long (Int64.ofNat U)), none, some (.long (Int64.ofNat a9)), none, some (.long (Int64.ofNat (m0 * U))), none, some (.int (Int32.ofNat 0)), none, none, none, none], [.long (Int64.ofNat U), .long (Int64.ofNat a9)], A)) rfl ?_
        refine wp_dv rfl (fun q => absurd ((i64_eq (a := U) (b := 0) (by omega) (by omega)).mp q) (by omega)) rfl ?_
        rw [i64_div (by omega) (by omega)]
        refine wp_st 2 (f' := (102, [some (.ref (s)), some (.int (Int32.ofNat q)), some (.int (Int32.ofNat (op.getD q 0))), some (.long (Int64.ofNat U)), none, some (.long (Int64.ofNat a9)), none, some (.long (Int64.ofNat (m0 * U))), none, some (.int (Int32.ofNat 0)), some (.long (Int64.ofNat (a9 / U))), none, none, none], [.ref (s)], A)) rfl ?_
        refine wp_gf rfl rfl q0 rfl rfl ?_
        refine wp_st 1 (f' := (106, [some (.ref (s)), some (.int (Int32.ofNat q)), some (.int (Int32.ofNat (op.getD q 0))), some (.long (Int64.ofNat U)), none, some (.long (Int64.ofNat a9)), none, some (.long (Int64.ofNat (m0 * U))), none, some (.int (Int32.ofNat 0)), some (.long (Int64.ofNat (a9 / U))), none, none, none], [.int (Int32.ofNat q), .ref (s + 8)], A)) rfl ?_
        refine wp_al rfl (Or.inl ⟨rfl, rfl⟩) rfl q8 (by omega) (sb_gd 0 (by omega)) rfl ?_
        refine wp_st 2 (f' := (110, [some (.ref (s)), some (.int (Int32.ofNat q)), some (.int (Int32.ofNat (op.getD q 0))), some (.long (Int64.ofNat U)), none, some (.long (Int64.ofNat a9)), none, some (.long (Int64.ofNat (m0 * U))), none, some (.int (Int32.ofNat 0)), some (.long (Int64.ofNat (a9 / U))), none, some (.int (Int32.ofNat (re.getD q 0))), none], [.ref (s)], A)) rfl ?_
        refine wp_gf rfl rfl q0 rfl rfl ?_
        refine wp_st 1 (f' := (114, [some (.ref (s)), some (.int (Int32.ofNat q)), some (.int (Int32.ofNat (op.getD q 0))), some (.long (Int64.ofNat U)), none, some (.long (Int64.ofNat a9)), none, some (.long (Int64.ofNat (m0 * U))), none, some (.int (Int32.ofNat 0)), some (.long (Int64.ofNat (a9 / U))), none, some (.int (Int32.ofNat (re.getD q 0))), none], [.int (Int32.ofNat q), .ref (s + 7)], A)) rfl ?_
        refine wp_al rfl (Or.inl ⟨rfl, rfl⟩) rfl q7 (by omega) (sb_gd 0 (by omega)) rfl ?_
        refine wp_st 1 (f' := (117, [some (.ref (s)), some (.int (Int32.ofNat q)), some (.int (Int32.ofNat (op.getD q 0))), some (.long (Int64.ofNat U)), none, some (.long (Int64.ofNat a9)), none, some (.long (Int64.ofNat (m0 * U))), none, some (.int (Int32.ofNat 0)), some (.long (Int64.ofNat (a9 / U))), none, some (.int (Int32.ofNat (re.getD q 0))), some (.int (Int32.ofNat (fr.getD q 0)))], [], A)) rfl ?_
        have hres : ct_in v k (op.getD q 0) m0 l h9 (fr.getD q 0) (re.getD q 0) = sb_ir (a9 / U) lo hi (re.getD q 0 - fr.getD q 0) (fr.getD q 0) false := by rw [hm0, ct_in, ← ha9, ← hU, if_pos hau, ct_ir_eq e1 e2]
        rw [hres]
        exact rl_l hW9 hre9 hlo hhi hh _ _ false rfl hfr9 (rl_t hq hh)
    · skip
      have hmu : 0 < m0 * U := Nat.lt_of_not_le (fun q => h2 ((lg_cmp_le _ _).mpr ((i64_le (by omega) (by omega)).mpr q)))
      refine wp_st 2 (f' := (74, [some (.ref (s)), some (.int (Int32.ofNat q)), some (.int (Int32.ofNat (op.getD q 0))), some (.long (Int64.ofNat U)), none, some (.long (Int64.ofNat a0)), none, some (.long (Int64.ofNat (m0 * U))), none, none, none, none, none, none], [.long (Int64.ofNat (m0 * U)), .long (Int64.ofNat a0)], A)) rfl ?_
      refine wp_lr rfl (fun q => absurd ((i64_eq (a := m0 * U) (b := 0) (by omega) (by omega)).mp q) (by omega)) rfl ?_
      rw [i64_rem (by omega) (by omega)]
      refine wp_st 1 (f' := (77, [some (.ref (s)), some (.int (Int32.ofNat q)), some (.int (Int32.ofNat (op.getD q 0))), some (.long (Int64.ofNat U)), none, some (.long (Int64.ofNat (a0 % (m0 * U)))), none, some (.long (Int64.ofNat (m0 * U))), none, none, none, none, none, none], [], A)) rfl ?_
      rw [show Int64.ofNat (a0 % (m0 * U)) = Int64.ofNat a9 from by rw [ha9, ct_A, ← hU, ← ha0, ← hm0, if_pos hmu]]
      refine wp_st 5 (f' := (83, [some (.ref (s)), some (.int (Int32.ofNat q)), some (.int (Int32.ofNat (op.getD q 0))), some (.long (Int64.ofNat U)), none, some (.long (Int64.ofNat a9)), none, some (.long (Int64.ofNat (m0 * U))), none, some (.int (Int32.ofNat 0)), none, none, none, none], [.int (lg_cmp (Int64.ofNat U) (Int64.ofNat 0))], A)) rfl ?_
      refine wp_izF rfl rfl (fun q => absurd ((i64_le (a := U) (b := 0) (by omega) (by omega)).mp ((lg_cmp_le _ _).mp q)) (by omega)) ?_
      refine wp_st 2 (f' := (89, [some (.ref (s)), some (.int (Int32.ofNat q)), some (.int (Int32.ofNat (op.getD q 0))), some (.long (Int64.ofNat U)), none, some (.long (Int64.ofNat a9)), none, some (.long (Int64.ofNat (m0 * U))), none, some (.int (Int32.ofNat 0)), none, none, none, none], [.long (Int64.ofNat U), .long (Int64.ofNat a9)], A)) rfl ?_
      refine wp_lr rfl (fun q => absurd ((i64_eq (a := U) (b := 0) (by omega) (by omega)).mp q) (by omega)) rfl ?_
      rw [i64_rem (by omega) (by omega)]
      refine wp_st 2 (f' := (92, [some (.ref (s)), some (.int (Int32.ofNat q)), some (.int (Int32.ofNat (op.getD q 0))), some (.long (Int64.ofNat U)), none, some (.long (Int64.ofNat a9)), none, some (.long (Int64.ofNat (m0 * U))), none, some (.int (Int32.ofNat 0)), none, none, none, none], [.int (lg_cmp (Int64.ofNat (a9 % U)) (Int64.ofNat 0))], A)) rfl ?_
      refine wp_iz rfl rfl rfl (fun (h4 : (lg_cmp (Int64.ofNat (a9 % U)) (Int64.ofNat 0)) ≠ (Int32.ofNat 0)) => ?_) (fun (h4 : ¬ ((lg_cmp (Int64.ofNat (a9 % U)) (Int64.ofNat 0)) ≠ (Int32.ofNat 0))) => ?_)
      · skip
        have hau : ¬ a9 % U = 0 := fun q => h4 ((lg_cmp_eq _ _).mpr ((i64_eq (by omega) (by omega)).mpr q))
        have hres : ct_in v k (op.getD q 0) m0 l h9 (fr.getD q 0) (re.getD q 0) = false := by rw [hm0, ct_in, ← ha9, ← hU, if_neg hau]
        rw [hres]
        exact rl_t (f := false) hq hh
      · skip
        have hau : a9 % U = 0 := (i64_eq (by omega) (by omega)).mp ((lg_cmp_eq _ _).mp (Decidable.not_not.mp h4))
        refine wp_st 2 (f' := (98, [some (.ref (s)), some (.int (Int32.ofNat q)), some (.int (Int32.ofNat (op.getD q 0))), some (.long (Int64.ofNat U)), none, some (.long (Int64.ofNat a9)), none, some (.long (Int64.ofNat (m0 * U))), none, some (.int (Int32.ofNat 0)), none, none, none, none], [.long (Int64.ofNat U), .long (Int64.ofNat a9)], A)) rfl ?_
        refine wp_dv rfl (fun q => absurd ((i64_eq (a := U) (b := 0) (by omega) (by omega)).mp q) (by omega)) rfl ?_
        rw [i64_div (by omega) (by omega)]
        refine wp_st 2 (f' := (102, [some (.ref (s)), some (.int (Int32.ofNat q)), some (.int (Int32.ofNat (op.getD q 0))), some (.long (Int64.ofNat U)), none, some (.long (Int64.ofNat a9)), none, some (.long (Int64.ofNat (m0 * U))), none, some (.int (Int32.ofNat 0)), some (.long (Int64.ofNat (a9 / U))), none, none, none], [.ref (s)], A)) rfl ?_
        refine wp_gf rfl rfl q0 rfl rfl ?_
        refine wp_st 1 (f' := (106, [some (.ref (s)), some (.int (Int32.ofNat q)), some (.int (Int32.ofNat (op.getD q 0))), some (.long (Int64.ofNat U)), none, some (.long (Int64.ofNat a9)), none, some (.long (Int64.ofNat (m0 * U))), none, some (.int (Int32.ofNat 0)), some (.long (Int64.ofNat (a9 / U))), none, none, none], [.int (Int32.ofNat q), .ref (s + 8)], A)) rfl ?_
        refine wp_al rfl (Or.inl ⟨rfl, rfl⟩) rfl q8 (by omega) (sb_gd 0 (by omega)) rfl ?_
        refine wp_st 2 (f' := (110, [some (.ref (s)), some (.int (Int32.ofNat q)), some (.int (Int32.ofNat (op.getD q 0))), some (.long (Int64.ofNat U)), none, some (.long (Int64.ofNat a9)), none, some (.long (Int64.ofNat (m0 * U))), none, some (.int (Int32.ofNat 0)), some (.long (Int64.ofNat (a9 / U))), none, some (.int (Int32.ofNat (re.getD q 0))), none], [.ref (s)], A)) rfl ?_
        refine wp_gf rfl rfl q0 rfl rfl ?_
        refine wp_st 1 (f' := (114, [some (.ref (s)), some (.int (Int32.ofNat q)), some (.int (Int32.ofNat (op.getD q 0))), some (.long (Int64.ofNat U)), none, some (.long (Int64.ofNat a9)), none, some (.long (Int64.ofNat (m0 * U))), none, some (.int (Int32.ofNat 0)), some (.long (Int64.ofNat (a9 / U))), none, some (.int (Int32.ofNat (re.getD q 0))), none], [.int (Int32.ofNat q), .ref (s + 7)], A)) rfl ?_
        refine wp_al rfl (Or.inl ⟨rfl, rfl⟩) rfl q7 (by omega) (sb_gd 0 (by omega)) rfl ?_
        refine wp_st 1 (f' := (117, [some (.ref (s)), some (.int (Int32.ofNat q)), some (.int (Int32.ofNat (op.getD q 0))), some (.long (Int64.ofNat U)), none, some (.long (Int64.ofNat a9)), none, some (.long (Int64.ofNat (m0 * U))), none, some (.int (Int32.ofNat 0)), some (.long (Int64.ofNat (a9 / U))), none, some (.int (Int32.ofNat (re.getD q 0))), some (.int (Int32.ofNat (fr.getD q 0)))], [], A)) rfl ?_
        have hres : ct_in v k (op.getD q 0) m0 l h9 (fr.getD q 0) (re.getD q 0) = sb_ir (a9 / U) lo hi (re.getD q 0 - fr.getD q 0) (fr.getD q 0) false := by rw [hm0, ct_in, ← ha9, ← hU, if_pos hau, ct_ir_eq e1 e2]
        rw [hres]
        exact rl_l hW9 hre9 hlo hhi hh _ _ false rfl hfr9 (rl_t hq hh)
  · skip
    rw [ne_eq, i32_eq (by omega) (by omega)] at h1
    refine wp_st 1 (f' := (30, [some (.ref (s)), some (.int (Int32.ofNat q)), some (.int (Int32.ofNat (op.getD q 0))), none, none, none, none, none, none, none, none, none, none, none], [.ref (s)], A)) rfl ?_
    refine wp_gf rfl rfl q0 rfl rfl ?_
    refine wp_gf rfl rfl p0 rfl rfl ?_
    refine wp_st 1 (f' := (40, [some (.ref (s)), some (.int (Int32.ofNat q)), some (.int (Int32.ofNat (op.getD q 0))), none, none, none, none, none, none, none, none, none, none, none], [.long (Int64.ofNat (10 ^ k))], A)) rfl ?_
    rw [show Int64.ofNat (10 ^ k) = Int64.ofNat (ct_U k (op.getD q 0)) from by rw [ct_U, if_pos (Decidable.not_not.mp h1)]]
    rw [← hU]
    refine wp_st 2 (f' := (42, [some (.ref (s)), some (.int (Int32.ofNat q)), some (.int (Int32.ofNat (op.getD q 0))), some (.long (Int64.ofNat U)), none, none, none, none, none, none, none, none, none, none], [.ref (s)], A)) rfl ?_
    refine wp_gf rfl rfl q0 rfl rfl ?_
    refine wp_gf rfl rfl p0 rfl rfl ?_
    refine wp_st 1 (f' := (49, [some (.ref (s)), some (.int (Int32.ofNat q)), some (.int (Int32.ofNat (op.getD q 0))), some (.long (Int64.ofNat U)), none, none, none, none, none, none, none, none, none, none], [.int (Int32.ofNat (op.getD q 0)), .ref (s + 11 + 1)], A)) rfl ?_
    refine wp_al rfl (Or.inr (Or.inl ⟨rfl, rfl⟩)) rfl p1 (by omega) (sb_gd 0 (by omega)) rfl ?_
    rw [ct_am_64 ho, ← ha0]
    refine wp_st 2 (f' := (53, [some (.ref (s)), some (.int (Int32.ofNat q)), some (.int (Int32.ofNat (op.getD q 0))), some (.long (Int64.ofNat U)), none, some (.long (Int64.ofNat a0)), none, none, none, none, none, none, none, none], [.ref (s)], A)) rfl ?_
    refine wp_gf rfl rfl q0 rfl rfl ?_
    refine wp_st 1 (f' := (57, [some (.ref (s)), some (.int (Int32.ofNat q)), some (.int (Int32.ofNat (op.getD q 0))), some (.long (Int64.ofNat U)), none, some (.long (Int64.ofNat a0)), none, none, none, none, none, none, none, none], [.int (Int32.ofNat q), .ref (s + 4)], A)) rfl ?_
    refine wp_al rfl (Or.inl ⟨rfl, rfl⟩) rfl q4 (by omega) (sb_gd 0 (by omega)) rfl ?_
    refine wp_st 1 (f' := (59, [some (.ref (s)), some (.int (Int32.ofNat q)), some (.int (Int32.ofNat (op.getD q 0))), some (.long (Int64.ofNat U)), none, some (.long (Int64.ofNat a0)), none, none, none, none, none, none, none, none], [.long ((Int32.ofNat (mo.getD q 0)).toInt64)], A)) rfl ?_
    rw [← hm0, i64_of (b := m0) (by omega)]
    refine wp_st 2 (f' := (61, [some (.ref (s)), some (.int (Int32.ofNat q)), some (.int (Int32.ofNat (op.getD q 0))), some (.long (Int64.ofNat U)), none, some (.long (Int64.ofNat a0)), none, none, none, none, none, none, none, none], [.long ((Int64.ofNat m0) * (Int64.ofNat U))], A)) rfl ?_
    rw [← Int64.ofNat_mul]
    refine wp_st 4 (f' := (67, [some (.ref (s)), some (.int (Int32.ofNat q)), some (.int (Int32.ofNat (op.getD q 0))), some (.long (Int64.ofNat U)), none, some (.long (Int64.ofNat a0)), none, some (.long (Int64.ofNat (m0 * U))), none, none, none, none, none, none], [.int (lg_cmp (Int64.ofNat (m0 * U)) (Int64.ofNat 0))], A)) rfl ?_
    refine wp_iz rfl rfl rfl (fun (h5 : (lg_cmp (Int64.ofNat (m0 * U)) (Int64.ofNat 0)) ≤ (Int32.ofNat 0)) => ?_) (fun (h5 : ¬ ((lg_cmp (Int64.ofNat (m0 * U)) (Int64.ofNat 0)) ≤ (Int32.ofNat 0))) => ?_)
    · skip
      have hmu : ¬ 0 < m0 * U := fun q => absurd ((i64_le (by omega) (by omega)).mp ((lg_cmp_le _ _).mp h5)) (by omega)
      rw [show Int64.ofNat (a0) = Int64.ofNat a9 from by rw [ha9, ct_A, ← hU, ← ha0, ← hm0, if_neg hmu]]
      refine wp_st 5 (f' := (83, [some (.ref (s)), some (.int (Int32.ofNat q)), some (.int (Int32.ofNat (op.getD q 0))), some (.long (Int64.ofNat U)), none, some (.long (Int64.ofNat a9)), none, some (.long (Int64.ofNat (m0 * U))), none, some (.int (Int32.ofNat 0)), none, none, none, none], [.int (lg_cmp (Int64.ofNat U) (Int64.ofNat 0))], A)) rfl ?_
      refine wp_izF rfl rfl (fun q => absurd ((i64_le (a := U) (b := 0) (by omega) (by omega)).mp ((lg_cmp_le _ _).mp q)) (by omega)) ?_
      refine wp_st 2 (f' := (89, [some (.ref (s)), some (.int (Int32.ofNat q)), some (.int (Int32.ofNat (op.getD q 0))), some (.long (Int64.ofNat U)), none, some (.long (Int64.ofNat a9)), none, some (.long (Int64.ofNat (m0 * U))), none, some (.int (Int32.ofNat 0)), none, none, none, none], [.long (Int64.ofNat U), .long (Int64.ofNat a9)], A)) rfl ?_
      refine wp_lr rfl (fun q => absurd ((i64_eq (a := U) (b := 0) (by omega) (by omega)).mp q) (by omega)) rfl ?_
      rw [i64_rem (by omega) (by omega)]
      refine wp_st 2 (f' := (92, [some (.ref (s)), some (.int (Int32.ofNat q)), some (.int (Int32.ofNat (op.getD q 0))), some (.long (Int64.ofNat U)), none, some (.long (Int64.ofNat a9)), none, some (.long (Int64.ofNat (m0 * U))), none, some (.int (Int32.ofNat 0)), none, none, none, none], [.int (lg_cmp (Int64.ofNat (a9 % U)) (Int64.ofNat 0))], A)) rfl ?_
      refine wp_iz rfl rfl rfl (fun (h6 : (lg_cmp (Int64.ofNat (a9 % U)) (Int64.ofNat 0)) ≠ (Int32.ofNat 0)) => ?_) (fun (h6 : ¬ ((lg_cmp (Int64.ofNat (a9 % U)) (Int64.ofNat 0)) ≠ (Int32.ofNat 0))) => ?_)
      · skip
        have hau : ¬ a9 % U = 0 := fun q => h6 ((lg_cmp_eq _ _).mpr ((i64_eq (by omega) (by omega)).mpr q))
        have hres : ct_in v k (op.getD q 0) m0 l h9 (fr.getD q 0) (re.getD q 0) = false := by rw [hm0, ct_in, ← ha9, ← hU, if_neg hau]
        rw [hres]
        exact rl_t (f := false) hq hh
      · skip
        have hau : a9 % U = 0 := (i64_eq (by omega) (by omega)).mp ((lg_cmp_eq _ _).mp (Decidable.not_not.mp h6))
        refine wp_st 2 (f' := (98, [some (.ref (s)), some (.int (Int32.ofNat q)), some (.int (Int32.ofNat (op.getD q 0))), some (.long (Int64.ofNat U)), none, some (.long (Int64.ofNat a9)), none, some (.long (Int64.ofNat (m0 * U))), none, some (.int (Int32.ofNat 0)), none, none, none, none], [.long (Int64.ofNat U), .long (Int64.ofNat a9)], A)) rfl ?_
        refine wp_dv rfl (fun q => absurd ((i64_eq (a := U) (b := 0) (by omega) (by omega)).mp q) (by omega)) rfl ?_
        rw [i64_div (by omega) (by omega)]
        refine wp_st 2 (f' := (102, [some (.ref (s)), some (.int (Int32.ofNat q)), some (.int (Int32.ofNat (op.getD q 0))), some (.long (Int64.ofNat U)), none, some (.long (Int64.ofNat a9)), none, some (.long (Int64.ofNat (m0 * U))), none, some (.int (Int32.ofNat 0)), some (.long (Int64.ofNat (a9 / U))), none, none, none], [.ref (s)], A)) rfl ?_
        refine wp_gf rfl rfl q0 rfl rfl ?_
        refine wp_st 1 (f' := (106, [some (.ref (s)), some (.int (Int32.ofNat q)), some (.int (Int32.ofNat (op.getD q 0))), some (.long (Int64.ofNat U)), none, some (.long (Int64.ofNat a9)), none, some (.long (Int64.ofNat (m0 * U))), none, some (.int (Int32.ofNat 0)), some (.long (Int64.ofNat (a9 / U))), none, none, none], [.int (Int32.ofNat q), .ref (s + 8)], A)) rfl ?_
        refine wp_al rfl (Or.inl ⟨rfl, rfl⟩) rfl q8 (by omega) (sb_gd 0 (by omega)) rfl ?_
        refine wp_st 2 (f' := (110, [some (.ref (s)), some (.int (Int32.ofNat q)), some (.int (Int32.ofNat (op.getD q 0))), some (.long (Int64.ofNat U)), none, some (.long (Int64.ofNat a9)), none, some (.long (Int64.ofNat (m0 * U))), none, some (.int (Int32.ofNat 0)), some (.long (Int64.ofNat (a9 / U))), none, some (.int (Int32.ofNat (re.getD q 0))), none], [.ref (s)], A)) rfl ?_
        refine wp_gf rfl rfl q0 rfl rfl ?_
        refine wp_st 1 (f' := (114, [some (.ref (s)), some (.int (Int32.ofNat q)), some (.int (Int32.ofNat (op.getD q 0))), some (.long (Int64.ofNat U)), none, some (.long (Int64.ofNat a9)), none, some (.long (Int64.ofNat (m0 * U))), none, some (.int (Int32.ofNat 0)), some (.long (Int64.ofNat (a9 / U))), none, some (.int (Int32.ofNat (re.getD q 0))), none], [.int (Int32.ofNat q), .ref (s + 7)], A)) rfl ?_
        refine wp_al rfl (Or.inl ⟨rfl, rfl⟩) rfl q7 (by omega) (sb_gd 0 (by omega)) rfl ?_
        refine wp_st 1 (f' := (117, [some (.ref (s)), some (.int (Int32.ofNat q)), some (.int (Int32.ofNat (op.getD q 0))), some (.long (Int64.ofNat U)), none, some (.long (Int64.ofNat a9)), none, some (.long (Int64.ofNat (m0 * U))), none, some (.int (Int32.ofNat 0)), some (.long (Int64.ofNat (a9 / U))), none, some (.int (Int32.ofNat (re.getD q 0))), some (.int (Int32.ofNat (fr.getD q 0)))], [], A)) rfl ?_
        have hres : ct_in v k (op.getD q 0) m0 l h9 (fr.getD q 0) (re.getD q 0) = sb_ir (a9 / U) lo hi (re.getD q 0 - fr.getD q 0) (fr.getD q 0) false := by rw [hm0, ct_in, ← ha9, ← hU, if_pos hau, ct_ir_eq e1 e2]
        rw [hres]
        exact rl_l hW9 hre9 hlo hhi hh _ _ false rfl hfr9 (rl_t hq hh)
    · skip
      have hmu : 0 < m0 * U := Nat.lt_of_not_le (fun q => h5 ((lg_cmp_le _ _).mpr ((i64_le (by omega) (by omega)).mpr q)))
      refine wp_st 2 (f' := (74, [some (.ref (s)), some (.int (Int32.ofNat q)), some (.int (Int32.ofNat (op.getD q 0))), some (.long (Int64.ofNat U)), none, some (.long (Int64.ofNat a0)), none, some (.long (Int64.ofNat (m0 * U))), none, none, none, none, none, none], [.long (Int64.ofNat (m0 * U)), .long (Int64.ofNat a0)], A)) rfl ?_
      refine wp_lr rfl (fun q => absurd ((i64_eq (a := m0 * U) (b := 0) (by omega) (by omega)).mp q) (by omega)) rfl ?_
      rw [i64_rem (by omega) (by omega)]
      refine wp_st 1 (f' := (77, [some (.ref (s)), some (.int (Int32.ofNat q)), some (.int (Int32.ofNat (op.getD q 0))), some (.long (Int64.ofNat U)), none, some (.long (Int64.ofNat (a0 % (m0 * U)))), none, some (.long (Int64.ofNat (m0 * U))), none, none, none, none, none, none], [], A)) rfl ?_
      rw [show Int64.ofNat (a0 % (m0 * U)) = Int64.ofNat a9 from by rw [ha9, ct_A, ← hU, ← ha0, ← hm0, if_pos hmu]]
      refine wp_st 5 (f' := (83, [some (.ref (s)), some (.int (Int32.ofNat q)), some (.int (Int32.ofNat (op.getD q 0))), some (.long (Int64.ofNat U)), none, some (.long (Int64.ofNat a9)), none, some (.long (Int64.ofNat (m0 * U))), none, some (.int (Int32.ofNat 0)), none, none, none, none], [.int (lg_cmp (Int64.ofNat U) (Int64.ofNat 0))], A)) rfl ?_
      refine wp_izF rfl rfl (fun q => absurd ((i64_le (a := U) (b := 0) (by omega) (by omega)).mp ((lg_cmp_le _ _).mp q)) (by omega)) ?_
      refine wp_st 2 (f' := (89, [some (.ref (s)), some (.int (Int32.ofNat q)), some (.int (Int32.ofNat (op.getD q 0))), some (.long (Int64.ofNat U)), none, some (.long (Int64.ofNat a9)), none, some (.long (Int64.ofNat (m0 * U))), none, some (.int (Int32.ofNat 0)), none, none, none, none], [.long (Int64.ofNat U), .long (Int64.ofNat a9)], A)) rfl ?_
      refine wp_lr rfl (fun q => absurd ((i64_eq (a := U) (b := 0) (by omega) (by omega)).mp q) (by omega)) rfl ?_
      rw [i64_rem (by omega) (by omega)]
      refine wp_st 2 (f' := (92, [some (.ref (s)), some (.int (Int32.ofNat q)), some (.int (Int32.ofNat (op.getD q 0))), some (.long (Int64.ofNat U)), none, some (.long (Int64.ofNat a9)), none, some (.long (Int64.ofNat (m0 * U))), none, some (.int (Int32.ofNat 0)), none, none, none, none], [.int (lg_cmp (Int64.ofNat (a9 % U)) (Int64.ofNat 0))], A)) rfl ?_
      refine wp_iz rfl rfl rfl (fun (h7 : (lg_cmp (Int64.ofNat (a9 % U)) (Int64.ofNat 0)) ≠ (Int32.ofNat 0)) => ?_) (fun (h7 : ¬ ((lg_cmp (Int64.ofNat (a9 % U)) (Int64.ofNat 0)) ≠ (Int32.ofNat 0))) => ?_)
      · skip
        have hau : ¬ a9 % U = 0 := fun q => h7 ((lg_cmp_eq _ _).mpr ((i64_eq (by omega) (by omega)).mpr q))
        have hres : ct_in v k (op.getD q 0) m0 l h9 (fr.getD q 0) (re.getD q 0) = false := by rw [hm0, ct_in, ← ha9, ← hU, if_neg hau]
        rw [hres]
        exact rl_t (f := false) hq hh
      · skip
        have hau : a9 % U = 0 := (i64_eq (by omega) (by omega)).mp ((lg_cmp_eq _ _).mp (Decidable.not_not.mp h7))
        refine wp_st 2 (f' := (98, [some (.ref (s)), some (.int (Int32.ofNat q)), some (.int (Int32.ofNat (op.getD q 0))), some (.long (Int64.ofNat U)), none, some (.long (Int64.ofNat a9)), none, some (.long (Int64.ofNat (m0 * U))), none, some (.int (Int32.ofNat 0)), none, none, none, none], [.long (Int64.ofNat U), .long (Int64.ofNat a9)], A)) rfl ?_
        refine wp_dv rfl (fun q => absurd ((i64_eq (a := U) (b := 0) (by omega) (by omega)).mp q) (by omega)) rfl ?_
        rw [i64_div (by omega) (by omega)]
        refine wp_st 2 (f' := (102, [some (.ref (s)), some (.int (Int32.ofNat q)), some (.int (Int32.ofNat (op.getD q 0))), some (.long (Int64.ofNat U)), none, some (.long (Int64.ofNat a9)), none, some (.long (Int64.ofNat (m0 * U))), none, some (.int (Int32.ofNat 0)), some (.long (Int64.ofNat (a9 / U))), none, none, none], [.ref (s)], A)) rfl ?_
        refine wp_gf rfl rfl q0 rfl rfl ?_
        refine wp_st 1 (f' := (106, [some (.ref (s)), some (.int (Int32.ofNat q)), some (.int (Int32.ofNat (op.getD q 0))), some (.long (Int64.ofNat U)), none, some (.long (Int64.ofNat a9)), none, some (.long (Int64.ofNat (m0 * U))), none, some (.int (Int32.ofNat 0)), some (.long (Int64.ofNat (a9 / U))), none, none, none], [.int (Int32.ofNat q), .ref (s + 8)], A)) rfl ?_
        refine wp_al rfl (Or.inl ⟨rfl, rfl⟩) rfl q8 (by omega) (sb_gd 0 (by omega)) rfl ?_
        refine wp_st 2 (f' := (110, [some (.ref (s)), some (.int (Int32.ofNat q)), some (.int (Int32.ofNat (op.getD q 0))), some (.long (Int64.ofNat U)), none, some (.long (Int64.ofNat a9)), none, some (.long (Int64.ofNat (m0 * U))), none, some (.int (Int32.ofNat 0)), some (.long (Int64.ofNat (a9 / U))), none, some (.int (Int32.ofNat (re.getD q 0))), none], [.ref (s)], A)) rfl ?_
        refine wp_gf rfl rfl q0 rfl rfl ?_
        refine wp_st 1 (f' := (114, [some (.ref (s)), some (.int (Int32.ofNat q)), some (.int (Int32.ofNat (op.getD q 0))), some (.long (Int64.ofNat U)), none, some (.long (Int64.ofNat a9)), none, some (.long (Int64.ofNat (m0 * U))), none, some (.int (Int32.ofNat 0)), some (.long (Int64.ofNat (a9 / U))), none, some (.int (Int32.ofNat (re.getD q 0))), none], [.int (Int32.ofNat q), .ref (s + 7)], A)) rfl ?_
        refine wp_al rfl (Or.inl ⟨rfl, rfl⟩) rfl q7 (by omega) (sb_gd 0 (by omega)) rfl ?_
        refine wp_st 1 (f' := (117, [some (.ref (s)), some (.int (Int32.ofNat q)), some (.int (Int32.ofNat (op.getD q 0))), some (.long (Int64.ofNat U)), none, some (.long (Int64.ofNat a9)), none, some (.long (Int64.ofNat (m0 * U))), none, some (.int (Int32.ofNat 0)), some (.long (Int64.ofNat (a9 / U))), none, some (.int (Int32.ofNat (re.getD q 0))), some (.int (Int32.ofNat (fr.getD q 0)))], [], A)) rfl ?_
        have hres : ct_in v k (op.getD q 0) m0 l h9 (fr.getD q 0) (re.getD q 0) = sb_ir (a9 / U) lo hi (re.getD q 0 - fr.getD q 0) (fr.getD q 0) false := by rw [hm0, ct_in, ← ha9, ← hU, if_pos hau, ct_ir_eq e1 e2]
        rw [hres]
        exact rl_l hW9 hre9 hlo hhi hh _ _ false rfl hfr9 (rl_t hq hh)
