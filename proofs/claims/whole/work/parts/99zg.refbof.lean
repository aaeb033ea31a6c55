/-! The reference: branchOf. -/
theorem rn_bo_l {d b a i : Nat} {z1 : Int32} {y : Int64} {M : mg} {m : Nat → Bool} {s : rf_S} {A : am_H} (hc : rm_ch s M a) (hm : rm_mt s M a (fun f v => f = false ∧ v = y) m) (h : rf A b s) : ∀ (q k j : Nat), k < q → j + k = mg_B M → am_wp d 173 (8, [some (.ref b), some (.int z1), some (.long y), none, some (.int (rm_i a (mg_bo (mg_w M) i k j)))], [], A) (fun z => z = (.inl (some (.int (rm_i a (mg_bf (mg_w M) m i k j)))), A)) := by
  intro q
  induction q with
  | zero =>
    intro k j h1
    omega
  | succ q ih =>
    intro k j hq hj
    rcases ho : mg_bo (mg_w M) i k j with _ | c
    · rw [mg_bf_bn ho]
      show am_wp d 173 (8, [some (.ref b), some (.int z1), some (.long y), none, some (.int (-1))], [], A) _
      refine wp_st 1 (f' := (10, [some (.ref (b)), some (.int (z1)), some (.long (y)), none, some (.int ((-1)))], [.int ((-1))], A)) rfl ?_
      refine wp_izT rfl rfl (show (-1 : Int32) < (Int32.ofNat 0) from by decide) ?_
      refine wp_st 1 (f' := (51, [some (.ref (b)), some (.int (z1)), some (.long (y)), none, some (.int ((-1)))], [.int ((-1))], A)) rfl ?_
      refine wp_rt rfl rfl rfl ?_
      rfl
    · have hci := mg_bo_in ho
      rw [mg_bf_bo ho]
      show am_wp d 173 (8, [some (.ref b), some (.int z1), some (.long y), none, some (.int (Int32.ofNat (a + c)))], [], A) _
      obtain ⟨hca, hcB, hcn⟩ := hc
      obtain ⟨f, v, hf, hv, hfv⟩ := hm c (by omega)
      have hn := hcn c (by omega)
      rw [hci.2.2.1, rm_e_i] at hn
      have hee : j + k - (c + 1) = mg_B M - (c + 1) := by omega
      refine wp_st 1 (f' := (10, [some (.ref (b)), some (.int (z1)), some (.long (y)), none, some (.int (Int32.ofNat (a + c)))], [.int (Int32.ofNat (a + c))], A)) rfl ?_
      refine wp_izF rfl rfl (Int32.ofNat_not_neg (by omega)) ?_
      refine wp_st 1 (f' := (14, [some (.ref (b)), some (.int (z1)), some (.long (y)), none, some (.int (Int32.ofNat (a + c)))], [.ref (b)], A)) rfl ?_
      refine rw_gr h rfl rfl rfl rfl rfl rfl ?_
      refine wp_st 1 (f' := (19, [some (.ref (b)), some (.int (z1)), some (.long (y)), none, some (.int (Int32.ofNat (a + c)))], [.int (Int32.ofNat (a + c)), .ref (b + 11)], A)) rfl ?_
      refine rw_al (j := 13) (n := a + c) (v := .int (sb_i f)) h rfl rfl rfl (Or.inr (Or.inr (Or.inr (Or.inl ⟨rfl, rfl⟩)))) rfl (show _ < 192 from by omega) (hf) rfl ?_
      by_cases b1 : f = true
      · skip
        refine wp_izT rfl rfl (show sb_i f ≠ 0 from by rw [b1]; decide) ?_
        refine wp_st 1 (f' := (39, [some (.ref (b)), some (.int (z1)), some (.long (y)), none, some (.int (Int32.ofNat (a + c)))], [.ref (b)], A)) rfl ?_
        refine rw_gr h rfl rfl rfl rfl rfl rfl ?_
        refine wp_st 1 (f' := (44, [some (.ref (b)), some (.int (z1)), some (.long (y)), none, some (.int (Int32.ofNat (a + c)))], [.int (Int32.ofNat (a + c)), .ref (b + 14)], A)) rfl ?_
        refine rw_al (j := 16) (n := a + c) (v := .int (rm_i a (mg_bo (mg_w M) i (mg_B M - (c + 1)) (c + 1)))) h rfl rfl rfl (Or.inl ⟨rfl, rfl⟩) rfl (show _ < 192 from by omega) (hn) rfl ?_
        refine wp_st 2 (f' := (8, [some (.ref (b)), some (.int (z1)), some (.long (y)), none, some (.int (rm_i a (mg_bo (mg_w M) i (mg_B M - (c + 1)) (c + 1))))], [], A)) rfl ?_
        rw [if_neg (fun q => by have := (hfv.mpr q).1; rw [b1] at this; cases this)]
        rw [hee]
        exact ih (mg_B M - (c + 1)) (c + 1) (by omega) (by omega)
      · skip
        have b1f : f = false := by simpa using b1
        refine wp_izF rfl rfl (show ¬ (sb_i f ≠ 0) from by rw [b1f]; decide) ?_
        refine wp_st 1 (f' := (24, [some (.ref (b)), some (.int (z1)), some (.long (y)), none, some (.int (Int32.ofNat (a + c)))], [.ref (b)], A)) rfl ?_
        refine rw_gr h rfl rfl rfl rfl rfl rfl ?_
        refine wp_st 1 (f' := (29, [some (.ref (b)), some (.int (z1)), some (.long (y)), none, some (.int (Int32.ofNat (a + c)))], [.int (Int32.ofNat (a + c)), .ref (b + 12)], A)) rfl ?_
        refine rw_al (j := 14) (n := a + c) (v := .long (v)) h rfl rfl rfl (Or.inr (Or.inl ⟨rfl, rfl⟩)) rfl (show _ < 192 from by omega) (hv) rfl ?_
        refine wp_st 2 (f' := (32, [some (.ref (b)), some (.int (z1)), some (.long (y)), none, some (.int (Int32.ofNat (a + c)))], [.int (lg_cmp v y)], A)) rfl ?_
        refine wp_iz rfl rfl rfl (fun (h2 : (lg_cmp v y) ≠ (Int32.ofNat 0)) => ?_) (fun (h2 : ¬ ((lg_cmp v y) ≠ (Int32.ofNat 0))) => ?_)
        · skip
          refine wp_st 1 (f' := (39, [some (.ref (b)), some (.int (z1)), some (.long (y)), none, some (.int (Int32.ofNat (a + c)))], [.ref (b)], A)) rfl ?_
          refine rw_gr h rfl rfl rfl rfl rfl rfl ?_
          refine wp_st 1 (f' := (44, [some (.ref (b)), some (.int (z1)), some (.long (y)), none, some (.int (Int32.ofNat (a + c)))], [.int (Int32.ofNat (a + c)), .ref (b + 14)], A)) rfl ?_
          refine rw_al (j := 16) (n := a + c) (v := .int (rm_i a (mg_bo (mg_w M) i (mg_B M - (c + 1)) (c + 1)))) h rfl rfl rfl (Or.inl ⟨rfl, rfl⟩) rfl (show _ < 192 from by omega) (hn) rfl ?_
          refine wp_st 2 (f' := (8, [some (.ref (b)), some (.int (z1)), some (.long (y)), none, some (.int (rm_i a (mg_bo (mg_w M) i (mg_B M - (c + 1)) (c + 1))))], [], A)) rfl ?_
          rw [if_neg (fun q => by have := (hfv.mpr q).2; exact h2 ((lg_cmp_eq _ _).mpr this))]
          rw [hee]
          exact ih (mg_B M - (c + 1)) (c + 1) (by omega) (by omega)
        · skip
          replace h2 := Decidable.not_not.mp h2
          refine wp_st 1 (f' := (37, [some (.ref (b)), some (.int (z1)), some (.long (y)), none, some (.int (Int32.ofNat (a + c)))], [.int (Int32.ofNat (a + c))], A)) rfl ?_
          refine wp_rt rfl rfl rfl ?_
          rw [if_pos (hfv.mp ⟨b1f, (lg_cmp_eq _ _).mp h2⟩)]
          rfl
theorem rn_bo {d b a i x : Nat} {y : Int64} {M : mg} {m : Nat → Bool} {s : rf_S} {A : am_H} (hc : rm_ch s M a) (hm : rm_mt s M a (fun f v => f = false ∧ v = y) m) (hx : x < 192) (h12 : s 12 x = rm_e a (mg_bo (mg_w M) i (mg_B M) 0)) (h : rf A b s) : am_go d 173 [.ref b, .int (Int32.ofNat x), .long y] A (.inl (some (.int (rm_i a (mg_bf (mg_w M) m i (mg_B M) 0)))), A) := by
  refine wp_go ?_
  refine wp_st 1 (f' := (1, [some (.ref (b)), some (.int (Int32.ofNat x)), some (.long (y)), none, none], [.ref (b)], A)) rfl ?_
  refine rw_gr h rfl rfl rfl rfl rfl rfl ?_
  refine wp_st 1 (f' := (5, [some (.ref (b)), some (.int (Int32.ofNat x)), some (.long (y)), none, none], [.int (Int32.ofNat x), .ref (b + 10)], A)) rfl ?_
  refine rw_al (j := 12) (n := x) (v := .int (rm_i a (mg_bo (mg_w M) i (mg_B M) 0))) h rfl rfl rfl (Or.inl ⟨rfl, rfl⟩) rfl (show _ < 192 from by omega) (by rw [h12, rm_e_i]) rfl ?_
  refine wp_st 1 (f' := (8, [some (.ref (b)), some (.int (Int32.ofNat x)), some (.long (y)), none, some (.int (rm_i a (mg_bo (mg_w M) i (mg_B M) 0)))], [], A)) rfl ?_
  exact rn_bo_l hc hm h (mg_B M + 1) (mg_B M) 0 (by omega) (by omega)
