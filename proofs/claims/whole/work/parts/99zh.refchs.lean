/-! The reference: chosen. -/
theorem rn_ex_l {d b a i x jv k0 : Nat} {y0 y3 : Int64} {M : mg} {m : Nat → Bool} {s : rf_S} {A : am_H} {Q : am_O × am_H → Prop} (hd : 1 ≤ d) (hjv : jv < 6) (hk0 : k0 ≤ 6) (h45 : s 45 jv = .long y0) (h46 : s 46 jv = .int (Int32.ofNat k0)) (hc : rm_ch s M a) (hm : rm_mt s M a (fun f v => f = true ∧ v * Int64.ofNat (10 ^ k0) = y0) m) (h : rf A b s) : ∀ (q k j : Nat), k < q → j + k = mg_B M → (∀ c, mg_bf (mg_w M) m i k j = some c → Q (.inl (some (.int (Int32.ofNat (a + c)))), A)) → (mg_bf (mg_w M) m i k j = none → am_wp d 170 (101, [some (.ref b), some (.int (Int32.ofNat x)), some (.int (Int32.ofNat jv)), some (.long y3), none, some (.int (-1))], [], A) Q) → am_wp d 170 (44, [some (.ref b), some (.int (Int32.ofNat x)), some (.int (Int32.ofNat jv)), some (.long y3), none, some (.int (rm_i a (mg_bo (mg_w M) i k j)))], [], A) Q := by
  intro q
  induction q with
  | zero =>
    intro k j h1
    omega
  | succ q ih =>
    intro k j hq hj hfo hno
    rcases ho : mg_bo (mg_w M) i k j with _ | c
    · have hno := hno (mg_bf_bn ho)
      show am_wp d 170 (44, [some (.ref b), some (.int (Int32.ofNat x)), some (.int (Int32.ofNat jv)), some (.long y3), none, some (.int (-1))], [], A) _
      refine wp_st 1 (f' := (46, [some (.ref (b)), some (.int (Int32.ofNat x)), some (.int (Int32.ofNat jv)), some (.long (y3)), none, some (.int ((-1)))], [.int ((-1))], A)) rfl ?_
      refine wp_izT rfl rfl (show (-1 : Int32) < (Int32.ofNat 0) from by decide) ?_
      exact hno
    · have hci := mg_bo_in ho
      rw [mg_bf_bo ho] at hfo hno
      show am_wp d 170 (44, [some (.ref b), some (.int (Int32.ofNat x)), some (.int (Int32.ofNat jv)), some (.long y3), none, some (.int (Int32.ofNat (a + c)))], [], A) _
      obtain ⟨hca, hcB, hcn⟩ := hc
      obtain ⟨f, v, hf, hv, hfv⟩ := hm c (by omega)
      have hn := hcn c (by omega)
      rw [hci.2.2.1, rm_e_i] at hn
      have hee : j + k - (c + 1) = mg_B M - (c + 1) := by omega
      rw [hee] at hfo hno
      refine wp_st 1 (f' := (46, [some (.ref (b)), some (.int (Int32.ofNat x)), some (.int (Int32.ofNat jv)), some (.long (y3)), none, some (.int (Int32.ofNat (a + c)))], [.int (Int32.ofNat (a + c))], A)) rfl ?_
      refine wp_izF rfl rfl (Int32.ofNat_not_neg (by omega)) ?_
      refine wp_st 1 (f' := (50, [some (.ref (b)), some (.int (Int32.ofNat x)), some (.int (Int32.ofNat jv)), some (.long (y3)), none, some (.int (Int32.ofNat (a + c)))], [.ref (b)], A)) rfl ?_
      refine rw_gr h rfl rfl rfl rfl rfl rfl ?_
      refine wp_st 1 (f' := (55, [some (.ref (b)), some (.int (Int32.ofNat x)), some (.int (Int32.ofNat jv)), some (.long (y3)), none, some (.int (Int32.ofNat (a + c)))], [.int (Int32.ofNat (a + c)), .ref (b + 11)], A)) rfl ?_
      refine rw_al (j := 13) (n := a + c) (v := .int (sb_i f)) h rfl rfl rfl (Or.inr (Or.inr (Or.inr (Or.inl ⟨rfl, rfl⟩)))) rfl (show _ < 192 from by omega) (hf) rfl ?_
      by_cases b1 : f = true
      · skip
        refine wp_izF rfl rfl (show ¬ (sb_i f = 0) from by rw [b1]; decide) ?_
        refine wp_st 1 (f' := (60, [some (.ref (b)), some (.int (Int32.ofNat x)), some (.int (Int32.ofNat jv)), some (.long (y3)), none, some (.int (Int32.ofNat (a + c)))], [.ref (b)], A)) rfl ?_
        refine rw_gr h rfl rfl rfl rfl rfl rfl ?_
        refine wp_st 1 (f' := (65, [some (.ref (b)), some (.int (Int32.ofNat x)), some (.int (Int32.ofNat jv)), some (.long (y3)), none, some (.int (Int32.ofNat (a + c)))], [.int (Int32.ofNat (a + c)), .ref (b + 12)], A)) rfl ?_
        refine rw_al (j := 14) (n := a + c) (v := .long (v)) h rfl rfl rfl (Or.inr (Or.inl ⟨rfl, rfl⟩)) rfl (show _ < 192 from by omega) (hv) rfl ?_
        refine wp_st 1 (f' := (67, [some (.ref (b)), some (.int (Int32.ofNat x)), some (.int (Int32.ofNat jv)), some (.long (y3)), none, some (.int (Int32.ofNat (a + c)))], [.ref (b), .long (v)], A)) rfl ?_
        refine rw_gr h rfl rfl rfl rfl rfl rfl ?_
        refine wp_st 1 (f' := (71, [some (.ref (b)), some (.int (Int32.ofNat x)), some (.int (Int32.ofNat jv)), some (.long (y3)), none, some (.int (Int32.ofNat (a + c)))], [.int (Int32.ofNat jv), .ref (b + 32), .long (v)], A)) rfl ?_
        refine rw_al (j := 46) (n := jv) (v := .int (Int32.ofNat k0)) h rfl rfl rfl (Or.inl ⟨rfl, rfl⟩) rfl (show _ < 6 from by omega) (h46) rfl ?_
        refine wp_cs (n := 0) (A' := A) (v := some (.long (Int64.ofNat (10 ^ k0)))) rfl rfl rfl (by omega) (rn_ten (d := d - 1) (by omega)) rfl ?_
        show am_wp d 170 (75, [some (.ref (b)), some (.int (Int32.ofNat x)), some (.int (Int32.ofNat jv)), some (.long (y3)), none, some (.int (Int32.ofNat (a + c)))], [.long (Int64.ofNat (10 ^ k0)), .long (v)], A) _
        refine wp_st 2 (f' := (77, [some (.ref (b)), some (.int (Int32.ofNat x)), some (.int (Int32.ofNat jv)), some (.long (y3)), none, some (.int (Int32.ofNat (a + c)))], [.ref (b), .long (v * (Int64.ofNat (10 ^ k0)))], A)) rfl ?_
        refine rw_gr h rfl rfl rfl rfl rfl rfl ?_
        refine wp_st 1 (f' := (81, [some (.ref (b)), some (.int (Int32.ofNat x)), some (.int (Int32.ofNat jv)), some (.long (y3)), none, some (.int (Int32.ofNat (a + c)))], [.int (Int32.ofNat jv), .ref (b + 31), .long (v * (Int64.ofNat (10 ^ k0)))], A)) rfl ?_
        refine rw_al (j := 45) (n := jv) (v := .long (y0)) h rfl rfl rfl (Or.inr (Or.inl ⟨rfl, rfl⟩)) rfl (show _ < 6 from by omega) (h45) rfl ?_
        refine wp_st 1 (f' := (83, [some (.ref (b)), some (.int (Int32.ofNat x)), some (.int (Int32.ofNat jv)), some (.long (y3)), none, some (.int (Int32.ofNat (a + c)))], [.int (lg_cmp (v * (Int64.ofNat (10 ^ k0))) y0)], A)) rfl ?_
        refine wp_iz rfl rfl rfl (fun (h2 : (lg_cmp (v * (Int64.ofNat (10 ^ k0))) y0) ≠ (Int32.ofNat 0)) => ?_) (fun (h2 : ¬ ((lg_cmp (v * (Int64.ofNat (10 ^ k0))) y0) ≠ (Int32.ofNat 0))) => ?_)
        · skip
          refine wp_st 1 (f' := (90, [some (.ref (b)), some (.int (Int32.ofNat x)), some (.int (Int32.ofNat jv)), some (.long (y3)), none, some (.int (Int32.ofNat (a + c)))], [.ref (b)], A)) rfl ?_
          refine rw_gr h rfl rfl rfl rfl rfl rfl ?_
          refine wp_st 1 (f' := (95, [some (.ref (b)), some (.int (Int32.ofNat x)), some (.int (Int32.ofNat jv)), some (.long (y3)), none, some (.int (Int32.ofNat (a + c)))], [.int (Int32.ofNat (a + c)), .ref (b + 14)], A)) rfl ?_
          refine rw_al (j := 16) (n := a + c) (v := .int (rm_i a (mg_bo (mg_w M) i (mg_B M - (c + 1)) (c + 1)))) h rfl rfl rfl (Or.inl ⟨rfl, rfl⟩) rfl (show _ < 192 from by omega) (hn) rfl ?_
          refine wp_st 2 (f' := (44, [some (.ref (b)), some (.int (Int32.ofNat x)), some (.int (Int32.ofNat jv)), some (.long (y3)), none, some (.int (rm_i a (mg_bo (mg_w M) i (mg_B M - (c + 1)) (c + 1))))], [], A)) rfl ?_
          rw [if_neg (fun q => by have := (hfv.mpr q).2; exact h2 ((lg_cmp_eq _ _).mpr this))] at hfo hno
          exact ih (mg_B M - (c + 1)) (c + 1) (by omega) (by omega) hfo hno
        · skip
          replace h2 := Decidable.not_not.mp h2
          refine wp_st 1 (f' := (88, [some (.ref (b)), some (.int (Int32.ofNat x)), some (.int (Int32.ofNat jv)), some (.long (y3)), none, some (.int (Int32.ofNat (a + c)))], [.int (Int32.ofNat (a + c))], A)) rfl ?_
          refine wp_rt rfl rfl rfl ?_
          rw [if_pos (hfv.mp ⟨b1, (lg_cmp_eq _ _).mp h2⟩)] at hfo
          exact hfo c rfl
      · skip
        have b1f : f = false := by simpa using b1
        refine wp_izT rfl rfl (show sb_i f = 0 from by rw [b1f]; decide) ?_
        refine wp_st 1 (f' := (90, [some (.ref (b)), some (.int (Int32.ofNat x)), some (.int (Int32.ofNat jv)), some (.long (y3)), none, some (.int (Int32.ofNat (a + c)))], [.ref (b)], A)) rfl ?_
        refine rw_gr h rfl rfl rfl rfl rfl rfl ?_
        refine wp_st 1 (f' := (95, [some (.ref (b)), some (.int (Int32.ofNat x)), some (.int (Int32.ofNat jv)), some (.long (y3)), none, some (.int (Int32.ofNat (a + c)))], [.int (Int32.ofNat (a + c)), .ref (b + 14)], A)) rfl ?_
        refine rw_al (j := 16) (n := a + c) (v := .int (rm_i a (mg_bo (mg_w M) i (mg_B M - (c + 1)) (c + 1)))) h rfl rfl rfl (Or.inl ⟨rfl, rfl⟩) rfl (show _ < 192 from by omega) (hn) rfl ?_
        refine wp_st 2 (f' := (44, [some (.ref (b)), some (.int (Int32.ofNat x)), some (.int (Int32.ofNat jv)), some (.long (y3)), none, some (.int (rm_i a (mg_bo (mg_w M) i (mg_B M - (c + 1)) (c + 1))))], [], A)) rfl ?_
        rw [if_neg (fun q => by have := (hfv.mpr q).1; rw [b1f] at this; cases this)] at hfo hno
        exact ih (mg_B M - (c + 1)) (c + 1) (by omega) (by omega) hfo hno
theorem rn_wd_t {d b a i x jv : Nat} {y1 : Int64} {M : mg} {m1 m2 : Nat → Bool} {s : rf_S} {A : am_H} (hd : 2 ≤ d) (hx : x < 192) (hc : rm_ch s M a) (hm1 : rm_mt s M a (fun f v => f = false ∧ v = y1) m1) (hm2 : rm_mt s M a (fun f v => f = false ∧ v = Int64.ofNat 16392370) m2) (h12 : s 12 x = rm_e a (mg_bo (mg_w M) i (mg_B M) 0)) (h : rf A b s) (v5 : Option Value) : am_wp d 170 (158, [some (.ref b), some (.int (Int32.ofNat x)), some (.int (Int32.ofNat jv)), some (.long y1), none, v5], [], A) (fun z => z = (.inl (some (.int (rm_i a (wr_or (mg_bf (mg_w M) m1 i (mg_B M) 0) (mg_bf (mg_w M) m2 i (mg_B M) 0))))), A)) := by
  have hcB := hc.2.1
  have hca := hc.1
  refine wp_st 3 (f' := (161, [some (.ref (b)), some (.int (Int32.ofNat x)), some (.int (Int32.ofNat jv)), some (.long (y1)), none, v5], [.long (y1), .int (Int32.ofNat x), .ref (b)], A)) rfl ?_
  rcases ho1 : mg_bf (mg_w M) m1 i (mg_B M) 0 with _ | c1
  · skip
    refine wp_cv (A' := A) (v := some (.int ((-1)))) rfl rfl rfl rfl rfl (show _ from h.1) (by omega) (by have e := rn_bo (d := d - 1) hc hm1 (by omega) h12 h; rw [ho1] at e; exact e) rfl ?_
    show am_wp d 170 (164, [some (.ref (b)), some (.int (Int32.ofNat x)), some (.int (Int32.ofNat jv)), some (.long (y1)), none, v5], [.int ((-1))], A) _
    refine wp_st 2 (f' := (168, [some (.ref (b)), some (.int (Int32.ofNat x)), some (.int (Int32.ofNat jv)), some (.long (y1)), none, some (.int ((-1)))], [.int ((-1))], A)) rfl ?_
    refine wp_izT rfl rfl (show (-1 : Int32) < (Int32.ofNat 0) from by decide) ?_
    refine wp_st 3 (f' := (179, [some (.ref (b)), some (.int (Int32.ofNat x)), some (.int (Int32.ofNat jv)), some (.long (y1)), none, some (.int ((-1)))], [.int (Int32.ofNat 5), .int (Int32.ofNat x), .ref (b)], A)) rfl ?_
    refine wp_cs (n := 0) (A' := A) (v := some (.long (Int64.ofNat 16392370))) rfl rfl rfl (by omega) (rn_cn5 (d := d - 1) (by omega)) rfl ?_
    show am_wp d 170 (182, [some (.ref (b)), some (.int (Int32.ofNat x)), some (.int (Int32.ofNat jv)), some (.long (y1)), none, some (.int ((-1)))], [.long (Int64.ofNat 16392370), .int (Int32.ofNat x), .ref (b)], A) _
    refine wp_cv (A' := A) (v := some (.int (rm_i a (mg_bf (mg_w M) m2 i (mg_B M) 0)))) rfl rfl rfl rfl rfl (show _ from h.1) (by omega) (rn_bo (d := d - 1) hc hm2 (by omega) h12 h) rfl ?_
    show am_wp d 170 (185, [some (.ref (b)), some (.int (Int32.ofNat x)), some (.int (Int32.ofNat jv)), some (.long (y1)), none, some (.int ((-1)))], [.int (rm_i a (mg_bf (mg_w M) m2 i (mg_B M) 0))], A) _
    refine wp_rt rfl rfl rfl ?_
    rfl
  · skip
    have hcc := mg_bf_in ho1
    refine wp_cv (A' := A) (v := some (.int (Int32.ofNat (a + c1)))) rfl rfl rfl rfl rfl (show _ from h.1) (by omega) (by have e := rn_bo (d := d - 1) hc hm1 (by omega) h12 h; rw [ho1] at e; exact e) rfl ?_
    show am_wp d 170 (164, [some (.ref (b)), some (.int (Int32.ofNat x)), some (.int (Int32.ofNat jv)), some (.long (y1)), none, v5], [.int (Int32.ofNat (a + c1))], A) _
    refine wp_st 2 (f' := (168, [some (.ref (b)), some (.int (Int32.ofNat x)), some (.int (Int32.ofNat jv)), some (.long (y1)), none, some (.int (Int32.ofNat (a + c1)))], [.int (Int32.ofNat (a + c1))], A)) rfl ?_
    refine wp_izF rfl rfl (Int32.ofNat_not_neg (by omega)) ?_
    refine wp_st 2 (f' := (185, [some (.ref (b)), some (.int (Int32.ofNat x)), some (.int (Int32.ofNat jv)), some (.long (y1)), none, some (.int (Int32.ofNat (a + c1)))], [.int (Int32.ofNat (a + c1))], A)) rfl ?_
    refine wp_rt rfl rfl rfl ?_
    rfl
theorem rn_ch6w {d b a i x jv : Nat} {N : Nat} {M : mg} {m1 m2 : Nat → Bool} {s : rf_S} {A : am_H} (hd : 2 ≤ d) (hx : x < 192) (hc : rm_ch s M a) (hm1 : rm_mt s M a (fun f v => f = false ∧ v = rf_sq 0 (sb_bl (Int32.ofNat N) 4)) m1) (hm2 : rm_mt s M a (fun f v => f = false ∧ v = Int64.ofNat 16392370) m2) (h12 : s 12 x = rm_e a (mg_bo (mg_w M) i (mg_B M) 0)) (h : rf A b s) (hN : N < 2147483648) (hjv : jv < 6) (h44 : s 44 jv = .int (Int32.ofNat 1)) (h45 : s 45 jv = .long (Int64.ofNat N)) (h10 : s 10 x = .int (Int32.ofNat 6)) : am_go d 170 [.ref b, .int (Int32.ofNat x), .int (Int32.ofNat jv)] A (.inl (some (.int (rm_i a (wr_or (mg_bf (mg_w M) m1 i (mg_B M) 0) (mg_bf (mg_w M) m2 i (mg_B M) 0))))), A) := by
  refine wp_go ?_
  refine wp_st 1 (f' := (1, [some (.ref (b)), some (.int (Int32.ofNat x)), some (.int (Int32.ofNat jv)), none, none, none], [.ref (b)], A)) rfl ?_
  refine rw_gr h rfl rfl rfl rfl rfl rfl ?_
  refine wp_st 1 (f' := (5, [some (.ref (b)), some (.int (Int32.ofNat x)), some (.int (Int32.ofNat jv)), none, none, none], [.int (Int32.ofNat jv), .ref (b + 30)], A)) rfl ?_
  refine rw_al (j := 44) (n := jv) (v := .int (Int32.ofNat 1)) h rfl rfl rfl (Or.inr (Or.inr (Or.inr (Or.inl ⟨rfl, rfl⟩)))) rfl (show _ < 6 from by omega) (h44) rfl ?_
  refine wp_izF rfl rfl (show ¬ ((Int32.ofNat 1) = (Int32.ofNat 0)) from by decide) ?_
  refine wp_st 1 (f' := (10, [some (.ref (b)), some (.int (Int32.ofNat x)), some (.int (Int32.ofNat jv)), none, none, none], [.ref (b)], A)) rfl ?_
  refine rw_gr h rfl rfl rfl rfl rfl rfl ?_
  refine wp_st 1 (f' := (14, [some (.ref (b)), some (.int (Int32.ofNat x)), some (.int (Int32.ofNat jv)), none, none, none], [.int (Int32.ofNat jv), .ref (b + 31)], A)) rfl ?_
  refine rw_al (j := 45) (n := jv) (v := .long (Int64.ofNat N)) h rfl rfl rfl (Or.inr (Or.inl ⟨rfl, rfl⟩)) rfl (show _ < 6 from by omega) (h45) rfl ?_
  refine wp_cs (n := 0) (A' := A) (v := some (.long (rf_sq 0 (sb_bl (Int32.ofNat N) 4)))) rfl rfl rfl (by omega) (rn_sy (d := d - 1) (by omega) hN) rfl ?_
  show am_wp d 170 (18, [some (.ref (b)), some (.int (Int32.ofNat x)), some (.int (Int32.ofNat jv)), none, none, none], [.long (rf_sq 0 (sb_bl (Int32.ofNat N) 4))], A) _
  refine wp_st 3 (f' := (26, [some (.ref (b)), some (.int (Int32.ofNat x)), some (.int (Int32.ofNat jv)), some (.long (rf_sq 0 (sb_bl (Int32.ofNat N) 4))), none, none], [.ref (b)], A)) rfl ?_
  refine rw_gr h rfl rfl rfl rfl rfl rfl ?_
  refine wp_st 1 (f' := (30, [some (.ref (b)), some (.int (Int32.ofNat x)), some (.int (Int32.ofNat jv)), some (.long (rf_sq 0 (sb_bl (Int32.ofNat N) 4))), none, none], [.int (Int32.ofNat x), .ref (b + 8)], A)) rfl ?_
  refine rw_al (j := 10) (n := x) (v := .int (Int32.ofNat 6)) h rfl rfl rfl (Or.inl ⟨rfl, rfl⟩) rfl (show _ < 192 from by omega) (h10) rfl ?_
  refine wp_st 1 (f' := (33, [some (.ref (b)), some (.int (Int32.ofNat x)), some (.int (Int32.ofNat jv)), some (.long (rf_sq 0 (sb_bl (Int32.ofNat N) 4))), none, none], [.int (Int32.ofNat 6), .int (Int32.ofNat 6)], A)) rfl ?_
  refine wp_ifT rfl (show am_tgt 33 (125) = 158 by decide +kernel) (show (Int32.ofNat 6) = (Int32.ofNat 6) from by decide) ?_
  exact rn_wd_t hd hx hc hm1 hm2 h12 h none
theorem rn_ch6n {d b a i x jv : Nat} {M : mg} {m1 m2 : Nat → Bool} {s : rf_S} {A : am_H} (hd : 2 ≤ d) (hx : x < 192) (hc : rm_ch s M a) (hm1 : rm_mt s M a (fun f v => f = false ∧ v = (-1)) m1) (hm2 : rm_mt s M a (fun f v => f = false ∧ v = Int64.ofNat 16392370) m2) (h12 : s 12 x = rm_e a (mg_bo (mg_w M) i (mg_B M) 0)) (h : rf A b s) (hjv : jv < 6) (h44 : s 44 jv = .int (Int32.ofNat 0)) (h10 : s 10 x = .int (Int32.ofNat 6)) : am_go d 170 [.ref b, .int (Int32.ofNat x), .int (Int32.ofNat jv)] A (.inl (some (.int (rm_i a (wr_or (mg_bf (mg_w M) m1 i (mg_B M) 0) (mg_bf (mg_w M) m2 i (mg_B M) 0))))), A) := by
  refine wp_go ?_
  refine wp_st 1 (f' := (1, [some (.ref (b)), some (.int (Int32.ofNat x)), some (.int (Int32.ofNat jv)), none, none, none], [.ref (b)], A)) rfl ?_
  refine rw_gr h rfl rfl rfl rfl rfl rfl ?_
  refine wp_st 1 (f' := (5, [some (.ref (b)), some (.int (Int32.ofNat x)), some (.int (Int32.ofNat jv)), none, none, none], [.int (Int32.ofNat jv), .ref (b + 30)], A)) rfl ?_
  refine rw_al (j := 44) (n := jv) (v := .int (Int32.ofNat 0)) h rfl rfl rfl (Or.inr (Or.inr (Or.inr (Or.inl ⟨rfl, rfl⟩)))) rfl (show _ < 6 from by omega) (h44) rfl ?_
  refine wp_izT rfl rfl (show (Int32.ofNat 0) = (Int32.ofNat 0) from by decide) ?_
  refine wp_st 3 (f' := (26, [some (.ref (b)), some (.int (Int32.ofNat x)), some (.int (Int32.ofNat jv)), some (.long ((-1))), none, none], [.ref (b)], A)) rfl ?_
  refine rw_gr h rfl rfl rfl rfl rfl rfl ?_
  refine wp_st 1 (f' := (30, [some (.ref (b)), some (.int (Int32.ofNat x)), some (.int (Int32.ofNat jv)), some (.long ((-1))), none, none], [.int (Int32.ofNat x), .ref (b + 8)], A)) rfl ?_
  refine rw_al (j := 10) (n := x) (v := .int (Int32.ofNat 6)) h rfl rfl rfl (Or.inl ⟨rfl, rfl⟩) rfl (show _ < 192 from by omega) (h10) rfl ?_
  refine wp_st 1 (f' := (33, [some (.ref (b)), some (.int (Int32.ofNat x)), some (.int (Int32.ofNat jv)), some (.long ((-1))), none, none], [.int (Int32.ofNat 6), .int (Int32.ofNat 6)], A)) rfl ?_
  refine wp_ifT rfl (show am_tgt 33 (125) = 158 by decide +kernel) (show (Int32.ofNat 6) = (Int32.ofNat 6) from by decide) ?_
  exact rn_wd_t hd hx hc hm1 hm2 h12 h none
theorem rn_ch4 {d b a i x jv : Nat} {k0 cc off : Nat} {z : Int} {m0 : Nat → Bool} {M : mg} {m1 m2 : Nat → Bool} {s : rf_S} {A : am_H} (hd : 2 ≤ d) (hx : x < 192) (hc : rm_ch s M a) (hm1 : rm_mt s M a (fun f v => f = false ∧ v = Int64.ofNat (rf_cn cc)) m1) (hm2 : rm_mt s M a (fun f v => f = false ∧ v = Int64.ofNat 16392370) m2) (h12 : s 12 x = rm_e a (mg_bo (mg_w M) i (mg_B M) 0)) (h : rf A b s) (hcc : cc ≤ 5) (hjv : jv < 6) (hk0 : k0 ≤ 6) (hoff : off < 100) (h44 : s 44 jv = .int (Int32.ofNat 0)) (h45 : s 45 jv = .long (Int64.ofInt z)) (h46 : s 46 jv = .int (Int32.ofNat k0)) (h10 : s 10 x = .int (Int32.ofNat 4)) (h11 : s 11 x = .int (Int32.ofNat off)) (hm0 : rm_mt s M a (fun f v => f = true ∧ v * Int64.ofNat (10 ^ k0) = Int64.ofInt z) m0) (hcat : am_go (d - 1) 158 [.ref b, .int (Int32.ofNat 0), .long (Int64.ofInt (z - (off * 10 ^ k0 : Nat))), .int (Int32.ofNat k0)] A (.inl (some (.int (Int32.ofNat cc))), A)) : am_go d 170 [.ref b, .int (Int32.ofNat x), .int (Int32.ofNat jv)] A (.inl (some (.int (rm_i a (wr_or (mg_bf (mg_w M) m0 i (mg_B M) 0) (wr_or (mg_bf (mg_w M) m1 i (mg_B M) 0) (mg_bf (mg_w M) m2 i (mg_B M) 0)))))), A) := by
  refine wp_go ?_
  refine wp_st 1 (f' := (1, [some (.ref (b)), some (.int (Int32.ofNat x)), some (.int (Int32.ofNat jv)), none, none, none], [.ref (b)], A)) rfl ?_
  refine rw_gr h rfl rfl rfl rfl rfl rfl ?_
  refine wp_st 1 (f' := (5, [some (.ref (b)), some (.int (Int32.ofNat x)), some (.int (Int32.ofNat jv)), none, none, none], [.int (Int32.ofNat jv), .ref (b + 30)], A)) rfl ?_
  refine rw_al (j := 44) (n := jv) (v := .int (Int32.ofNat 0)) h rfl rfl rfl (Or.inr (Or.inr (Or.inr (Or.inl ⟨rfl, rfl⟩)))) rfl (show _ < 6 from by omega) (h44) rfl ?_
  refine wp_izT rfl rfl (show (Int32.ofNat 0) = (Int32.ofNat 0) from by decide) ?_
  refine wp_st 3 (f' := (26, [some (.ref (b)), some (.int (Int32.ofNat x)), some (.int (Int32.ofNat jv)), some (.long ((-1))), none, none], [.ref (b)], A)) rfl ?_
  refine rw_gr h rfl rfl rfl rfl rfl rfl ?_
  refine wp_st 1 (f' := (30, [some (.ref (b)), some (.int (Int32.ofNat x)), some (.int (Int32.ofNat jv)), some (.long ((-1))), none, none], [.int (Int32.ofNat x), .ref (b + 8)], A)) rfl ?_
  refine rw_al (j := 10) (n := x) (v := .int (Int32.ofNat 4)) h rfl rfl rfl (Or.inl ⟨rfl, rfl⟩) rfl (show _ < 192 from by omega) (h10) rfl ?_
  refine wp_st 1 (f' := (33, [some (.ref (b)), some (.int (Int32.ofNat x)), some (.int (Int32.ofNat jv)), some (.long ((-1))), none, none], [.int (Int32.ofNat 6), .int (Int32.ofNat 4)], A)) rfl ?_
  refine wp_ifF rfl rfl (show ¬ ((Int32.ofNat 4) = (Int32.ofNat 6)) from by decide) ?_
  refine wp_st 1 (f' := (37, [some (.ref (b)), some (.int (Int32.ofNat x)), some (.int (Int32.ofNat jv)), some (.long ((-1))), none, none], [.ref (b)], A)) rfl ?_
  refine rw_gr h rfl rfl rfl rfl rfl rfl ?_
  refine wp_st 1 (f' := (41, [some (.ref (b)), some (.int (Int32.ofNat x)), some (.int (Int32.ofNat jv)), some (.long ((-1))), none, none], [.int (Int32.ofNat x), .ref (b + 10)], A)) rfl ?_
  refine rw_al (j := 12) (n := x) (v := .int (rm_i a (mg_bo (mg_w M) i (mg_B M) 0))) h rfl rfl rfl (Or.inl ⟨rfl, rfl⟩) rfl (show _ < 192 from by omega) (by rw [h12, rm_e_i]) rfl ?_
  refine wp_st 1 (f' := (44, [some (.ref (b)), some (.int (Int32.ofNat x)), some (.int (Int32.ofNat jv)), some (.long ((-1))), none, some (.int (rm_i a (mg_bo (mg_w M) i (mg_B M) 0)))], [], A)) rfl ?_
  refine rn_ex_l (i := i) (by omega) hjv hk0 h45 h46 hc hm0 h (mg_B M + 1) (mg_B M) 0 (by omega) (by omega) (fun c hf => by rw [hf]; rfl) (fun hf => ?_)
  rw [hf, rm_i_or]
  refine wp_st 1 (f' := (102, [some (.ref (b)), some (.int (Int32.ofNat x)), some (.int (Int32.ofNat jv)), some (.long ((-1))), none, some (.int ((-1)))], [.ref (b)], A)) rfl ?_
  refine rw_gr h rfl rfl rfl rfl rfl rfl ?_
  refine wp_st 1 (f' := (106, [some (.ref (b)), some (.int (Int32.ofNat x)), some (.int (Int32.ofNat jv)), some (.long ((-1))), none, some (.int ((-1)))], [.int (Int32.ofNat x), .ref (b + 8)], A)) rfl ?_
  refine rw_al (j := 10) (n := x) (v := .int (Int32.ofNat 4)) h rfl rfl rfl (Or.inl ⟨rfl, rfl⟩) rfl (show _ < 192 from by omega) (h10) rfl ?_
  refine wp_st 1 (f' := (108, [some (.ref (b)), some (.int (Int32.ofNat x)), some (.int (Int32.ofNat jv)), some (.long ((-1))), none, some (.int ((-1)))], [.int (Int32.ofNat 4), .int (Int32.ofNat 4)], A)) rfl ?_
  refine wp_ifF rfl rfl (show ¬ ((Int32.ofNat 4) ≠ (Int32.ofNat 4)) from by decide) ?_
  refine wp_st 6 (f' := (122, [some (.ref (b)), some (.int (Int32.ofNat x)), some (.int (Int32.ofNat jv)), some (.long ((-1))), none, some (.int (Int32.ofNat 0))], [.ref (b), .int (Int32.ofNat 0), .ref (b)], A)) rfl ?_
  refine rw_gr h rfl rfl rfl rfl rfl rfl ?_
  refine wp_st 1 (f' := (126, [some (.ref (b)), some (.int (Int32.ofNat x)), some (.int (Int32.ofNat jv)), some (.long ((-1))), none, some (.int (Int32.ofNat 0))], [.int (Int32.ofNat jv), .ref (b + 31), .int (Int32.ofNat 0), .ref (b)], A)) rfl ?_
  refine rw_al (j := 45) (n := jv) (v := .long (Int64.ofInt z)) h rfl rfl rfl (Or.inr (Or.inl ⟨rfl, rfl⟩)) rfl (show _ < 6 from by omega) (h45) rfl ?_
  refine wp_st 1 (f' := (128, [some (.ref (b)), some (.int (Int32.ofNat x)), some (.int (Int32.ofNat jv)), some (.long ((-1))), none, some (.int (Int32.ofNat 0))], [.ref (b), .long (Int64.ofInt z), .int (Int32.ofNat 0), .ref (b)], A)) rfl ?_
  refine rw_gr h rfl rfl rfl rfl rfl rfl ?_
  refine wp_st 1 (f' := (132, [some (.ref (b)), some (.int (Int32.ofNat x)), some (.int (Int32.ofNat jv)), some (.long ((-1))), none, some (.int (Int32.ofNat 0))], [.int (Int32.ofNat x), .ref (b + 9), .long (Int64.ofInt z), .int (Int32.ofNat 0), .ref (b)], A)) rfl ?_
  refine rw_al (j := 11) (n := x) (v := .int (Int32.ofNat off)) h rfl rfl rfl (Or.inl ⟨rfl, rfl⟩) rfl (show _ < 192 from by omega) (h11) rfl ?_
  refine wp_st 1 (f' := (134, [some (.ref (b)), some (.int (Int32.ofNat x)), some (.int (Int32.ofNat jv)), some (.long ((-1))), none, some (.int (Int32.ofNat 0))], [.long ((Int32.ofNat off).toInt64), .long (Int64.ofInt z), .int (Int32.ofNat 0), .ref (b)], A)) rfl ?_
  rw [i64_of (by omega)]
  refine wp_st 1 (f' := (135, [some (.ref (b)), some (.int (Int32.ofNat x)), some (.int (Int32.ofNat jv)), some (.long ((-1))), none, some (.int (Int32.ofNat 0))], [.ref (b), .long (Int64.ofNat off), .long (Int64.ofInt z), .int (Int32.ofNat 0), .ref (b)], A)) rfl ?_
  refine rw_gr h rfl rfl rfl rfl rfl rfl ?_
  refine wp_st 1 (f' := (139, [some (.ref (b)), some (.int (Int32.ofNat x)), some (.int (Int32.ofNat jv)), some (.long ((-1))), none, some (.int (Int32.ofNat 0))], [.int (Int32.ofNat jv), .ref (b + 32), .long (Int64.ofNat off), .long (Int64.ofInt z), .int (Int32.ofNat 0), .ref (b)], A)) rfl ?_
  refine rw_al (j := 46) (n := jv) (v := .int (Int32.ofNat k0)) h rfl rfl rfl (Or.inl ⟨rfl, rfl⟩) rfl (show _ < 6 from by omega) (h46) rfl ?_
  refine wp_cs (n := 0) (A' := A) (v := some (.long (Int64.ofNat (10 ^ k0)))) rfl rfl rfl (by omega) (rn_ten (d := d - 1) (by omega)) rfl ?_
  show am_wp d 170 (143, [some (.ref (b)), some (.int (Int32.ofNat x)), some (.int (Int32.ofNat jv)), some (.long ((-1))), none, some (.int (Int32.ofNat 0))], [.long (Int64.ofNat (10 ^ k0)), .long (Int64.ofNat off), .long (Int64.ofInt z), .int (Int32.ofNat 0), .ref (b)], A) _
  refine wp_st 1 (f' := (144, [some (.ref (b)), some (.int (Int32.ofNat x)), some (.int (Int32.ofNat jv)), some (.long ((-1))), none, some (.int (Int32.ofNat 0))], [.long ((Int64.ofNat off) * (Int64.ofNat (10 ^ k0))), .long (Int64.ofInt z), .int (Int32.ofNat 0), .ref (b)], A)) rfl ?_
  rw [(Int64.ofNat_mul off (10 ^ k0)).symm]
  refine wp_st 1 (f' := (145, [some (.ref (b)), some (.int (Int32.ofNat x)), some (.int (Int32.ofNat jv)), some (.long ((-1))), none, some (.int (Int32.ofNat 0))], [.long ((Int64.ofInt z) - (Int64.ofNat (off * 10 ^ k0))), .int (Int32.ofNat 0), .ref (b)], A)) rfl ?_
  rw [i64_zsub]
  refine wp_st 1 (f' := (146, [some (.ref (b)), some (.int (Int32.ofNat x)), some (.int (Int32.ofNat jv)), some (.long ((-1))), none, some (.int (Int32.ofNat 0))], [.ref (b), .long (Int64.ofInt (z - (off * 10 ^ k0 : Nat))), .int (Int32.ofNat 0), .ref (b)], A)) rfl ?_
  refine rw_gr h rfl rfl rfl rfl rfl rfl ?_
  refine wp_st 1 (f' := (150, [some (.ref (b)), some (.int (Int32.ofNat x)), some (.int (Int32.ofNat jv)), some (.long ((-1))), none, some (.int (Int32.ofNat 0))], [.int (Int32.ofNat jv), .ref (b + 32), .long (Int64.ofInt (z - (off * 10 ^ k0 : Nat))), .int (Int32.ofNat 0), .ref (b)], A)) rfl ?_
  refine rw_al (j := 46) (n := jv) (v := .int (Int32.ofNat k0)) h rfl rfl rfl (Or.inl ⟨rfl, rfl⟩) rfl (show _ < 6 from by omega) (h46) rfl ?_
  refine wp_cv (A' := A) (v := some (.int (Int32.ofNat cc))) rfl rfl rfl rfl rfl (show _ from h.1) (by omega) (hcat) rfl ?_
  show am_wp d 170 (154, [some (.ref (b)), some (.int (Int32.ofNat x)), some (.int (Int32.ofNat jv)), some (.long ((-1))), none, some (.int (Int32.ofNat 0))], [.int (Int32.ofNat cc)], A) _
  refine wp_cs (n := 0) (A' := A) (v := some (.long (Int64.ofNat (rf_cn cc)))) rfl rfl rfl (by omega) (rn_cn (d := d - 1) (by omega) hcc) rfl ?_
  show am_wp d 170 (157, [some (.ref (b)), some (.int (Int32.ofNat x)), some (.int (Int32.ofNat jv)), some (.long ((-1))), none, some (.int (Int32.ofNat 0))], [.long (Int64.ofNat (rf_cn cc))], A) _
  refine wp_st 1 (f' := (158, [some (.ref (b)), some (.int (Int32.ofNat x)), some (.int (Int32.ofNat jv)), some (.long (Int64.ofNat (rf_cn cc))), none, some (.int (Int32.ofNat 0))], [], A)) rfl ?_
  exact rn_wd_t hd hx hc hm1 hm2 h12 h _
theorem rn_ch5 {d b a i x jv : Nat} {k0 cc off : Nat} {z : Int} {m0 : Nat → Bool} {M : mg} {m1 m2 : Nat → Bool} {s : rf_S} {A : am_H} (hd : 2 ≤ d) (hx : x < 192) (hc : rm_ch s M a) (hm1 : rm_mt s M a (fun f v => f = false ∧ v = Int64.ofNat (rf_cn cc)) m1) (hm2 : rm_mt s M a (fun f v => f = false ∧ v = Int64.ofNat 16392370) m2) (h12 : s 12 x = rm_e a (mg_bo (mg_w M) i (mg_B M) 0)) (h : rf A b s) (hcc : cc ≤ 5) (hjv : jv < 6) (hk0 : k0 ≤ 6) (hoff : off < 100) (h44 : s 44 jv = .int (Int32.ofNat 0)) (h45 : s 45 jv = .long (Int64.ofInt z)) (h46 : s 46 jv = .int (Int32.ofNat k0)) (h10 : s 10 x = .int (Int32.ofNat 5)) (h11 : s 11 x = .int (Int32.ofNat off)) (hm0 : rm_mt s M a (fun f v => f = true ∧ v * Int64.ofNat (10 ^ k0) = Int64.ofInt z) m0) (hcat : am_go (d - 1) 158 [.ref b, .int (Int32.ofNat 1), .long (Int64.ofInt (z - (off * 10 ^ k0 : Nat))), .int (Int32.ofNat k0)] A (.inl (some (.int (Int32.ofNat cc))), A)) : am_go d 170 [.ref b, .int (Int32.ofNat x), .int (Int32.ofNat jv)] A (.inl (some (.int (rm_i a (wr_or (mg_bf (mg_w M) m0 i (mg_B M) 0) (wr_or (mg_bf (mg_w M) m1 i (mg_B M) 0) (mg_bf (mg_w M) m2 i (mg_B M) 0)))))), A) := by
  refine wp_go ?_
  refine wp_st 1 (f' := (1, [some (.ref (b)), some (.int (Int32.ofNat x)), some (.int (Int32.ofNat jv)), none, none, none], [.ref (b)], A)) rfl ?_
  refine rw_gr h rfl rfl rfl rfl rfl rfl ?_
  refine wp_st 1 (f' := (5, [some (.ref (b)), some (.int (Int32.ofNat x)), some (.int (Int32.ofNat jv)), none, none, none], [.int (Int32.ofNat jv), .ref (b + 30)], A)) rfl ?_
  refine rw_al (j := 44) (n := jv) (v := .int (Int32.ofNat 0)) h rfl rfl rfl (Or.inr (Or.inr (Or.inr (Or.inl ⟨rfl, rfl⟩)))) rfl (show _ < 6 from by omega) (h44) rfl ?_
  refine wp_izT rfl rfl (show (Int32.ofNat 0) = (Int32.ofNat 0) from by decide) ?_
  refine wp_st 3 (f' := (26, [some (.ref (b)), some (.int (Int32.ofNat x)), some (.int (Int32.ofNat jv)), some (.long ((-1))), none, none], [.ref (b)], A)) rfl ?_
  refine rw_gr h rfl rfl rfl rfl rfl rfl ?_
  refine wp_st 1 (f' := (30, [some (.ref (b)), some (.int (Int32.ofNat x)), some (.int (Int32.ofNat jv)), some (.long ((-1))), none, none], [.int (Int32.ofNat x), .ref (b + 8)], A)) rfl ?_
  refine rw_al (j := 10) (n := x) (v := .int (Int32.ofNat 5)) h rfl rfl rfl (Or.inl ⟨rfl, rfl⟩) rfl (show _ < 192 from by omega) (h10) rfl ?_
  refine wp_st 1 (f' := (33, [some (.ref (b)), some (.int (Int32.ofNat x)), some (.int (Int32.ofNat jv)), some (.long ((-1))), none, none], [.int (Int32.ofNat 6), .int (Int32.ofNat 5)], A)) rfl ?_
  refine wp_ifF rfl rfl (show ¬ ((Int32.ofNat 5) = (Int32.ofNat 6)) from by decide) ?_
  refine wp_st 1 (f' := (37, [some (.ref (b)), some (.int (Int32.ofNat x)), some (.int (Int32.ofNat jv)), some (.long ((-1))), none, none], [.ref (b)], A)) rfl ?_
  refine rw_gr h rfl rfl rfl rfl rfl rfl ?_
  refine wp_st 1 (f' := (41, [some (.ref (b)), some (.int (Int32.ofNat x)), some (.int (Int32.ofNat jv)), some (.long ((-1))), none, none], [.int (Int32.ofNat x), .ref (b + 10)], A)) rfl ?_
  refine rw_al (j := 12) (n := x) (v := .int (rm_i a (mg_bo (mg_w M) i (mg_B M) 0))) h rfl rfl rfl (Or.inl ⟨rfl, rfl⟩) rfl (show _ < 192 from by omega) (by rw [h12, rm_e_i]) rfl ?_
  refine wp_st 1 (f' := (44, [some (.ref (b)), some (.int (Int32.ofNat x)), some (.int (Int32.ofNat jv)), some (.long ((-1))), none, some (.int (rm_i a (mg_bo (mg_w M) i (mg_B M) 0)))], [], A)) rfl ?_
  refine rn_ex_l (i := i) (by omega) hjv hk0 h45 h46 hc hm0 h (mg_B M + 1) (mg_B M) 0 (by omega) (by omega) (fun c hf => by rw [hf]; rfl) (fun hf => ?_)
  rw [hf, rm_i_or]
  refine wp_st 1 (f' := (102, [some (.ref (b)), some (.int (Int32.ofNat x)), some (.int (Int32.ofNat jv)), some (.long ((-1))), none, some (.int ((-1)))], [.ref (b)], A)) rfl ?_
  refine rw_gr h rfl rfl rfl rfl rfl rfl ?_
  refine wp_st 1 (f' := (106, [some (.ref (b)), some (.int (Int32.ofNat x)), some (.int (Int32.ofNat jv)), some (.long ((-1))), none, some (.int ((-1)))], [.int (Int32.ofNat x), .ref (b + 8)], A)) rfl ?_
  refine rw_al (j := 10) (n := x) (v := .int (Int32.ofNat 5)) h rfl rfl rfl (Or.inl ⟨rfl, rfl⟩) rfl (show _ < 192 from by omega) (h10) rfl ?_
  refine wp_st 1 (f' := (108, [some (.ref (b)), some (.int (Int32.ofNat x)), some (.int (Int32.ofNat jv)), some (.long ((-1))), none, some (.int ((-1)))], [.int (Int32.ofNat 4), .int (Int32.ofNat 5)], A)) rfl ?_
  refine wp_ifT rfl rfl (show (Int32.ofNat 5) ≠ (Int32.ofNat 4) from by decide) ?_
  refine wp_st 5 (f' := (122, [some (.ref (b)), some (.int (Int32.ofNat x)), some (.int (Int32.ofNat jv)), some (.long ((-1))), none, some (.int (Int32.ofNat 1))], [.ref (b), .int (Int32.ofNat 1), .ref (b)], A)) rfl ?_
  refine rw_gr h rfl rfl rfl rfl rfl rfl ?_
  refine wp_st 1 (f' := (126, [some (.ref (b)), some (.int (Int32.ofNat x)), some (.int (Int32.ofNat jv)), some (.long ((-1))), none, some (.int (Int32.ofNat 1))], [.int (Int32.ofNat jv), .ref (b + 31), .int (Int32.ofNat 1), .ref (b)], A)) rfl ?_
  refine rw_al (j := 45) (n := jv) (v := .long (Int64.ofInt z)) h rfl rfl rfl (Or.inr (Or.inl ⟨rfl, rfl⟩)) rfl (show _ < 6 from by omega) (h45) rfl ?_
  refine wp_st 1 (f' := (128, [some (.ref (b)), some (.int (Int32.ofNat x)), some (.int (Int32.ofNat jv)), some (.long ((-1))), none, some (.int (Int32.ofNat 1))], [.ref (b), .long (Int64.ofInt z), .int (Int32.ofNat 1), .ref (b)], A)) rfl ?_
  refine rw_gr h rfl rfl rfl rfl rfl rfl ?_
  refine wp_st 1 (f' := (132, [some (.ref (b)), some (.int (Int32.ofNat x)), some (.int (Int32.ofNat jv)), some (.long ((-1))), none, some (.int (Int32.ofNat 1))], [.int (Int32.ofNat x), .ref (b + 9), .long (Int64.ofInt z), .int (Int32.ofNat 1), .ref (b)], A)) rfl ?_
  refine rw_al (j := 11) (n := x) (v := .int (Int32.ofNat off)) h rfl rfl rfl (Or.inl ⟨rfl, rfl⟩) rfl (show _ < 192 from by omega) (h11) rfl ?_
  refine wp_st 1 (f' := (134, [some (.ref (b)), some (.int (Int32.ofNat x)), some (.int (Int32.ofNat jv)), some (.long ((-1))), none, some (.int (Int32.ofNat 1))], [.long ((Int32.ofNat off).toInt64), .long (Int64.ofInt z), .int (Int32.ofNat 1), .ref (b)], A)) rfl ?_
  rw [i64_of (by omega)]
  refine wp_st 1 (f' := (135, [some (.ref (b)), some (.int (Int32.ofNat x)), some (.int (Int32.ofNat jv)), some (.long ((-1))), none, some (.int (Int32.ofNat 1))], [.ref (b), .long (Int64.ofNat off), .long (Int64.ofInt z), .int (Int32.ofNat 1), .ref (b)], A)) rfl ?_
  refine rw_gr h rfl rfl rfl rfl rfl rfl ?_
  refine wp_st 1 (f' := (139, [some (.ref (b)), some (.int (Int32.ofNat x)), some (.int (Int32.ofNat jv)), some (.long ((-1))), none, some (.int (Int32.ofNat 1))], [.int (Int32.ofNat jv), .ref (b + 32), .long (Int64.ofNat off), .long (Int64.ofInt z), .int (Int32.ofNat 1), .ref (b)], A)) rfl ?_
  refine rw_al (j := 46) (n := jv) (v := .int (Int32.ofNat k0)) h rfl rfl rfl (Or.inl ⟨rfl, rfl⟩) rfl (show _ < 6 from by omega) (h46) rfl ?_
  refine wp_cs (n := 0) (A' := A) (v := some (.long (Int64.ofNat (10 ^ k0)))) rfl rfl rfl (by omega) (rn_ten (d := d - 1) (by omega)) rfl ?_
  show am_wp d 170 (143, [some (.ref (b)), some (.int (Int32.ofNat x)), some (.int (Int32.ofNat jv)), some (.long ((-1))), none, some (.int (Int32.ofNat 1))], [.long (Int64.ofNat (10 ^ k0)), .long (Int64.ofNat off), .long (Int64.ofInt z), .int (Int32.ofNat 1), .ref (b)], A) _
  refine wp_st 1 (f' := (144, [some (.ref (b)), some (.int (Int32.ofNat x)), some (.int (Int32.ofNat jv)), some (.long ((-1))), none, some (.int (Int32.ofNat 1))], [.long ((Int64.ofNat off) * (Int64.ofNat (10 ^ k0))), .long (Int64.ofInt z), .int (Int32.ofNat 1), .ref (b)], A)) rfl ?_
  rw [(Int64.ofNat_mul off (10 ^ k0)).symm]
  refine wp_st 1 (f' := (145, [some (.ref (b)), some (.int (Int32.ofNat x)), some (.int (Int32.ofNat jv)), some (.long ((-1))), none, some (.int (Int32.ofNat 1))], [.long ((Int64.ofInt z) - (Int64.ofNat (off * 10 ^ k0))), .int (Int32.ofNat 1), .ref (b)], A)) rfl ?_
  rw [i64_zsub]
  refine wp_st 1 (f' := (146, [some (.ref (b)), some (.int (Int32.ofNat x)), some (.int (Int32.ofNat jv)), some (.long ((-1))), none, some (.int (Int32.ofNat 1))], [.ref (b), .long (Int64.ofInt (z - (off * 10 ^ k0 : Nat))), .int (Int32.ofNat 1), .ref (b)], A)) rfl ?_
  refine rw_gr h rfl rfl rfl rfl rfl rfl ?_
  refine wp_st 1 (f' := (150, [some (.ref (b)), some (.int (Int32.ofNat x)), some (.int (Int32.ofNat jv)), some (.long ((-1))), none, some (.int (Int32.ofNat 1))], [.int (Int32.ofNat jv), .ref (b + 32), .long (Int64.ofInt (z - (off * 10 ^ k0 : Nat))), .int (Int32.ofNat 1), .ref (b)], A)) rfl ?_
  refine rw_al (j := 46) (n := jv) (v := .int (Int32.ofNat k0)) h rfl rfl rfl (Or.inl ⟨rfl, rfl⟩) rfl (show _ < 6 from by omega) (h46) rfl ?_
  refine wp_cv (A' := A) (v := some (.int (Int32.ofNat cc))) rfl rfl rfl rfl rfl (show _ from h.1) (by omega) (hcat) rfl ?_
  show am_wp d 170 (154, [some (.ref (b)), some (.int (Int32.ofNat x)), some (.int (Int32.ofNat jv)), some (.long ((-1))), none, some (.int (Int32.ofNat 1))], [.int (Int32.ofNat cc)], A) _
  refine wp_cs (n := 0) (A' := A) (v := some (.long (Int64.ofNat (rf_cn cc)))) rfl rfl rfl (by omega) (rn_cn (d := d - 1) (by omega) hcc) rfl ?_
  show am_wp d 170 (157, [some (.ref (b)), some (.int (Int32.ofNat x)), some (.int (Int32.ofNat jv)), some (.long ((-1))), none, some (.int (Int32.ofNat 1))], [.long (Int64.ofNat (rf_cn cc))], A) _
  refine wp_st 1 (f' := (158, [some (.ref (b)), some (.int (Int32.ofNat x)), some (.int (Int32.ofNat jv)), some (.long (Int64.ofNat (rf_cn cc))), none, some (.int (Int32.ofNat 1))], [], A)) rfl ?_
  exact rn_wd_t hd hx hc hm1 hm2 h12 h _
