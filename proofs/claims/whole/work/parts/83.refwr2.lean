/-! The reference draws: words, hexadecimal numbers, names. -/
/-- the lowest k bytes of a number other than 0, from the top, as they are shown -/
def rf_wd (N : Nat) (up : Bool) : Nat → List Nat
  | 0 => []
  | k + 1 => if N / 2 ^ (8 * k) % 256 = 0 then rf_wd N up k else (if up = true ∧ 97 ≤ N / 2 ^ (8 * k) % 256 ∧ N / 2 ^ (8 * k) % 256 ≤ 122 then N / 2 ^ (8 * k) % 256 - 32 else N / 2 ^ (8 * k) % 256) :: rf_wd N up k
def rf_hx (N : Nat) : Nat → List Nat
  | 0 => []
  | k + 1 => sb_hd (N / 2 ^ (4 * k) % 16) :: rf_hx N k
def rf_hn (N : Nat) : Nat → Nat
  | 0 => 0
  | k + 1 => if N / 2 ^ (4 * (k + 1)) = 0 then rf_hn N k else k + 1
def rf_ln (N : Nat) : Nat → List Nat
  | 0 => []
  | k + 1 => if N / 2 ^ (5 * k) % 32 = 0 then rf_ln N k else (96 + N / 2 ^ (5 * k) % 32) :: rf_ln N k
def rf_k5 (k : Nat) : Int32 := Int32.ofNat (5 * k) + (-5)
theorem rf_k5_s (k : Nat) : rf_k5 (k + 1) = Int32.ofNat (5 * k) := by
  unfold rf_k5
  rw [show 5 * (k + 1) = 5 * k + 5 by omega, ← i32_add (5 * k) 5, Int32.add_assoc]
  rw [show Int32.ofNat 5 + -5 = 0 from by decide, Int32.add_zero]
theorem rf_k5_z : rf_k5 0 < 0 := by decide
theorem rw_wd_l {d b N : Nat} {up : Bool} (hd : 1 ≤ d) (hN : N < 9223372036854775808) : ∀ (k : Nat) (s : rf_S) (X : Option (List Nat)) (A : am_H) (b5 : Option Value), k ≤ 4 → rf_wx s X → rf A b s → am_wp d 174 (4, [some (.ref b), some (.long (Int64.ofNat N)), none, some (.int (sb_i up)), some (.int (sb_sh k)), b5], [], A) (fun z => z.1 = .inl none ∧ ∃ t, rf z.2 b t ∧ rf_wx t (wx_app X (rf_wd N up k)) ∧ rf_wk s t ∧ sb_fr A z.2 b (b + 38)) := by
  intro k
  induction k with
  | zero =>
    intro s X A b5 hk hx h
    refine wp_st 1 (f' := (6, [some (.ref (b)), some (.long (Int64.ofNat N)), none, some (.int (sb_i up)), some (.int (sb_sh 0)), b5], [.int (sb_sh 0)], A)) rfl ?_
    refine wp_izT rfl rfl (sb_sh_z) ?_
    refine wp_rt rfl rfl rfl ?_
    exact ⟨rfl, s, h, by rw [rf_wd, wx_app_nil hx]; exact hx, rf_wk.refl s, sb_fr.refl A b (b + 38)⟩
  | succ k ih =>
    intro s X A b5 hk hx h
    obtain ⟨c, hc⟩ : ∃ c, c = N / 2 ^ (8 * k) % 256 := ⟨_, rfl⟩
    have hdl : N / 2 ^ (8 * k) ≤ N := Nat.div_le_self _ _
    have hcl : c < 256 := by rw [hc]; exact Nat.mod_lt _ (by decide)
    rw [sb_sh_s]
    refine wp_st 1 (f' := (6, [some (.ref (b)), some (.long (Int64.ofNat N)), none, some (.int (sb_i up)), some (.int (Int32.ofNat (8 * k))), b5], [.int (Int32.ofNat (8 * k))], A)) rfl ?_
    refine wp_izF rfl rfl (Int32.ofNat_not_neg (by omega)) ?_
    refine wp_st 3 (f' := (13, [some (.ref (b)), some (.long (Int64.ofNat N)), none, some (.int (sb_i up)), some (.int (Int32.ofNat (8 * k))), b5], [.long ((Int64.ofNat N) >>> ((Int32.ofNat (8 * k)).toInt64 &&& 63))], A)) rfl ?_
    rw [i64_shr (by omega) (by omega)]
    refine wp_st 2 (f' := (17, [some (.ref (b)), some (.long (Int64.ofNat N)), none, some (.int (sb_i up)), some (.int (Int32.ofNat (8 * k))), b5], [.long ((Int64.ofNat (N / 2 ^ (8 * k))) &&& (255))], A)) rfl ?_
    rw [show Int64.ofNat (N / 2 ^ (8 * k)) &&& (255) = Int64.ofNat c from by rw [hc]; exact i64_and (m := 8) (by omega) (by omega)]
    refine wp_st 1 (f' := (18, [some (.ref (b)), some (.long (Int64.ofNat N)), none, some (.int (sb_i up)), some (.int (Int32.ofNat (8 * k))), b5], [.int ((Int64.ofNat c).toInt32)], A)) rfl ?_
    rw [i64_i32]
    refine wp_st 2 (f' := (22, [some (.ref (b)), some (.long (Int64.ofNat N)), none, some (.int (sb_i up)), some (.int (Int32.ofNat (8 * k))), some (.int (Int32.ofNat c))], [.int (Int32.ofNat c)], A)) rfl ?_
    refine wp_iz rfl rfl rfl (fun (h1 : (Int32.ofNat c) = (Int32.ofNat 0)) => ?_) (fun (h1 : ¬ ((Int32.ofNat c) = (Int32.ofNat 0))) => ?_)
    · skip
      rw [i32_eq (by omega) (by omega)] at h1
      refine wp_st 2 (f' := (4, [some (.ref (b)), some (.long (Int64.ofNat N)), none, some (.int (sb_i up)), some (.int ((Int32.ofNat (8 * k)) + (-8))), some (.int (Int32.ofNat c))], [], A)) rfl ?_
      rw [show Int32.ofNat (8 * k) + (-8) = sb_sh k from rfl]
      obtain ⟨z, z1, z2, t, z3, z4, z5, z6⟩ := ih _ _ _ _ (by omega) hx h
      refine ⟨z, z1, z2, t, z3, ?_, (rf_wk.refl s).trans z5, (sb_fr.refl A b (b + 38)).trans z6⟩
      rw [rf_wd, ← hc, if_pos h1]
      exact z4
    · skip
      rw [i32_eq (by omega) (by omega)] at h1
      refine wp_st 2 (f' := (27, [some (.ref (b)), some (.long (Int64.ofNat N)), none, some (.int (sb_i up)), some (.int (Int32.ofNat (8 * k))), some (.int (Int32.ofNat c))], [.int (sb_i up), .ref (b)], A)) rfl ?_
      by_cases b2 : up = true
      · skip
        refine wp_izF rfl rfl (show ¬ (sb_i up = 0) from by rw [b2]; decide) ?_
        refine wp_st 1 (f' := (32, [some (.ref (b)), some (.long (Int64.ofNat N)), none, some (.int (sb_i up)), some (.int (Int32.ofNat (8 * k))), some (.int (Int32.ofNat c))], [.int (Int32.ofNat c), .ref (b)], A)) rfl ?_
        by_cases hlt : 97 ≤ c ∧ c ≤ 122
        · skip
          refine wp_cs (n := 0) (A' := A) (v := some (.int (Int32.ofNat 1))) rfl rfl rfl (by omega) (by have e := lt_go (d := d - 1) (x := Int32.ofNat c) (A := A); rw [sb_rng_t hlt.1 hlt.2 (by omega)] at e; exact e) rfl ?_
          show am_wp d 174 (35, [some (.ref (b)), some (.long (Int64.ofNat N)), none, some (.int (sb_i up)), some (.int (Int32.ofNat (8 * k))), some (.int (Int32.ofNat c))], [.int (Int32.ofNat 1), .ref (b)], A) _
          refine wp_izF rfl rfl (show ¬ ((Int32.ofNat 1) = (Int32.ofNat 0)) from by decide) ?_
          refine wp_st 3 (f' := (43, [some (.ref (b)), some (.long (Int64.ofNat N)), none, some (.int (sb_i up)), some (.int (Int32.ofNat (8 * k))), some (.int (Int32.ofNat c))], [.int ((Int32.ofNat c) - (Int32.ofNat 32)), .ref (b)], A)) rfl ?_
          rw [i32_sub (a := c) (b := 32) (by omega)]
          refine wp_st 1 (f' := (48, [some (.ref (b)), some (.long (Int64.ofNat N)), none, some (.int (sb_i up)), some (.int (Int32.ofNat (8 * k))), some (.int (Int32.ofNat c))], [.int (Int32.ofNat (c - 32)), .ref (b)], A)) rfl ?_
          obtain ⟨A3, t4, g5, h6, x7, k8, f9⟩ := rw_put (d := d - 1) (c := c - 32) hx h
          have f10 := (sb_fr.refl A b (b + 38)).trans f9
          have k11 := (rf_wk.refl s).trans k8
          refine wp_cv (A' := A3) (v := none) rfl rfl rfl rfl rfl (show _ from h.1) (by omega) (g5) rfl ?_
          show am_wp d 174 (51, [some (.ref (b)), some (.long (Int64.ofNat N)), none, some (.int (sb_i up)), some (.int (Int32.ofNat (8 * k))), some (.int (Int32.ofNat c))], [], A3) _
          refine wp_st 2 (f' := (4, [some (.ref (b)), some (.long (Int64.ofNat N)), none, some (.int (sb_i up)), some (.int ((Int32.ofNat (8 * k)) + (-8))), some (.int (Int32.ofNat c))], [], A3)) rfl ?_
          rw [show Int32.ofNat (8 * k) + (-8) = sb_sh k from rfl]
          obtain ⟨z, z1, z2, t, z3, z4, z5, z6⟩ := ih _ _ _ _ (by omega) x7 h6
          refine ⟨z, z1, z2, t, z3, ?_, k11.trans z5, f10.trans z6⟩
          rw [rf_wd, ← hc, if_neg h1, if_pos ⟨b2, hlt⟩]
          simp only [wx_app2, List.cons_append, List.nil_append] at z4
          exact z4
        · skip
          refine wp_cs (n := 0) (A' := A) (v := some (.int (Int32.ofNat 0))) rfl rfl rfl (by omega) (by have e := lt_go (d := d - 1) (x := Int32.ofNat c) (A := A); rw [sb_rng_f hlt (by omega) (by omega) (by omega)] at e; exact e) rfl ?_
          show am_wp d 174 (35, [some (.ref (b)), some (.long (Int64.ofNat N)), none, some (.int (sb_i up)), some (.int (Int32.ofNat (8 * k))), some (.int (Int32.ofNat c))], [.int (Int32.ofNat 0), .ref (b)], A) _
          refine wp_izT rfl rfl (show (Int32.ofNat 0) = (Int32.ofNat 0) from by decide) ?_
          refine wp_st 1 (f' := (48, [some (.ref (b)), some (.long (Int64.ofNat N)), none, some (.int (sb_i up)), some (.int (Int32.ofNat (8 * k))), some (.int (Int32.ofNat c))], [.int (Int32.ofNat c), .ref (b)], A)) rfl ?_
          obtain ⟨A12, t13, g14, h15, x16, k17, f18⟩ := rw_put (d := d - 1) (c := c) hx h
          have f19 := (sb_fr.refl A b (b + 38)).trans f18
          have k20 := (rf_wk.refl s).trans k17
          refine wp_cv (A' := A12) (v := none) rfl rfl rfl rfl rfl (show _ from h.1) (by omega) (g14) rfl ?_
          show am_wp d 174 (51, [some (.ref (b)), some (.long (Int64.ofNat N)), none, some (.int (sb_i up)), some (.int (Int32.ofNat (8 * k))), some (.int (Int32.ofNat c))], [], A12) _
          refine wp_st 2 (f' := (4, [some (.ref (b)), some (.long (Int64.ofNat N)), none, some (.int (sb_i up)), some (.int ((Int32.ofNat (8 * k)) + (-8))), some (.int (Int32.ofNat c))], [], A12)) rfl ?_
          rw [show Int32.ofNat (8 * k) + (-8) = sb_sh k from rfl]
          obtain ⟨z, z1, z2, t, z3, z4, z5, z6⟩ := ih _ _ _ _ (by omega) x16 h15
          refine ⟨z, z1, z2, t, z3, ?_, k20.trans z5, f19.trans z6⟩
          rw [rf_wd, ← hc, if_neg h1, if_neg (fun e => hlt e.2)]
          simp only [wx_app2, List.cons_append, List.nil_append] at z4
          exact z4
      · skip
        have b2f : up = false := by simpa using b2
        refine wp_izT rfl rfl (show sb_i up = 0 from by rw [b2f]; decide) ?_
        refine wp_st 1 (f' := (48, [some (.ref (b)), some (.long (Int64.ofNat N)), none, some (.int (sb_i up)), some (.int (Int32.ofNat (8 * k))), some (.int (Int32.ofNat c))], [.int (Int32.ofNat c), .ref (b)], A)) rfl ?_
        obtain ⟨A21, t22, g23, h24, x25, k26, f27⟩ := rw_put (d := d - 1) (c := c) hx h
        have f28 := (sb_fr.refl A b (b + 38)).trans f27
        have k29 := (rf_wk.refl s).trans k26
        refine wp_cv (A' := A21) (v := none) rfl rfl rfl rfl rfl (show _ from h.1) (by omega) (g23) rfl ?_
        show am_wp d 174 (51, [some (.ref (b)), some (.long (Int64.ofNat N)), none, some (.int (sb_i up)), some (.int (Int32.ofNat (8 * k))), some (.int (Int32.ofNat c))], [], A21) _
        refine wp_st 2 (f' := (4, [some (.ref (b)), some (.long (Int64.ofNat N)), none, some (.int (sb_i up)), some (.int ((Int32.ofNat (8 * k)) + (-8))), some (.int (Int32.ofNat c))], [], A21)) rfl ?_
        rw [show Int32.ofNat (8 * k) + (-8) = sb_sh k from rfl]
        obtain ⟨z, z1, z2, t, z3, z4, z5, z6⟩ := ih _ _ _ _ (by omega) x25 h24
        refine ⟨z, z1, z2, t, z3, ?_, k29.trans z5, f28.trans z6⟩
        rw [rf_wd, ← hc, if_neg h1, if_neg (fun e => b2 e.1)]
        simp only [wx_app2, List.cons_append, List.nil_append] at z4
        exact z4
theorem rw_word {d b : Nat} {s : rf_S} {X : Option (List Nat)} {A : am_H} {N : Nat} {up : Bool} (hd : 1 ≤ d) (hN : N < 9223372036854775808) (hx : rf_wx s X) (h : rf A b s) : rf_wg d 174 [.ref b, .long (Int64.ofNat N), .int (sb_i up)] A b s X (rf_wd N up 4) := by
  refine wp_goW ?_
  refine wp_st 2 (f' := (4, [some (.ref (b)), some (.long (Int64.ofNat N)), none, some (.int (sb_i up)), some (.int (Int32.ofNat 24)), none], [], A)) rfl ?_
  exact rw_wd_l hd hN 4 s X A none (by omega) hx h
theorem rw_hn_l {d b N : Nat} {y1 : Int64} {A : am_H} {Q : am_O × am_H → Prop} (hN : N < 9223372036854775808) : ∀ (k : Nat) (b7 : Option Value), k ≤ 15 → am_wp d 176 (52, [some (.ref b), some (.long y1), none, some (.long (Int64.ofNat N)), none, some (.int (Int32.ofNat (4 * (rf_hn N k)))), none, b7], [], A) Q → am_wp d 176 (29, [some (.ref b), some (.long y1), none, some (.long (Int64.ofNat N)), none, some (.int (Int32.ofNat (4 * (k)))), none, b7], [], A) Q := by
  intro k
  induction k with
  | zero =>
    intro b7 hk kk
    refine wp_st 1 (f' := (31, [some (.ref (b)), some (.long (y1)), none, some (.long (Int64.ofNat N)), none, some (.int (Int32.ofNat (4 * (0)))), none, b7], [.int (Int32.ofNat (4 * (0)))], A)) rfl ?_
    refine wp_izT rfl rfl ((i32_le (a := 4 * (0)) (b := 0) (by omega) (by omega)).mpr (by omega)) ?_
    exact kk
  | succ k ih =>
    intro b7 hk kk
    have hdl : N / 2 ^ (4 * (k + 1)) ≤ N := Nat.div_le_self _ _
    rw [rf_hn] at kk
    refine wp_st 1 (f' := (31, [some (.ref (b)), some (.long (y1)), none, some (.long (Int64.ofNat N)), none, some (.int (Int32.ofNat (4 * (k + 1)))), none, b7], [.int (Int32.ofNat (4 * (k + 1)))], A)) rfl ?_
    refine wp_izF rfl rfl (fun q => absurd ((i32_le (a := 4 * (k + 1)) (b := 0) (by omega) (by omega)).mp q) (by omega)) ?_
    refine wp_st 3 (f' := (38, [some (.ref (b)), some (.long (y1)), none, some (.long (Int64.ofNat N)), none, some (.int (Int32.ofNat (4 * (k + 1)))), none, b7], [.long ((Int64.ofNat N) >>> ((Int32.ofNat (4 * (k + 1))).toInt64 &&& 63))], A)) rfl ?_
    rw [i64_shr (by omega) (by omega)]
    refine wp_st 2 (f' := (40, [some (.ref (b)), some (.long (y1)), none, some (.long (Int64.ofNat N)), none, some (.int (Int32.ofNat (4 * (k + 1)))), none, b7], [.int (lg_cmp (Int64.ofNat (N / 2 ^ (4 * (k + 1)))) (Int64.ofNat 0))], A)) rfl ?_
    refine wp_iz rfl rfl rfl (fun (h1 : (lg_cmp (Int64.ofNat (N / 2 ^ (4 * (k + 1)))) (Int64.ofNat 0)) ≠ (Int32.ofNat 0)) => ?_) (fun (h1 : ¬ ((lg_cmp (Int64.ofNat (N / 2 ^ (4 * (k + 1)))) (Int64.ofNat 0)) ≠ (Int32.ofNat 0))) => ?_)
    · skip
      have hz : ¬ N / 2 ^ (4 * (k + 1)) = 0 := fun e => h1 ((lg_cmp_eq _ _).mpr ((i64_eq (by omega) (by omega)).mpr e))
      rw [if_neg hz] at kk
      exact kk
    · skip
      replace h1 := Decidable.not_not.mp h1
      have hz : N / 2 ^ (4 * (k + 1)) = 0 := (i64_eq (by omega) (by omega)).mp ((lg_cmp_eq _ _).mp h1)
      refine wp_st 3 (f' := (47, [some (.ref (b)), some (.long (y1)), none, some (.long (Int64.ofNat N)), none, some (.int (Int32.ofNat (4 * (k + 1)))), none, b7], [.int ((Int32.ofNat (4 * (k + 1))) - (Int32.ofNat 4))], A)) rfl ?_
      rw [i32_sub (a := 4 * (k + 1)) (b := 4) (by omega)]
      refine wp_st 2 (f' := (29, [some (.ref (b)), some (.long (y1)), none, some (.long (Int64.ofNat N)), none, some (.int (Int32.ofNat ((4 * (k + 1)) - 4))), none, b7], [], A)) rfl ?_
      rw [if_pos hz] at kk
      rw [show 4 * (k + 1) - 4 = 4 * k by omega]
      exact ih _ (by omega) kk
theorem rw_hx_l {d b N : Nat} {y1 : Int64} {z5 : Int32} (hd : 1 ≤ d) (hN : N < 9223372036854775808) : ∀ (k : Nat) (s : rf_S) (X : Option (List Nat)) (A : am_H) (b7 : Option Value), k ≤ 16 → rf_wx s X → rf A b s → am_wp d 176 (56, [some (.ref b), some (.long y1), none, some (.long (Int64.ofNat N)), none, some (.int z5), some (.int (sb_s4 k)), b7], [], A) (fun z => z.1 = .inl none ∧ ∃ t, rf z.2 b t ∧ rf_wx t (wx_app X (rf_hx N k)) ∧ rf_wk s t ∧ sb_fr A z.2 b (b + 38)) := by
  intro k
  induction k with
  | zero =>
    intro s X A b7 hk hx h
    refine wp_st 1 (f' := (58, [some (.ref (b)), some (.long (y1)), none, some (.long (Int64.ofNat N)), none, some (.int (z5)), some (.int (sb_s4 0)), b7], [.int (sb_s4 0)], A)) rfl ?_
    refine wp_izT rfl rfl (sb_s4_z) ?_
    refine wp_rt rfl rfl rfl ?_
    exact ⟨rfl, s, h, by rw [rf_hx, wx_app_nil hx]; exact hx, rf_wk.refl s, sb_fr.refl A b (b + 38)⟩
  | succ k ih =>
    intro s X A b7 hk hx h
    obtain ⟨c, hc⟩ : ∃ c, c = N / 2 ^ (4 * k) % 16 := ⟨_, rfl⟩
    have hdl : N / 2 ^ (4 * k) ≤ N := Nat.div_le_self _ _
    have hcl : c < 16 := by rw [hc]; exact Nat.mod_lt _ (by decide)
    rw [sb_s4_s]
    refine wp_st 1 (f' := (58, [some (.ref (b)), some (.long (y1)), none, some (.long (Int64.ofNat N)), none, some (.int (z5)), some (.int (Int32.ofNat (4 * k))), b7], [.int (Int32.ofNat (4 * k))], A)) rfl ?_
    refine wp_izF rfl rfl (Int32.ofNat_not_neg (by omega)) ?_
    refine wp_st 3 (f' := (65, [some (.ref (b)), some (.long (y1)), none, some (.long (Int64.ofNat N)), none, some (.int (z5)), some (.int (Int32.ofNat (4 * k))), b7], [.long ((Int64.ofNat N) >>> ((Int32.ofNat (4 * k)).toInt64 &&& 63))], A)) rfl ?_
    rw [i64_shr (by omega) (by omega)]
    refine wp_st 2 (f' := (69, [some (.ref (b)), some (.long (y1)), none, some (.long (Int64.ofNat N)), none, some (.int (z5)), some (.int (Int32.ofNat (4 * k))), b7], [.long ((Int64.ofNat (N / 2 ^ (4 * k))) &&& (15))], A)) rfl ?_
    rw [show Int64.ofNat (N / 2 ^ (4 * k)) &&& (15) = Int64.ofNat c from by rw [hc]; exact i64_and (m := 4) (by omega) (by omega)]
    refine wp_st 1 (f' := (70, [some (.ref (b)), some (.long (y1)), none, some (.long (Int64.ofNat N)), none, some (.int (z5)), some (.int (Int32.ofNat (4 * k))), b7], [.int ((Int64.ofNat c).toInt32)], A)) rfl ?_
    rw [i64_i32]
    refine wp_st 4 (f' := (77, [some (.ref (b)), some (.long (y1)), none, some (.long (Int64.ofNat N)), none, some (.int (z5)), some (.int (Int32.ofNat (4 * k))), some (.int (Int32.ofNat c))], [.int (Int32.ofNat 10), .int (Int32.ofNat c), .ref (b)], A)) rfl ?_
    refine wp_if rfl rfl rfl (fun (h1 : (Int32.ofNat 10) ≤ (Int32.ofNat c)) => ?_) (fun (h1 : ¬ ((Int32.ofNat 10) ≤ (Int32.ofNat c))) => ?_)
    · skip
      rw [i32_le (by omega) (by omega)] at h1
      refine wp_st 3 (f' := (93, [some (.ref (b)), some (.long (y1)), none, some (.long (Int64.ofNat N)), none, some (.int (z5)), some (.int (Int32.ofNat (4 * k))), some (.int (Int32.ofNat c))], [.int ((Int32.ofNat 97) + (Int32.ofNat c)), .ref (b)], A)) rfl ?_
      rw [i32_add (97) (c)]
      refine wp_st 2 (f' := (96, [some (.ref (b)), some (.long (y1)), none, some (.long (Int64.ofNat N)), none, some (.int (z5)), some (.int (Int32.ofNat (4 * k))), some (.int (Int32.ofNat c))], [.int ((Int32.ofNat (97 + c)) - (Int32.ofNat 10)), .ref (b)], A)) rfl ?_
      rw [i32_sub (a := 97 + c) (b := 10) (by omega)]
      obtain ⟨A2, t3, g4, h5, x6, k7, f8⟩ := rw_put (d := d - 1) (c := (97 + c) - 10) hx h
      have f9 := (sb_fr.refl A b (b + 38)).trans f8
      have k10 := (rf_wk.refl s).trans k7
      refine wp_cv (A' := A2) (v := none) rfl rfl rfl rfl rfl (show _ from h.1) (by omega) (g4) rfl ?_
      show am_wp d 176 (99, [some (.ref (b)), some (.long (y1)), none, some (.long (Int64.ofNat N)), none, some (.int (z5)), some (.int (Int32.ofNat (4 * k))), some (.int (Int32.ofNat c))], [], A2) _
      refine wp_st 2 (f' := (56, [some (.ref (b)), some (.long (y1)), none, some (.long (Int64.ofNat N)), none, some (.int (z5)), some (.int ((Int32.ofNat (4 * k)) + (-4))), some (.int (Int32.ofNat c))], [], A2)) rfl ?_
      rw [show Int32.ofNat (4 * k) + (-4) = sb_s4 k from rfl]
      obtain ⟨z, z1, z2, t, z3, z4, z5, z6⟩ := ih _ _ _ _ (by omega) x6 h5
      refine ⟨z, z1, z2, t, z3, ?_, k10.trans z5, f9.trans z6⟩
      simp only [wx_app2, List.cons_append, List.nil_append] at z4
      rw [rf_hx, ← hc, show sb_hd c = 97 + c - 10 from by rw [sb_hd, if_neg (by omega)]; omega]
      exact z4
    · skip
      rw [i32_le (by omega) (by omega)] at h1
      refine wp_st 3 (f' := (85, [some (.ref (b)), some (.long (y1)), none, some (.long (Int64.ofNat N)), none, some (.int (z5)), some (.int (Int32.ofNat (4 * k))), some (.int (Int32.ofNat c))], [.int ((Int32.ofNat 48) + (Int32.ofNat c)), .ref (b)], A)) rfl ?_
      rw [i32_add (48) (c)]
      refine wp_st 1 (f' := (96, [some (.ref (b)), some (.long (y1)), none, some (.long (Int64.ofNat N)), none, some (.int (z5)), some (.int (Int32.ofNat (4 * k))), some (.int (Int32.ofNat c))], [.int (Int32.ofNat (48 + c)), .ref (b)], A)) rfl ?_
      obtain ⟨A11, t12, g13, h14, x15, k16, f17⟩ := rw_put (d := d - 1) (c := 48 + c) hx h
      have f18 := (sb_fr.refl A b (b + 38)).trans f17
      have k19 := (rf_wk.refl s).trans k16
      refine wp_cv (A' := A11) (v := none) rfl rfl rfl rfl rfl (show _ from h.1) (by omega) (g13) rfl ?_
      show am_wp d 176 (99, [some (.ref (b)), some (.long (y1)), none, some (.long (Int64.ofNat N)), none, some (.int (z5)), some (.int (Int32.ofNat (4 * k))), some (.int (Int32.ofNat c))], [], A11) _
      refine wp_st 2 (f' := (56, [some (.ref (b)), some (.long (y1)), none, some (.long (Int64.ofNat N)), none, some (.int (z5)), some (.int ((Int32.ofNat (4 * k)) + (-4))), some (.int (Int32.ofNat c))], [], A11)) rfl ?_
      rw [show Int32.ofNat (4 * k) + (-4) = sb_s4 k from rfl]
      obtain ⟨z, z1, z2, t, z3, z4, z5, z6⟩ := ih _ _ _ _ (by omega) x15 h14
      refine ⟨z, z1, z2, t, z3, ?_, k19.trans z5, f18.trans z6⟩
      simp only [wx_app2, List.cons_append, List.nil_append] at z4
      rw [rf_hx, ← hc, show sb_hd c = 48 + c from by rw [sb_hd, if_pos (by omega)]; omega]
      exact z4
theorem rf_hn_le (N : Nat) : ∀ k, rf_hn N k ≤ k
  | 0 => Nat.le_refl _
  | k + 1 => by
    rw [rf_hn]
    have := rf_hn_le N k
    split <;> omega
theorem rw_hex {d b : Nat} {s : rf_S} {X : Option (List Nat)} {A : am_H} {v : Nat} (hd : 1 ≤ d) (hv : v < 9223372036854775808) (hx : rf_wx s X) (h : rf A b s) : rf_wg d 176 [.ref b, .long (Int64.ofNat v)] A b s X (rf_hx v (rf_hn v 15 + 1)) := by
  refine wp_goW ?_
  refine wp_st 3 (f' := (3, [some (.ref (b)), some (.long (Int64.ofNat v)), none, none, none, none, none, none], [.int (lg_cmp (Int64.ofNat v) (Int64.ofNat 0))], A)) rfl ?_
  refine wp_izT rfl rfl ((lg_cmp_ge _ _).mpr ((i64_le (a := 0) (b := v) (by omega) (by omega)).mpr (by omega))) ?_
  refine wp_st 5 (f' := (16, [some (.ref (b)), some (.long (Int64.ofNat v)), none, some (.long (Int64.ofNat v)), none, none, none, none], [.int (lg_cmp (Int64.ofNat v) (Int64.ofNat 0))], A)) rfl ?_
  refine wp_izT rfl rfl ((lg_cmp_ge _ _).mpr ((i64_le (a := 0) (b := v) (by omega) (by omega)).mpr (by omega))) ?_
  refine wp_st 2 (f' := (29, [some (.ref (b)), some (.long (Int64.ofNat v)), none, some (.long (Int64.ofNat v)), none, some (.int (Int32.ofNat 60)), none, none], [], A)) rfl ?_
  refine rw_hn_l hv 15 none (by omega) ?_
  refine wp_st 2 (f' := (56, [some (.ref (b)), some (.long (Int64.ofNat v)), none, some (.long (Int64.ofNat v)), none, some (.int (Int32.ofNat (4 * (rf_hn v 15)))), some (.int (Int32.ofNat (4 * (rf_hn v 15)))), none], [], A)) rfl ?_
  have hhn := rf_hn_le v 15
  obtain ⟨z, z1, z2, t, z3, z4, z5, z6⟩ := rw_hx_l (y1 := Int64.ofNat v) (z5 := Int32.ofNat (4 * (rf_hn v 15))) hd hv (rf_hn v 15 + 1) _ _ _ none (by omega) hx h
  rw [sb_s4_s] at z1
  refine ⟨z, z1, z2, t, z3, ?_, (rf_wk.refl s).trans z5, (sb_fr.refl A b (b + 38)).trans z6⟩
  try simp only [wx_app2] at z4
  exact z4
theorem rw_hexn {d b : Nat} {s : rf_S} {X : Option (List Nat)} {A : am_H} {v : Nat} (hd : 1 ≤ d) (hv0 : 0 < v) (hv : v < 9223372036854775808) (hx : rf_wx s X) (h : rf A b s) : rf_wg d 176 [.ref b, .long ((-Int64.ofNat v))] A b s X ([45] ++ rf_hx v (rf_hn v 15 + 1)) := by
  refine wp_goW ?_
  refine wp_st 3 (f' := (3, [some (.ref (b)), some (.long ((-Int64.ofNat v))), none, none, none, none, none, none], [.int (lg_cmp (-Int64.ofNat v) (Int64.ofNat 0))], A)) rfl ?_
  refine wp_izF rfl rfl (fun q => i64_neg hv0 hv ((lg_cmp_ge _ _).mp q)) ?_
  refine wp_st 2 (f' := (8, [some (.ref (b)), some (.long ((-Int64.ofNat v))), none, none, none, none, none, none], [.long (-(-Int64.ofNat v))], A)) rfl ?_
  rw [Int64.neg_neg]
  refine wp_st 5 (f' := (16, [some (.ref (b)), some (.long ((-Int64.ofNat v))), none, some (.long (Int64.ofNat v)), none, none, none, none], [.int (lg_cmp (-Int64.ofNat v) (Int64.ofNat 0))], A)) rfl ?_
  refine wp_izF rfl rfl (fun q => i64_neg hv0 hv ((lg_cmp_ge _ _).mp q)) ?_
  refine wp_st 2 (f' := (22, [some (.ref (b)), some (.long ((-Int64.ofNat v))), none, some (.long (Int64.ofNat v)), none, none, none, none], [.int (Int32.ofNat 45), .ref (b)], A)) rfl ?_
  obtain ⟨A1, t2, g3, h4, x5, k6, f7⟩ := rw_put (d := d - 1) (c := 45) hx h
  have f8 := (sb_fr.refl A b (b + 38)).trans f7
  have k9 := (rf_wk.refl s).trans k6
  refine wp_cv (A' := A1) (v := none) rfl rfl rfl rfl rfl (show _ from h.1) (by omega) (g3) rfl ?_
  show am_wp d 176 (25, [some (.ref (b)), some (.long ((-Int64.ofNat v))), none, some (.long (Int64.ofNat v)), none, none, none, none], [], A1) _
  refine wp_st 2 (f' := (29, [some (.ref (b)), some (.long ((-Int64.ofNat v))), none, some (.long (Int64.ofNat v)), none, some (.int (Int32.ofNat 60)), none, none], [], A1)) rfl ?_
  refine rw_hn_l hv 15 none (by omega) ?_
  refine wp_st 2 (f' := (56, [some (.ref (b)), some (.long ((-Int64.ofNat v))), none, some (.long (Int64.ofNat v)), none, some (.int (Int32.ofNat (4 * (rf_hn v 15)))), some (.int (Int32.ofNat (4 * (rf_hn v 15)))), none], [], A1)) rfl ?_
  have hhn := rf_hn_le v 15
  obtain ⟨z, z1, z2, t, z3, z4, z5, z6⟩ := rw_hx_l (y1 := (-Int64.ofNat v)) (z5 := Int32.ofNat (4 * (rf_hn v 15))) hd hv (rf_hn v 15 + 1) _ _ _ none (by omega) x5 h4
  rw [sb_s4_s] at z1
  refine ⟨z, z1, z2, t, z3, ?_, k9.trans z5, f8.trans z6⟩
  try simp only [wx_app2] at z4
  exact z4
theorem rw_nm_l {d b N : Nat} {X0 : Option (List Nat)} (hd : 1 ≤ d) (hN : N < 2147483648) : ∀ (k : Nat) (s : rf_S) (X : Option (List Nat)) (A : am_H) (b3 : Option Value), k ≤ 4 → rf_wx s X → rf A b s → am_wp d 178 (9, [some (.ref b), some (.int (Int32.ofNat N)), some (.int (rf_k5 k)), b3], [], A) (fun z => z.1 = .inl none ∧ ∃ t, rf z.2 b t ∧ rf_wx t (wx_app X (rf_ln N k ++ [125])) ∧ rf_wk s t ∧ sb_fr A z.2 b (b + 38)) := by
  intro k
  induction k with
  | zero =>
    intro s X A b3 hk hx h
    refine wp_st 1 (f' := (10, [some (.ref (b)), some (.int (Int32.ofNat N)), some (.int (rf_k5 0)), b3], [.int (rf_k5 0)], A)) rfl ?_
    refine wp_izT rfl rfl (rf_k5_z) ?_
    refine wp_st 2 (f' := (41, [some (.ref (b)), some (.int (Int32.ofNat N)), some (.int (rf_k5 0)), b3], [.int (Int32.ofNat 125), .ref (b)], A)) rfl ?_
    obtain ⟨A1, t2, g3, h4, x5, k6, f7⟩ := rw_put (d := d - 1) (c := 125) hx h
    have f8 := (sb_fr.refl A b (b + 38)).trans f7
    have k9 := (rf_wk.refl s).trans k6
    refine wp_cv (A' := A1) (v := none) rfl rfl rfl rfl rfl (show _ from h.1) (by omega) (g3) rfl ?_
    show am_wp d 178 (44, [some (.ref (b)), some (.int (Int32.ofNat N)), some (.int (rf_k5 0)), b3], [], A1) _
    refine wp_rt rfl rfl rfl ?_
    exact ⟨rfl, _, h4, x5, k9, f8⟩
  | succ k ih =>
    intro s X A b3 hk hx h
    obtain ⟨c, hc⟩ : ∃ c, c = N / 2 ^ (5 * k) % 32 := ⟨_, rfl⟩
    have hcl : c < 32 := by rw [hc]; exact Nat.mod_lt _ (by decide)
    rw [rf_k5_s]
    refine wp_st 1 (f' := (10, [some (.ref (b)), some (.int (Int32.ofNat N)), some (.int (Int32.ofNat (5 * k))), b3], [.int (Int32.ofNat (5 * k))], A)) rfl ?_
    refine wp_izF rfl rfl (Int32.ofNat_not_neg (by omega)) ?_
    refine wp_st 5 (f' := (19, [some (.ref (b)), some (.int (Int32.ofNat N)), some (.int (Int32.ofNat (5 * k))), b3], [.int (((Int32.ofNat N) >>> ((Int32.ofNat (5 * k)) &&& 31)) &&& (Int32.ofNat 31))], A)) rfl ?_
    rw [show Int32.ofNat N >>> (Int32.ofNat (5 * k) &&& 31) &&& Int32.ofNat 31 = Int32.ofNat c from by rw [hc]; exact i32_shr5 hN (by omega)]
    refine wp_st 2 (f' := (21, [some (.ref (b)), some (.int (Int32.ofNat N)), some (.int (Int32.ofNat (5 * k))), some (.int (Int32.ofNat c))], [.int (Int32.ofNat c)], A)) rfl ?_
    refine wp_iz rfl rfl rfl (fun (h1 : (Int32.ofNat c) ≤ (Int32.ofNat 0)) => ?_) (fun (h1 : ¬ ((Int32.ofNat c) ≤ (Int32.ofNat 0))) => ?_)
    · skip
      rw [i32_le (by omega) (by omega)] at h1
      refine wp_st 2 (f' := (9, [some (.ref (b)), some (.int (Int32.ofNat N)), some (.int ((Int32.ofNat (5 * k)) + (-5))), some (.int (Int32.ofNat c))], [], A)) rfl ?_
      rw [show Int32.ofNat (5 * k) + (-5) = rf_k5 k from rfl]
      obtain ⟨z, z1, z2, t, z3, z4, z5, z6⟩ := ih _ _ _ _ (by omega) hx h
      refine ⟨z, z1, z2, t, z3, ?_, (rf_wk.refl s).trans z5, (sb_fr.refl A b (b + 38)).trans z6⟩
      rw [rf_ln, ← hc, if_pos (by omega)]
      exact z4
    · skip
      rw [i32_le (by omega) (by omega)] at h1
      refine wp_st 4 (f' := (29, [some (.ref (b)), some (.int (Int32.ofNat N)), some (.int (Int32.ofNat (5 * k))), some (.int (Int32.ofNat c))], [.int ((Int32.ofNat 96) + (Int32.ofNat c)), .ref (b)], A)) rfl ?_
      rw [i32_add (96) (c)]
      obtain ⟨A2, t3, g4, h5, x6, k7, f8⟩ := rw_put (d := d - 1) (c := 96 + c) hx h
      have f9 := (sb_fr.refl A b (b + 38)).trans f8
      have k10 := (rf_wk.refl s).trans k7
      refine wp_cv (A' := A2) (v := none) rfl rfl rfl rfl rfl (show _ from h.1) (by omega) (g4) rfl ?_
      show am_wp d 178 (32, [some (.ref (b)), some (.int (Int32.ofNat N)), some (.int (Int32.ofNat (5 * k))), some (.int (Int32.ofNat c))], [], A2) _
      refine wp_st 2 (f' := (9, [some (.ref (b)), some (.int (Int32.ofNat N)), some (.int ((Int32.ofNat (5 * k)) + (-5))), some (.int (Int32.ofNat c))], [], A2)) rfl ?_
      rw [show Int32.ofNat (5 * k) + (-5) = rf_k5 k from rfl]
      obtain ⟨z, z1, z2, t, z3, z4, z5, z6⟩ := ih _ _ _ _ (by omega) x6 h5
      refine ⟨z, z1, z2, t, z3, ?_, k10.trans z5, f9.trans z6⟩
      simp only [wx_app2, List.cons_append, List.nil_append] at z4
      rw [rf_ln, ← hc, if_neg (by omega)]
      exact z4
theorem rw_name {d b : Nat} {s : rf_S} {X : Option (List Nat)} {A : am_H} {N : Nat} (hd : 1 ≤ d) (hN : N < 2147483648) (hx : rf_wx s X) (h : rf A b s) : rf_wg d 178 [.ref b, .int (Int32.ofNat N)] A b s X ([123] ++ (rf_ln N 4 ++ [125])) := by
  refine wp_goW ?_
  refine wp_st 2 (f' := (3, [some (.ref (b)), some (.int (Int32.ofNat N)), none, none], [.int (Int32.ofNat 123), .ref (b)], A)) rfl ?_
  obtain ⟨A1, t2, g3, h4, x5, k6, f7⟩ := rw_put (d := d - 1) (c := 123) hx h
  have f8 := (sb_fr.refl A b (b + 38)).trans f7
  have k9 := (rf_wk.refl s).trans k6
  refine wp_cv (A' := A1) (v := none) rfl rfl rfl rfl rfl (show _ from h.1) (by omega) (g3) rfl ?_
  show am_wp d 178 (6, [some (.ref (b)), some (.int (Int32.ofNat N)), none, none], [], A1) _
  refine wp_st 2 (f' := (9, [some (.ref (b)), some (.int (Int32.ofNat N)), some (.int (Int32.ofNat 15)), none], [], A1)) rfl ?_
  obtain ⟨z, z1, z2, t, z3, z4, z5, z6⟩ := rw_nm_l (X0 := none) hd hN 4 _ _ _ none (by omega) x5 h4
  refine ⟨z, z1, z2, t, z3, ?_, k9.trans z5, f8.trans z6⟩
  try simp only [wx_app2] at z4
  exact z4
