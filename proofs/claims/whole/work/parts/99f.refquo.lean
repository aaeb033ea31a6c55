/-! The reference: quote, apostrophe. -/
theorem mq_l {d b n L : Nat} {cs : List Nat} {ob : Nat → Nat} (hd : 2 ≤ d) : ∀ (k a g : Nat) (r : Int64) (M : mg) (E dp : Nat → Nat) (lp : Nat → Option Nat) (s : rf_S) (A : am_H), n ≤ a + k → a ≤ n → mg_P M ≤ a → rf_tx s cs n → rm_I s M L E dp lp ob false → rm_rd M L lp → rf A b (rf_c s a (-1) r g) → am_wp d 127 (12, [some (.ref b), some (.int (Int32.ofNat 1))], [], A) (fun q => q.1 = .inl none ∧ ml_H A s b (rd_quote cs n k a M).2 L lp ob (rd_quote cs n k a M).1 q.2) := by
  intro k
  induction k with
  | zero =>
    intro a g r M E dp lp s A hk ha hP hx hI hr h
    have hn1 := hx.2.2.1
    refine wp_st 1 (f' := (13, [some (.ref (b)), some (.int (Int32.ofNat 1))], [.int (Int32.ofNat 1)], A)) rfl ?_
    refine wp_izF rfl rfl (show ¬ ((Int32.ofNat 1) = (Int32.ofNat 0)) from by decide) ?_
    refine wp_st 1 (f' := (17, [some (.ref (b)), some (.int (Int32.ofNat 1))], [.ref (b)], A)) rfl ?_
    refine rw_gf (v := .int (Int32.ofNat a)) h rfl rfl rfl rfl (rfl) rfl ?_
    refine wp_st 1 (f' := (21, [some (.ref (b)), some (.int (Int32.ofNat 1))], [.ref (b), .int (Int32.ofNat a)], A)) rfl ?_
    refine rw_gf (v := .int (Int32.ofNat n)) h rfl rfl rfl rfl (hx.1) rfl ?_
    refine wp_ifT rfl (show am_tgt 24 (92) = 116 by decide +kernel) ((i32_le (a := n) (b := a) (by omega) (by omega)).mpr (by omega)) ?_
    refine wp_rt rfl rfl rfl ?_
    exact ⟨rfl, _, _, _, _, _, _, h, hI, hr, fun _ _ => rfl, (rm_X.refl s), (sb_fr.refl A b (b + 38))⟩
  | succ k ih =>
    intro a g r M E dp lp s A hk ha hP hx hI hr h
    have hn1 := hx.2.2.1
    have hlk : ∀ k, sb_lk cs n k < 128 := by
      intro k
      unfold sb_lk
      split
      · have := hx.2.2.2 k (by omega)
        omega
      · omega
    refine wp_st 1 (f' := (13, [some (.ref (b)), some (.int (Int32.ofNat 1))], [.int (Int32.ofNat 1)], A)) rfl ?_
    refine wp_izF rfl rfl (show ¬ ((Int32.ofNat 1) = (Int32.ofNat 0)) from by decide) ?_
    refine wp_st 1 (f' := (17, [some (.ref (b)), some (.int (Int32.ofNat 1))], [.ref (b)], A)) rfl ?_
    refine rw_gf (v := .int (Int32.ofNat a)) h rfl rfl rfl rfl (rfl) rfl ?_
    refine wp_st 1 (f' := (21, [some (.ref (b)), some (.int (Int32.ofNat 1))], [.ref (b), .int (Int32.ofNat a)], A)) rfl ?_
    refine rw_gf (v := .int (Int32.ofNat n)) h rfl rfl rfl rfl (hx.1) rfl ?_
    refine wp_if rfl (show am_tgt 24 (92) = 116 by decide +kernel) rfl (fun (h1 : (Int32.ofNat n) ≤ (Int32.ofNat a)) => ?_) (fun (h1 : ¬ ((Int32.ofNat n) ≤ (Int32.ofNat a))) => ?_)
    · skip
      rw [i32_le (by omega) (by omega)] at h1
      refine wp_rt rfl rfl rfl ?_
      rw [show rd_quote cs n (k + 1) a M = (a, M) from by rw [rd_quote]; first | (rw [if_pos (show n ≤ a by omega)]; done) | (rw [if_neg (show ¬ n ≤ a by omega), if_pos (by omega), if_neg (by omega)]; done)]
      exact ⟨rfl, _, _, _, _, _, _, h, hI, hr, fun _ _ => rfl, (rm_X.refl s), (sb_fr.refl A b (b + 38))⟩
    · skip
      rw [i32_le (by omega) (by omega)] at h1
      refine wp_st 2 (f' := (29, [some (.ref (b)), some (.int (Int32.ofNat 1))], [.ref (b), .ref (b)], A)) rfl ?_
      refine rw_gf (v := .int (Int32.ofNat a)) h rfl rfl rfl rfl (rfl) rfl ?_
      have l2 := hlk (a)
      refine wp_cv (A' := A) (v := some (.int (Int32.ofNat (sb_lk cs n a)))) rfl rfl rfl rfl rfl (show _ from h.1) (by omega) (rr_look (by omega) (show rf_tx (s) cs n from hx) h) rfl ?_
      show am_wp d 127 (35, [some (.ref (b)), some (.int (Int32.ofNat 1))], [.int (Int32.ofNat (sb_lk cs n a))], A) _
      refine wp_st 1 (f' := (37, [some (.ref (b)), some (.int (Int32.ofNat 1))], [.int (Int32.ofNat 39), .int (Int32.ofNat (sb_lk cs n a))], A)) rfl ?_
      refine wp_if rfl rfl rfl (fun (h3 : (Int32.ofNat (sb_lk cs n a)) ≠ (Int32.ofNat 39)) => ?_) (fun (h3 : ¬ ((Int32.ofNat (sb_lk cs n a)) ≠ (Int32.ofNat 39))) => ?_)
      · skip
        rw [ne_eq, i32_eq (by omega) (by omega)] at h3
        refine wp_st 3 (f' := (63, [some (.ref (b)), some (.int (Int32.ofNat 1))], [.ref (b), .ref (b), .ref (b)], A)) rfl ?_
        refine rw_gf (v := .int (Int32.ofNat a)) h rfl rfl rfl rfl (rfl) rfl ?_
        have l4 := hlk (a)
        refine wp_cv (A' := A) (v := some (.int (Int32.ofNat (sb_lk cs n a)))) rfl rfl rfl rfl rfl (show _ from h.1) (by omega) (rr_look (by omega) (show rf_tx (s) cs n from hx) h) rfl ?_
        show am_wp d 127 (69, [some (.ref (b)), some (.int (Int32.ofNat 1))], [.int (Int32.ofNat (sb_lk cs n a)), .ref (b)], A) _
        refine wp_st 1 (f' := (71, [some (.ref (b)), some (.int (Int32.ofNat 1))], [.int (Int32.ofNat 39), .int (Int32.ofNat (sb_lk cs n a)), .ref (b)], A)) rfl ?_
        refine wp_ifT rfl rfl (fun q => absurd ((i32_eq (a := sb_lk cs n a) (b := 39) (by omega) (by omega)).mp q) (by omega)) ?_
        refine wp_st 1 (f' := (84, [some (.ref (b)), some (.int (Int32.ofNat 1))], [.ref (b), .ref (b)], A)) rfl ?_
        refine rw_gf (v := .int (Int32.ofNat a)) h rfl rfl rfl rfl (rfl) rfl ?_
        refine rw_pf (v := .int (Int32.ofNat a)) h rfl rfl rfl rfl rfl rfl (fun A5 h6 f7 => ?_)
        have f8 := (sb_fr.refl A b (b + 38)).trans f7
        rw [rf_c17] at h6
        refine wp_st 4 (f' := (94, [some (.ref (b)), some (.int (Int32.ofNat 1))], [.ref (b), .ref (b), .int (Int32.ofNat 0), .ref (b)], A5)) rfl ?_
        refine rw_gf (v := .int (Int32.ofNat a)) h6 rfl rfl rfl rfl (rfl) rfl ?_
        have l9 := hlk (a)
        refine wp_cv (A' := A5) (v := some (.int (Int32.ofNat (sb_lk cs n a)))) rfl rfl rfl rfl rfl (show _ from h6.1) (by omega) (rr_look (by omega) (show rf_tx (s) cs n from hx) h6) rfl ?_
        show am_wp d 127 (100, [some (.ref (b)), some (.int (Int32.ofNat 1))], [.int (Int32.ofNat (sb_lk cs n a)), .int (Int32.ofNat 0), .ref (b)], A5) _
        obtain ⟨⟨oz10, Bz10⟩, gz10, qz100, tz10, qz101, qz102, qz105⟩ := rn_add (d := d - 1) (kc := Int32.ofNat 0) (x := Int32.ofNat (sb_lk cs n a)) hI (fun _ _ _ => rfl) (by omega) h6
        dsimp only at qz100 qz101 qz105
        subst qz100
        obtain ⟨iz10, rz10⟩ := hI.addc (k := 0) (x := Int32.ofNat (sb_lk cs n a)) hr (by omega) (by omega) qz102
        have xz10 := (rm_X.refl s).trans qz102.X
        have yz10 := qz102.X.tx (show rf_tx (s) cs n from hx)
        have fz10 := f8.trans qz105
        have pz10 := mg_add_P M 0 (Int32.ofNat (sb_lk cs n a))
        refine wp_cv (A' := Bz10) (v := none) rfl rfl rfl rfl rfl (show _ from h6.1) (by omega) (gz10) rfl ?_
        show am_wp d 127 (103, [some (.ref (b)), some (.int (Int32.ofNat 1))], [], Bz10) _
        refine wp_st 2 (f' := (105, [some (.ref (b)), some (.int (Int32.ofNat 1))], [.ref (b), .ref (b)], Bz10)) rfl ?_
        refine rw_gf (v := .int (Int32.ofNat a)) qz101 rfl rfl rfl rfl (rfl) rfl ?_
        refine wp_st 2 (f' := (110, [some (.ref (b)), some (.int (Int32.ofNat 1))], [.int ((Int32.ofNat a) + (Int32.ofNat 1)), .ref (b)], Bz10)) rfl ?_
        rw [i32_add (a) (1)]
        refine rw_pf (v := .int (Int32.ofNat (a + 1))) qz101 rfl rfl rfl rfl rfl rfl (fun A11 h12 f13 => ?_)
        have f14 := fz10.trans f13
        rw [rf_c17] at h12
        refine wp_gt rfl (show am_tgt 113 (-101) = 12 by decide +kernel) ?_
        rw [show rd_quote cs n (k + 1) a M = rd_quote cs n k (a + 1) (mg_add M 0 (Int32.ofNat (sb_lk cs n a))) from by rw [rd_quote, if_neg (show ¬ n ≤ a by omega)]; first | (rw [if_pos (by omega), if_pos (by omega)]; done) | (rw [if_neg (by omega)]; done)]
        obtain ⟨z, z1, z2, z3⟩ := ih (a + 1) _ _ (mg_add M 0 (Int32.ofNat (sb_lk cs n a))) _ _ _ _ _ (by omega) (by omega) (by omega) (show rf_tx (tz10) cs n from yz10) iz10 rz10 h12
        exact ⟨z, z1, z2, z3.tr (fun l hl => by rw [up_ne (by omega)]) xz10 f14⟩
      · skip
        rw [ne_eq, i32_eq (by omega) (by omega)] at h3
        replace h3 := Decidable.not_not.mp h3
        refine wp_st 2 (f' := (42, [some (.ref (b)), some (.int (Int32.ofNat 1))], [.ref (b), .ref (b)], A)) rfl ?_
        refine rw_gf (v := .int (Int32.ofNat a)) h rfl rfl rfl rfl (rfl) rfl ?_
        refine wp_st 2 (f' := (47, [some (.ref (b)), some (.int (Int32.ofNat 1))], [.int ((Int32.ofNat a) + (Int32.ofNat 1)), .ref (b)], A)) rfl ?_
        rw [i32_add (a) (1)]
        have l15 := hlk (a + 1)
        refine wp_cv (A' := A) (v := some (.int (Int32.ofNat (sb_lk cs n (a + 1))))) rfl rfl rfl rfl rfl (show _ from h.1) (by omega) (rr_look (by omega) (show rf_tx (s) cs n from hx) h) rfl ?_
        show am_wp d 127 (50, [some (.ref (b)), some (.int (Int32.ofNat 1))], [.int (Int32.ofNat (sb_lk cs n (a + 1)))], A) _
        refine wp_st 1 (f' := (52, [some (.ref (b)), some (.int (Int32.ofNat 1))], [.int (Int32.ofNat 39), .int (Int32.ofNat (sb_lk cs n (a + 1)))], A)) rfl ?_
        refine wp_if rfl rfl rfl (fun (h16 : (Int32.ofNat (sb_lk cs n (a + 1))) = (Int32.ofNat 39)) => ?_) (fun (h16 : ¬ ((Int32.ofNat (sb_lk cs n (a + 1))) = (Int32.ofNat 39))) => ?_)
        · skip
          rw [i32_eq (by omega) (by omega)] at h16
          have h16p : a + 1 < n := sb_lk_pos (cs := cs) (by omega)
          refine wp_st 3 (f' := (63, [some (.ref (b)), some (.int (Int32.ofNat 1))], [.ref (b), .ref (b), .ref (b)], A)) rfl ?_
          refine rw_gf (v := .int (Int32.ofNat a)) h rfl rfl rfl rfl (rfl) rfl ?_
          have l17 := hlk (a)
          refine wp_cv (A' := A) (v := some (.int (Int32.ofNat (sb_lk cs n a)))) rfl rfl rfl rfl rfl (show _ from h.1) (by omega) (rr_look (by omega) (show rf_tx (s) cs n from hx) h) rfl ?_
          show am_wp d 127 (69, [some (.ref (b)), some (.int (Int32.ofNat 1))], [.int (Int32.ofNat (sb_lk cs n a)), .ref (b)], A) _
          refine wp_st 1 (f' := (71, [some (.ref (b)), some (.int (Int32.ofNat 1))], [.int (Int32.ofNat 39), .int (Int32.ofNat (sb_lk cs n a)), .ref (b)], A)) rfl ?_
          refine wp_ifF rfl rfl (fun q => q ((i32_eq (a := sb_lk cs n a) (b := 39) (by omega) (by omega)).mpr (by omega))) ?_
          refine wp_st 1 (f' := (75, [some (.ref (b)), some (.int (Int32.ofNat 1))], [.ref (b), .ref (b)], A)) rfl ?_
          refine rw_gf (v := .int (Int32.ofNat a)) h rfl rfl rfl rfl (rfl) rfl ?_
          refine wp_st 2 (f' := (80, [some (.ref (b)), some (.int (Int32.ofNat 1))], [.int ((Int32.ofNat a) + (Int32.ofNat 1)), .ref (b)], A)) rfl ?_
          rw [i32_add (a) (1)]
          refine wp_st 1 (f' := (87, [some (.ref (b)), some (.int (Int32.ofNat 1))], [.int (Int32.ofNat (a + 1)), .ref (b)], A)) rfl ?_
          refine rw_pf (v := .int (Int32.ofNat (a + 1))) h rfl rfl rfl rfl rfl rfl (fun A18 h19 f20 => ?_)
          have f21 := (sb_fr.refl A b (b + 38)).trans f20
          rw [rf_c17] at h19
          refine wp_st 4 (f' := (94, [some (.ref (b)), some (.int (Int32.ofNat 1))], [.ref (b), .ref (b), .int (Int32.ofNat 0), .ref (b)], A18)) rfl ?_
          refine rw_gf (v := .int (Int32.ofNat (a + 1))) h19 rfl rfl rfl rfl (rfl) rfl ?_
          have l22 := hlk (a + 1)
          refine wp_cv (A' := A18) (v := some (.int (Int32.ofNat (sb_lk cs n (a + 1))))) rfl rfl rfl rfl rfl (show _ from h19.1) (by omega) (rr_look (by omega) (show rf_tx (s) cs n from hx) h19) rfl ?_
          show am_wp d 127 (100, [some (.ref (b)), some (.int (Int32.ofNat 1))], [.int (Int32.ofNat (sb_lk cs n (a + 1))), .int (Int32.ofNat 0), .ref (b)], A18) _
          obtain ⟨⟨oz23, Bz23⟩, gz23, qz230, tz23, qz231, qz232, qz235⟩ := rn_add (d := d - 1) (kc := Int32.ofNat 0) (x := Int32.ofNat (sb_lk cs n (a + 1))) hI (fun _ _ _ => rfl) (by omega) h19
          dsimp only at qz230 qz231 qz235
          subst qz230
          obtain ⟨iz23, rz23⟩ := hI.addc (k := 0) (x := Int32.ofNat (sb_lk cs n (a + 1))) hr (by omega) (by omega) qz232
          have xz23 := (rm_X.refl s).trans qz232.X
          have yz23 := qz232.X.tx (show rf_tx (s) cs n from hx)
          have fz23 := f21.trans qz235
          have pz23 := mg_add_P M 0 (Int32.ofNat (sb_lk cs n (a + 1)))
          have ez23 : sb_lk cs n (a + 1) = 39 := by omega
          rw [ez23] at iz23 rz23
          have pz239 := mg_add_P M 0 (Int32.ofNat 39)
          refine wp_cv (A' := Bz23) (v := none) rfl rfl rfl rfl rfl (show _ from h19.1) (by omega) (gz23) rfl ?_
          show am_wp d 127 (103, [some (.ref (b)), some (.int (Int32.ofNat 1))], [], Bz23) _
          refine wp_st 2 (f' := (105, [some (.ref (b)), some (.int (Int32.ofNat 1))], [.ref (b), .ref (b)], Bz23)) rfl ?_
          refine rw_gf (v := .int (Int32.ofNat (a + 1))) qz231 rfl rfl rfl rfl (rfl) rfl ?_
          refine wp_st 2 (f' := (110, [some (.ref (b)), some (.int (Int32.ofNat 1))], [.int ((Int32.ofNat (a + 1)) + (Int32.ofNat 1)), .ref (b)], Bz23)) rfl ?_
          rw [i32_add (a + 1) (1)]
          refine rw_pf (v := .int (Int32.ofNat (a + 1 + 1))) qz231 rfl rfl rfl rfl rfl rfl (fun A24 h25 f26 => ?_)
          have f27 := fz23.trans f26
          rw [rf_c17] at h25
          refine wp_gt rfl (show am_tgt 113 (-101) = 12 by decide +kernel) ?_
          rw [show rd_quote cs n (k + 1) a M = rd_quote cs n k (a + 2) (mg_add M 0 (Int32.ofNat 39)) from by rw [rd_quote, if_neg (show ¬ n ≤ a by omega)]; first | (rw [if_pos (by omega), if_pos (by omega)]; done) | (rw [if_neg (by omega)]; done)]
          obtain ⟨z, z1, z2, z3⟩ := ih (a + 1 + 1) _ _ (mg_add M 0 (Int32.ofNat 39)) _ _ _ _ _ (by omega) (by omega) (by omega) (show rf_tx (tz23) cs n from yz23) iz23 rz23 h25
          exact ⟨z, z1, z2, z3.tr (fun l hl => by rw [up_ne (by omega)]) xz23 f27⟩
        · skip
          rw [i32_eq (by omega) (by omega)] at h16
          refine wp_st 5 (f' := (105, [some (.ref (b)), some (.int (Int32.ofNat 0))], [.ref (b), .ref (b)], A)) rfl ?_
          refine rw_gf (v := .int (Int32.ofNat a)) h rfl rfl rfl rfl (rfl) rfl ?_
          refine wp_st 2 (f' := (110, [some (.ref (b)), some (.int (Int32.ofNat 0))], [.int ((Int32.ofNat a) + (Int32.ofNat 1)), .ref (b)], A)) rfl ?_
          rw [i32_add (a) (1)]
          refine rw_pf (v := .int (Int32.ofNat (a + 1))) h rfl rfl rfl rfl rfl rfl (fun A28 h29 f30 => ?_)
          have f31 := (sb_fr.refl A b (b + 38)).trans f30
          rw [rf_c17] at h29
          refine wp_gt rfl (show am_tgt 113 (-101) = 12 by decide +kernel) ?_
          refine wp_st 1 (f' := (13, [some (.ref (b)), some (.int (Int32.ofNat 0))], [.int (Int32.ofNat 0)], A28)) rfl ?_
          refine wp_izT rfl (show am_tgt 13 (103) = 116 by decide +kernel) (show (Int32.ofNat 0) = (Int32.ofNat 0) from by decide) ?_
          refine wp_rt rfl rfl rfl ?_
          rw [show rd_quote cs n (k + 1) a M = (a + 1, M) from by rw [rd_quote]; first | (rw [if_pos (show n ≤ a by omega)]; done) | (rw [if_neg (show ¬ n ≤ a by omega), if_pos (by omega), if_neg (by omega)]; done)]
          exact ⟨rfl, _, _, _, _, _, _, h29, hI, hr, fun _ _ => rfl, (rm_X.refl s), f31⟩
theorem mq_quote {d b n L a g : Nat} {r : Int64} {cs : List Nat} {M : mg} {E dp ob : Nat → Nat} {lp : Nat → Option Nat} {s : rf_S} {A : am_H} (hd : 2 ≤ d) (ha : a < n) (hP : mg_P M ≤ a) (hx : rf_tx s cs n) (hI : rm_I s M L E dp lp ob false) (hr : rm_rd M L lp) (h : rf A b (rf_c s a (-1) r g)) : am_wp d 127 (0, am_ent 127 [.ref b], [], A) (fun q => q.1 = .inl none ∧ ml_H A s b (rd_quote cs n 120 (a + 1) M).2 L lp ob (rd_quote cs n 120 (a + 1) M).1 q.2) := by
  have hn1 := hx.2.2.1
  refine wp_st 2 (f' := (2, [some (.ref (b)), none], [.ref (b), .ref (b)], A)) rfl ?_
  refine rw_gf (v := .int (Int32.ofNat a)) h rfl rfl rfl rfl (rfl) rfl ?_
  refine wp_st 2 (f' := (7, [some (.ref (b)), none], [.int ((Int32.ofNat a) + (Int32.ofNat 1)), .ref (b)], A)) rfl ?_
  rw [i32_add (a) (1)]
  refine rw_pf (v := .int (Int32.ofNat (a + 1))) h rfl rfl rfl rfl rfl rfl (fun A1 h2 f3 => ?_)
  have f4 := (sb_fr.refl A b (b + 38)).trans f3
  rw [rf_c17] at h2
  refine wp_st 2 (f' := (12, [some (.ref (b)), some (.int (Int32.ofNat 1))], [], A1)) rfl ?_
  obtain ⟨z, z1, z2, z3⟩ := mq_l (cs := cs) (n := n) (by omega) 120 (a + 1) _ _ M _ _ _ _ _ (by omega) (by omega) (by omega) (show rf_tx (s) cs n from hx) hI hr h2
  exact ⟨z, z1, z2, z3.tr (fun _ _ => rfl) (rm_X.refl s) f4⟩
theorem mq_apos {d b n L a g : Nat} {r : Int64} {cs : List Nat} {M : mg} {E dp ob : Nat → Nat} {lp : Nat → Option Nat} {s : rf_S} {A : am_H} {dbl sg : Bool} (hd : 3 ≤ d) (h27 : s 27 0 = .int (sb_i dbl)) (hsg : s 26 L = .int (sb_i sg)) (ha : a < n) (hP : mg_P M ≤ a) (hx : rf_tx s cs n) (hI : rm_I s M L E dp lp ob false) (hr : rm_rd M L lp) (h : rf A b (rf_c s a (-1) r g)) : am_wp d 125 (0, am_ent 125 [.ref b], [], A) (fun q => q.1 = .inl none ∧ ml_H A s b (rd_apos cs n dbl sg a M).2 L lp ob (rd_apos cs n dbl sg a M).1 q.2) := by
  have hn1 := hx.2.2.1
  have hL3 := hI.L3
  have hlk : ∀ k, sb_lk cs n k < 128 := by
    intro k
    unfold sb_lk
    split
    · have := hx.2.2.2 k (by omega)
      omega
    · omega
  refine wp_st 2 (f' := (2, [some (.ref (b)), none], [.ref (b), .ref (b)], A)) rfl ?_
  refine rw_gf (v := .int (Int32.ofNat a)) h rfl rfl rfl rfl (rfl) rfl ?_
  refine wp_st 2 (f' := (7, [some (.ref (b)), none], [.int ((Int32.ofNat a) + (Int32.ofNat 1)), .ref (b)], A)) rfl ?_
  rw [i32_add (a) (1)]
  have l1 := hlk (a + 1)
  refine wp_cv (A' := A) (v := some (.int (Int32.ofNat (sb_lk cs n (a + 1))))) rfl rfl rfl rfl rfl (show _ from h.1) (by omega) (rr_look (by omega) (show rf_tx (s) cs n from hx) h) rfl ?_
  show am_wp d 125 (10, [some (.ref (b)), none], [.int (Int32.ofNat (sb_lk cs n (a + 1)))], A) _
  refine wp_st 3 (f' := (14, [some (.ref (b)), some (.int (Int32.ofNat (sb_lk cs n (a + 1))))], [.int (Int32.ofNat 39), .int (Int32.ofNat (sb_lk cs n (a + 1)))], A)) rfl ?_
  refine wp_if rfl rfl rfl (fun (h2 : (Int32.ofNat (sb_lk cs n (a + 1))) ≠ (Int32.ofNat 39)) => ?_) (fun (h2 : ¬ ((Int32.ofNat (sb_lk cs n (a + 1))) ≠ (Int32.ofNat 39))) => ?_)
  · skip
    rw [ne_eq, i32_eq (by omega) (by omega)] at h2
    refine wp_st 1 (f' := (38, [some (.ref (b)), some (.int (Int32.ofNat (sb_lk cs n (a + 1))))], [.ref (b)], A)) rfl ?_
    refine rw_gf (v := .int (sb_i dbl)) h rfl rfl rfl rfl (h27) rfl ?_
    by_cases b3 : dbl = true
    · skip
      refine wp_izT rfl rfl (show sb_i dbl ≠ 0 from by rw [b3]; decide) ?_
      refine wp_st 1 (f' := (75, [some (.ref (b)), some (.int (Int32.ofNat (sb_lk cs n (a + 1))))], [.ref (b)], A)) rfl ?_
      obtain ⟨⟨o9, A9⟩, g9, q0, q1⟩ := mq_quote (d := d - 1) (by omega) ha hP (show rf_tx (s) cs n from hx) hI hr h
      dsimp only at q0 q1
      subst q0
      refine wp_cv (A' := A9) (v := none) rfl rfl rfl rfl rfl (show _ from h.1) (by omega) (g9) rfl ?_
      show am_wp d 125 (78, [some (.ref (b)), some (.int (Int32.ofNat (sb_lk cs n (a + 1))))], [], A9) _
      refine wp_st 1 (f' := (98, [some (.ref (b)), some (.int (Int32.ofNat (sb_lk cs n (a + 1))))], [], A9)) rfl ?_
      refine wp_rt rfl rfl rfl ?_
      rw [show rd_apos cs n dbl sg a M = rd_quote cs n 120 (a + 1) M from by rw [rd_apos, if_neg (by omega), if_pos (Or.inl b3)]]
      exact ⟨rfl, q1⟩
    · skip
      have b3f : dbl = false := by simpa using b3
      refine wp_izF rfl rfl (show ¬ (sb_i dbl ≠ 0) from by rw [b3f]; decide) ?_
      refine wp_st 2 (f' := (47, [some (.ref (b)), some (.int (Int32.ofNat (sb_lk cs n (a + 1))))], [.int (Int32.ofNat 123), .int (Int32.ofNat (sb_lk cs n (a + 1)))], A)) rfl ?_
      refine wp_if rfl rfl rfl (fun (h4 : (Int32.ofNat (sb_lk cs n (a + 1))) = (Int32.ofNat 123)) => ?_) (fun (h4 : ¬ ((Int32.ofNat (sb_lk cs n (a + 1))) = (Int32.ofNat 123))) => ?_)
      · skip
        rw [i32_eq (by omega) (by omega)] at h4
        refine wp_st 1 (f' := (75, [some (.ref (b)), some (.int (Int32.ofNat (sb_lk cs n (a + 1))))], [.ref (b)], A)) rfl ?_
        obtain ⟨⟨o9, A9⟩, g9, q0, q1⟩ := mq_quote (d := d - 1) (by omega) ha hP (show rf_tx (s) cs n from hx) hI hr h
        dsimp only at q0 q1
        subst q0
        refine wp_cv (A' := A9) (v := none) rfl rfl rfl rfl rfl (show _ from h.1) (by omega) (g9) rfl ?_
        show am_wp d 125 (78, [some (.ref (b)), some (.int (Int32.ofNat (sb_lk cs n (a + 1))))], [], A9) _
        refine wp_st 1 (f' := (98, [some (.ref (b)), some (.int (Int32.ofNat (sb_lk cs n (a + 1))))], [], A9)) rfl ?_
        refine wp_rt rfl rfl rfl ?_
        rw [show rd_apos cs n dbl sg a M = rd_quote cs n 120 (a + 1) M from by rw [rd_apos, if_neg (by omega), if_pos (Or.inr (Or.inl (by omega)))]]
        exact ⟨rfl, q1⟩
      · skip
        rw [i32_eq (by omega) (by omega)] at h4
        refine wp_st 2 (f' := (53, [some (.ref (b)), some (.int (Int32.ofNat (sb_lk cs n (a + 1))))], [.int (Int32.ofNat 125), .int (Int32.ofNat (sb_lk cs n (a + 1)))], A)) rfl ?_
        refine wp_if rfl rfl rfl (fun (h5 : (Int32.ofNat (sb_lk cs n (a + 1))) = (Int32.ofNat 125)) => ?_) (fun (h5 : ¬ ((Int32.ofNat (sb_lk cs n (a + 1))) = (Int32.ofNat 125))) => ?_)
        · skip
          rw [i32_eq (by omega) (by omega)] at h5
          refine wp_st 1 (f' := (75, [some (.ref (b)), some (.int (Int32.ofNat (sb_lk cs n (a + 1))))], [.ref (b)], A)) rfl ?_
          obtain ⟨⟨o9, A9⟩, g9, q0, q1⟩ := mq_quote (d := d - 1) (by omega) ha hP (show rf_tx (s) cs n from hx) hI hr h
          dsimp only at q0 q1
          subst q0
          refine wp_cv (A' := A9) (v := none) rfl rfl rfl rfl rfl (show _ from h.1) (by omega) (g9) rfl ?_
          show am_wp d 125 (78, [some (.ref (b)), some (.int (Int32.ofNat (sb_lk cs n (a + 1))))], [], A9) _
          refine wp_st 1 (f' := (98, [some (.ref (b)), some (.int (Int32.ofNat (sb_lk cs n (a + 1))))], [], A9)) rfl ?_
          refine wp_rt rfl rfl rfl ?_
          rw [show rd_apos cs n dbl sg a M = rd_quote cs n 120 (a + 1) M from by rw [rd_apos, if_neg (by omega), if_pos (Or.inr (Or.inr (Or.inl (by omega))))]]
          exact ⟨rfl, q1⟩
        · skip
          rw [i32_eq (by omega) (by omega)] at h5
          refine wp_st 2 (f' := (59, [some (.ref (b)), some (.int (Int32.ofNat (sb_lk cs n (a + 1))))], [.int (Int32.ofNat 35), .int (Int32.ofNat (sb_lk cs n (a + 1)))], A)) rfl ?_
          refine wp_if rfl rfl rfl (fun (h6 : (Int32.ofNat (sb_lk cs n (a + 1))) ≠ (Int32.ofNat 35)) => ?_) (fun (h6 : ¬ ((Int32.ofNat (sb_lk cs n (a + 1))) ≠ (Int32.ofNat 35))) => ?_)
          · skip
            rw [ne_eq, i32_eq (by omega) (by omega)] at h6
            refine wp_st 3 (f' := (85, [some (.ref (b)), some (.int (Int32.ofNat (sb_lk cs n (a + 1))))], [.int (Int32.ofNat 39), .int (Int32.ofNat 0), .ref (b)], A)) rfl ?_
            obtain ⟨⟨oz7, Bz7⟩, gz7, qz70, tz7, qz71, qz72, qz75⟩ := rn_add (d := d - 1) (kc := Int32.ofNat 0) (x := Int32.ofNat 39) hI (fun _ _ _ => rfl) (by omega) h
            dsimp only at qz70 qz71 qz75
            subst qz70
            obtain ⟨iz7, rz7⟩ := hI.addc (k := 0) (x := Int32.ofNat 39) hr (by omega) (by omega) qz72
            have xz7 := (rm_X.refl s).trans qz72.X
            have yz7 := qz72.X.tx (show rf_tx (s) cs n from hx)
            have fz7 := (sb_fr.refl A b (b + 38)).trans qz75
            have pz7 := mg_add_P M 0 (Int32.ofNat 39)
            refine wp_cv (A' := Bz7) (v := none) rfl rfl rfl rfl rfl (show _ from h.1) (by omega) (gz7) rfl ?_
            show am_wp d 125 (88, [some (.ref (b)), some (.int (Int32.ofNat (sb_lk cs n (a + 1))))], [], Bz7) _
            refine wp_st 2 (f' := (90, [some (.ref (b)), some (.int (Int32.ofNat (sb_lk cs n (a + 1))))], [.ref (b), .ref (b)], Bz7)) rfl ?_
            refine rw_gf (v := .int (Int32.ofNat a)) qz71 rfl rfl rfl rfl (rfl) rfl ?_
            refine wp_st 2 (f' := (95, [some (.ref (b)), some (.int (Int32.ofNat (sb_lk cs n (a + 1))))], [.int ((Int32.ofNat a) + (Int32.ofNat 1)), .ref (b)], Bz7)) rfl ?_
            rw [i32_add (a) (1)]
            refine rw_pf (v := .int (Int32.ofNat (a + 1))) qz71 rfl rfl rfl rfl rfl rfl (fun A8 h9 f10 => ?_)
            have f11 := fz7.trans f10
            rw [rf_c17] at h9
            refine wp_rt rfl rfl rfl ?_
            rw [show rd_apos cs n dbl sg a M = (a + 1, mg_add M 0 (Int32.ofNat 39)) from by rw [rd_apos, if_neg (by omega), if_neg (fun z => z.elim b3 (fun z => z.elim (by omega) (fun z => z.elim (by omega) (fun z => by omega))))]]
            exact ⟨rfl, _, _, _, _, _, _, h9, iz7, rz7, fun l hl => by rw [up_ne (by omega)], xz7, f11⟩
          · skip
            rw [ne_eq, i32_eq (by omega) (by omega)] at h6
            replace h6 := Decidable.not_not.mp h6
            refine wp_st 1 (f' := (63, [some (.ref (b)), some (.int (Int32.ofNat (sb_lk cs n (a + 1))))], [.ref (b)], A)) rfl ?_
            refine rw_gr h rfl rfl rfl rfl rfl rfl ?_
            refine wp_st 1 (f' := (67, [some (.ref (b)), some (.int (Int32.ofNat (sb_lk cs n (a + 1))))], [.ref (b), .ref (b + 18)], A)) rfl ?_
            refine rw_gf (v := .int (Int32.ofNat L)) h rfl rfl rfl rfl (hI.s22) rfl ?_
            refine rw_al (j := 26) (n := L) (v := .int (sb_i sg)) h rfl rfl rfl (Or.inr (Or.inr (Or.inr (Or.inl ⟨rfl, rfl⟩)))) rfl (show _ < 4 from by omega) (by rw [rf_c_ne (show 26 ≠ 17 ∧ 26 ≠ 18 ∧ 26 ≠ 28 ∧ 26 ≠ 29 by decide)]; exact hsg) rfl ?_
            by_cases b12 : sg = true
            · skip
              refine wp_izF rfl rfl (show ¬ (sb_i sg = 0) from by rw [b12]; decide) ?_
              refine wp_st 1 (f' := (75, [some (.ref (b)), some (.int (Int32.ofNat (sb_lk cs n (a + 1))))], [.ref (b)], A)) rfl ?_
              obtain ⟨⟨o9, A9⟩, g9, q0, q1⟩ := mq_quote (d := d - 1) (by omega) ha hP (show rf_tx (s) cs n from hx) hI hr h
              dsimp only at q0 q1
              subst q0
              refine wp_cv (A' := A9) (v := none) rfl rfl rfl rfl rfl (show _ from h.1) (by omega) (g9) rfl ?_
              show am_wp d 125 (78, [some (.ref (b)), some (.int (Int32.ofNat (sb_lk cs n (a + 1))))], [], A9) _
              refine wp_st 1 (f' := (98, [some (.ref (b)), some (.int (Int32.ofNat (sb_lk cs n (a + 1))))], [], A9)) rfl ?_
              refine wp_rt rfl rfl rfl ?_
              rw [show rd_apos cs n dbl sg a M = rd_quote cs n 120 (a + 1) M from by rw [rd_apos, if_neg (by omega), if_pos (Or.inr (Or.inr (Or.inr ⟨by omega, b12⟩)))]]
              exact ⟨rfl, q1⟩
            · skip
              have b12f : sg = false := by simpa using b12
              refine wp_izT rfl rfl (show sb_i sg = 0 from by rw [b12f]; decide) ?_
              refine wp_st 3 (f' := (85, [some (.ref (b)), some (.int (Int32.ofNat (sb_lk cs n (a + 1))))], [.int (Int32.ofNat 39), .int (Int32.ofNat 0), .ref (b)], A)) rfl ?_
              obtain ⟨⟨oz13, Bz13⟩, gz13, qz130, tz13, qz131, qz132, qz135⟩ := rn_add (d := d - 1) (kc := Int32.ofNat 0) (x := Int32.ofNat 39) hI (fun _ _ _ => rfl) (by omega) h
              dsimp only at qz130 qz131 qz135
              subst qz130
              obtain ⟨iz13, rz13⟩ := hI.addc (k := 0) (x := Int32.ofNat 39) hr (by omega) (by omega) qz132
              have xz13 := (rm_X.refl s).trans qz132.X
              have yz13 := qz132.X.tx (show rf_tx (s) cs n from hx)
              have fz13 := (sb_fr.refl A b (b + 38)).trans qz135
              have pz13 := mg_add_P M 0 (Int32.ofNat 39)
              refine wp_cv (A' := Bz13) (v := none) rfl rfl rfl rfl rfl (show _ from h.1) (by omega) (gz13) rfl ?_
              show am_wp d 125 (88, [some (.ref (b)), some (.int (Int32.ofNat (sb_lk cs n (a + 1))))], [], Bz13) _
              refine wp_st 2 (f' := (90, [some (.ref (b)), some (.int (Int32.ofNat (sb_lk cs n (a + 1))))], [.ref (b), .ref (b)], Bz13)) rfl ?_
              refine rw_gf (v := .int (Int32.ofNat a)) qz131 rfl rfl rfl rfl (rfl) rfl ?_
              refine wp_st 2 (f' := (95, [some (.ref (b)), some (.int (Int32.ofNat (sb_lk cs n (a + 1))))], [.int ((Int32.ofNat a) + (Int32.ofNat 1)), .ref (b)], Bz13)) rfl ?_
              rw [i32_add (a) (1)]
              refine rw_pf (v := .int (Int32.ofNat (a + 1))) qz131 rfl rfl rfl rfl rfl rfl (fun A14 h15 f16 => ?_)
              have f17 := fz13.trans f16
              rw [rf_c17] at h15
              refine wp_rt rfl rfl rfl ?_
              rw [show rd_apos cs n dbl sg a M = (a + 1, mg_add M 0 (Int32.ofNat 39)) from by rw [rd_apos, if_neg (by omega), if_neg (fun z => z.elim b3 (fun z => z.elim (by omega) (fun z => z.elim (by omega) (fun z => b12 z.2))))]]
              exact ⟨rfl, _, _, _, _, _, _, h15, iz13, rz13, fun l hl => by rw [up_ne (by omega)], xz13, f17⟩
  · skip
    rw [ne_eq, i32_eq (by omega) (by omega)] at h2
    replace h2 := Decidable.not_not.mp h2
    refine wp_st 3 (f' := (21, [some (.ref (b)), some (.int (Int32.ofNat (sb_lk cs n (a + 1))))], [.int (Int32.ofNat 39), .int (Int32.ofNat 0), .ref (b)], A)) rfl ?_
    obtain ⟨⟨oz18, Bz18⟩, gz18, qz180, tz18, qz181, qz182, qz185⟩ := rn_add (d := d - 1) (kc := Int32.ofNat 0) (x := Int32.ofNat 39) hI (fun _ _ _ => rfl) (by omega) h
    dsimp only at qz180 qz181 qz185
    subst qz180
    obtain ⟨iz18, rz18⟩ := hI.addc (k := 0) (x := Int32.ofNat 39) hr (by omega) (by omega) qz182
    have xz18 := (rm_X.refl s).trans qz182.X
    have yz18 := qz182.X.tx (show rf_tx (s) cs n from hx)
    have fz18 := (sb_fr.refl A b (b + 38)).trans qz185
    have pz18 := mg_add_P M 0 (Int32.ofNat 39)
    refine wp_cv (A' := Bz18) (v := none) rfl rfl rfl rfl rfl (show _ from h.1) (by omega) (gz18) rfl ?_
    show am_wp d 125 (24, [some (.ref (b)), some (.int (Int32.ofNat (sb_lk cs n (a + 1))))], [], Bz18) _
    refine wp_st 2 (f' := (26, [some (.ref (b)), some (.int (Int32.ofNat (sb_lk cs n (a + 1))))], [.ref (b), .ref (b)], Bz18)) rfl ?_
    refine rw_gf (v := .int (Int32.ofNat a)) qz181 rfl rfl rfl rfl (rfl) rfl ?_
    refine wp_st 2 (f' := (31, [some (.ref (b)), some (.int (Int32.ofNat (sb_lk cs n (a + 1))))], [.int ((Int32.ofNat a) + (Int32.ofNat 2)), .ref (b)], Bz18)) rfl ?_
    rw [i32_add (a) (2)]
    refine rw_pf (v := .int (Int32.ofNat (a + 2))) qz181 rfl rfl rfl rfl rfl rfl (fun A19 h20 f21 => ?_)
    have f22 := fz18.trans f21
    rw [rf_c17] at h20
    refine wp_st 1 (f' := (98, [some (.ref (b)), some (.int (Int32.ofNat (sb_lk cs n (a + 1))))], [], A19)) rfl ?_
    refine wp_rt rfl rfl rfl ?_
    rw [show rd_apos cs n dbl sg a M = (a + 2, mg_add M 0 (Int32.ofNat 39)) from by rw [rd_apos, if_pos (by omega)]]
    exact ⟨rfl, _, _, _, _, _, _, h20, iz18, rz18, fun l hl => by rw [up_ne (by omega)], xz18, f22⟩
