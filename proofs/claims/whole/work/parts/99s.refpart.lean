/-! The reference: readPart. -/
theorem rp_apos {d b n L a g : Nat} {r : Int64} {cs : List Nat} {M : mg} {E dp ob : Nat → Nat} {lp : Nat → Option Nat} {s : rf_S} {A : am_H} {dbl sg : Bool} (hd : 4 ≤ d) (hc : sb_lk cs n a = 39) (h27 : s 27 0 = .int (sb_i dbl)) (hsg : s 26 L = .int (sb_i sg)) (ha : a < n) (hP : mg_P M ≤ a) (hx : rf_tx s cs n) (hI : rm_I s M L E dp lp ob false) (hr : rm_rd M L lp) (h : rf A b (rf_c s a (-1) r g)) : am_wp d 123 (0, am_ent 123 [.ref b], [], A) (fun q => q.1 = .inl none ∧ ml_H A s b (rd_apos cs n dbl sg a M).2 L lp ob (rd_apos cs n dbl sg a M).1 q.2) := by
  have hn1 := hx.2.2.1
  have hL3 := hI.L3
  have hlk : ∀ k, sb_lk cs n k < 128 := by
    intro k
    unfold sb_lk
    split
    · have := hx.2.2.2 k (by omega)
      omega
    · omega
  refine wp_st 2 (f' := (2, [some (.ref (b)), none], [.ref (b), .ref (b)], A)) rfl ?_
  refine rw_gf (v := .int (Int32.ofNat a)) h rfl rfl rfl rfl (rfl) rfl ?_
  have l1 := hlk (a)
  refine wp_cv (A' := A) (v := some (.int (Int32.ofNat (sb_lk cs n a)))) rfl rfl rfl rfl rfl (show _ from h.1) (by omega) (rr_look (by omega) (show rf_tx (s) cs n from hx) h) rfl ?_
  show am_wp d 123 (8, [some (.ref (b)), none], [.int (Int32.ofNat (sb_lk cs n a))], A) _
  refine wp_st 3 (f' := (12, [some (.ref (b)), some (.int (Int32.ofNat (sb_lk cs n a)))], [.int (Int32.ofNat 39), .int (Int32.ofNat (sb_lk cs n a))], A)) rfl ?_
  refine wp_ifF rfl rfl (fun q => q ((i32_eq (a := sb_lk cs n a) (b := 39) (by omega) (by omega)).mpr (by omega))) ?_
  refine wp_st 1 (f' := (16, [some (.ref (b)), some (.int (Int32.ofNat (sb_lk cs n a)))], [.ref (b)], A)) rfl ?_
  obtain ⟨⟨o9, A9⟩, g9, q9⟩ := mq_apos (d := d - 1) (dbl := dbl) (sg := sg) (by omega) h27 hsg ha hP hx hI hr h
  have q9r : o9 = .inl none := q9.1
  subst q9r
  refine wp_cv (A' := A9) (v := none) rfl rfl rfl rfl rfl (show _ from h.1) (by omega) (g9) rfl ?_
  show am_wp d 123 (19, [some (.ref (b)), some (.int (Int32.ofNat (sb_lk cs n a)))], [], A9) _
  refine wp_gt rfl (show am_tgt 19 (105) = 124 by decide +kernel) ?_
  refine wp_rt rfl rfl rfl ?_
  exact q9
theorem rp_arg {d b n L a g : Nat} {r : Int64} {cs : List Nat} {M : mg} {E dp ob : Nat → Nat} {lp : Nat → Option Nat} {s : rf_S} {A : am_H} (hd : 8 ≤ d) (hc : sb_lk cs n a = 123) (hB3 : 3 * mg_B M ≤ a) (hA : 3 * mg_ct (mg_k M) (mg_P M) ≤ a) (hc128 : ∀ j, cs.getD j 0 < 128) (ha : a < n) (hP : mg_P M ≤ a) (hx : rf_tx s cs n) (hI : rm_I s M L E dp lp ob false) (hr : rm_rd M L lp) (h : rf A b (rf_c s a (-1) r g)) : am_wp d 123 (0, am_ent 123 [.ref b], [], A) (mb_Q A s b n M L (up_ E (mg_P M) (1000 + L)) (up_ dp (mg_P M) L) (up_ lp L (some (mg_P M))) ob (rd_ab cs n L (a + 1) M)) := by
  have hn1 := hx.2.2.1
  have hL3 := hI.L3
  have hlk : ∀ k, sb_lk cs n k < 128 := by
    intro k
    unfold sb_lk
    split
    · have := hx.2.2.2 k (by omega)
      omega
    · omega
  refine wp_st 2 (f' := (2, [some (.ref (b)), none], [.ref (b), .ref (b)], A)) rfl ?_
  refine rw_gf (v := .int (Int32.ofNat a)) h rfl rfl rfl rfl (rfl) rfl ?_
  have l1 := hlk (a)
  refine wp_cv (A' := A) (v := some (.int (Int32.ofNat (sb_lk cs n a)))) rfl rfl rfl rfl rfl (show _ from h.1) (by omega) (rr_look (by omega) (show rf_tx (s) cs n from hx) h) rfl ?_
  show am_wp d 123 (8, [some (.ref (b)), none], [.int (Int32.ofNat (sb_lk cs n a))], A) _
  refine wp_st 3 (f' := (12, [some (.ref (b)), some (.int (Int32.ofNat (sb_lk cs n a)))], [.int (Int32.ofNat 39), .int (Int32.ofNat (sb_lk cs n a))], A)) rfl ?_
  refine wp_ifT rfl rfl (fun q => absurd ((i32_eq (a := sb_lk cs n a) (b := 39) (by omega) (by omega)).mp q) (by omega)) ?_
  refine wp_st 2 (f' := (25, [some (.ref (b)), some (.int (Int32.ofNat (sb_lk cs n a)))], [.int (Int32.ofNat 123), .int (Int32.ofNat (sb_lk cs n a))], A)) rfl ?_
  refine wp_ifF rfl rfl (fun q => q ((i32_eq (a := sb_lk cs n a) (b := 123) (by omega) (by omega)).mpr (by omega))) ?_
  refine wp_st 1 (f' := (29, [some (.ref (b)), some (.int (Int32.ofNat (sb_lk cs n a)))], [.ref (b)], A)) rfl ?_
  obtain ⟨⟨o9, A9⟩, g9, q9⟩ := ma_arg (d := d - 1) (cs := cs) (M := M) (by omega) ha hP hB3 hA hc128 hx hI hr h
  have q9r : o9 = .inl none := q9.ret
  subst q9r
  refine wp_cv (A' := A9) (v := none) rfl rfl rfl rfl rfl (show _ from h.1) (by omega) (g9) rfl ?_
  show am_wp d 123 (32, [some (.ref (b)), some (.int (Int32.ofNat (sb_lk cs n a)))], [], A9) _
  refine wp_gt rfl (show am_tgt 32 (92) = 124 by decide +kernel) ?_
  refine wp_rt rfl rfl rfl ?_
  exact q9
theorem rp_end {d b n L a g : Nat} {r : Int64} {cs : List Nat} {M : mg} {E dp ob : Nat → Nat} {lp : Nat → Option Nat} {s : rf_S} {A : am_H} (hd : 5 ≤ d) (hc : sb_lk cs n a = 125) (hB3 : 3 * mg_B M ≤ a) (hA : 3 * mg_ct (mg_k M) (mg_P M) ≤ a) (hc128 : ∀ j, cs.getD j 0 < 128) (ha : a < n) (hP : mg_P M ≤ a) (hx : rf_tx s cs n) (hI : rm_I s M (L + 1) E dp lp ob false) (hr : rm_rd M (L + 1) lp) (h : rf A b (rf_c s a (-1) r g)) : am_wp d 123 (0, am_ent 123 [.ref b], [], A) (mb_Q A s b n (mg_clb M (ob (L + 1))) L (fun i => if E i = 1000 + (L + 1) then mg_P M else E i) dp lp ob (rd_bo cs n L (mg_w M (ob (L + 1))) (decide (mg_k M (mg_w M (ob (L + 1))) ≠ 6)) (a + 1) (mg_clb M (ob (L + 1))))) := by
  have hn1 := hx.2.2.1
  have hL3 := hI.L3
  have hlk : ∀ k, sb_lk cs n k < 128 := by
    intro k
    unfold sb_lk
    split
    · have := hx.2.2.2 k (by omega)
      omega
    · omega
  have h6 := hI.C6 (L + 1) (by omega) (Nat.le_refl _)
  have hbt := hI.bt _ h6.1
  refine wp_st 2 (f' := (2, [some (.ref (b)), none], [.ref (b), .ref (b)], A)) rfl ?_
  refine rw_gf (v := .int (Int32.ofNat a)) h rfl rfl rfl rfl (rfl) rfl ?_
  have l1 := hlk (a)
  refine wp_cv (A' := A) (v := some (.int (Int32.ofNat (sb_lk cs n a)))) rfl rfl rfl rfl rfl (show _ from h.1) (by omega) (rr_look (by omega) (show rf_tx (s) cs n from hx) h) rfl ?_
  show am_wp d 123 (8, [some (.ref (b)), none], [.int (Int32.ofNat (sb_lk cs n a))], A) _
  refine wp_st 3 (f' := (12, [some (.ref (b)), some (.int (Int32.ofNat (sb_lk cs n a)))], [.int (Int32.ofNat 39), .int (Int32.ofNat (sb_lk cs n a))], A)) rfl ?_
  refine wp_ifT rfl rfl (fun q => absurd ((i32_eq (a := sb_lk cs n a) (b := 39) (by omega) (by omega)).mp q) (by omega)) ?_
  refine wp_st 2 (f' := (25, [some (.ref (b)), some (.int (Int32.ofNat (sb_lk cs n a)))], [.int (Int32.ofNat 123), .int (Int32.ofNat (sb_lk cs n a))], A)) rfl ?_
  refine wp_ifT rfl rfl (fun q => absurd ((i32_eq (a := sb_lk cs n a) (b := 123) (by omega) (by omega)).mp q) (by omega)) ?_
  refine wp_st 2 (f' := (38, [some (.ref (b)), some (.int (Int32.ofNat (sb_lk cs n a)))], [.int (Int32.ofNat 125), .int (Int32.ofNat (sb_lk cs n a))], A)) rfl ?_
  refine wp_ifF rfl rfl (fun q => q ((i32_eq (a := sb_lk cs n a) (b := 125) (by omega) (by omega)).mpr (by omega))) ?_
  refine wp_st 1 (f' := (42, [some (.ref (b)), some (.int (Int32.ofNat (sb_lk cs n a)))], [.ref (b)], A)) rfl ?_
  refine rw_gf (v := .int (Int32.ofNat (L + 1))) h rfl rfl rfl rfl (hI.s22) rfl ?_
  refine wp_izF rfl rfl (fun q => absurd ((i32_le (a := L + 1) (b := 0) (by omega) (by omega)).mp q) (by omega)) ?_
  refine wp_st 2 (f' := (50, [some (.ref (b)), some (.int (Int32.ofNat (sb_lk cs n a)))], [.ref (b), .ref (b)], A)) rfl ?_
  refine rw_gf (v := .int (Int32.ofNat a)) h rfl rfl rfl rfl (rfl) rfl ?_
  refine wp_st 2 (f' := (55, [some (.ref (b)), some (.int (Int32.ofNat (sb_lk cs n a)))], [.int ((Int32.ofNat a) + (Int32.ofNat 1)), .ref (b)], A)) rfl ?_
  rw [i32_add (a) (1)]
  refine rw_pf (v := .int (Int32.ofNat (a + 1))) h rfl rfl rfl rfl rfl rfl (fun A2 h3 f4 => ?_)
  have f5 := (sb_fr.refl A b (b + 38)).trans f4
  rw [rf_c17] at h3
  refine wp_st 2 (f' := (60, [some (.ref (b)), some (.int (Int32.ofNat (sb_lk cs n a)))], [.ref (b), .ref (b)], A2)) rfl ?_
  refine rw_gf (v := .int (Int32.ofNat (L + 1))) h3 rfl rfl rfl rfl (hI.s22) rfl ?_
  refine wp_st 2 (f' := (65, [some (.ref (b)), some (.int (Int32.ofNat (sb_lk cs n a)))], [.int ((Int32.ofNat (L + 1)) - (Int32.ofNat 1)), .ref (b)], A2)) rfl ?_
  rw [show Int32.ofNat (L + 1) - Int32.ofNat 1 = Int32.ofNat L from i32_sub (a := L + 1) (b := 1) (by omega)]
  refine rw_pf (v := .int (Int32.ofNat L)) h3 rfl rfl rfl rfl rfl rfl (fun A6 h7 f8 => ?_)
  have f9 := f5.trans f8
  rw [rf_c_u (by decide)] at h7
  refine wp_st 2 (f' := (70, [some (.ref (b)), some (.int (Int32.ofNat (sb_lk cs n a)))], [.ref (b), .ref (b)], A6)) rfl ?_
  refine rw_gr h7 rfl rfl rfl rfl rfl rfl ?_
  refine wp_st 1 (f' := (74, [some (.ref (b)), some (.int (Int32.ofNat (sb_lk cs n a)))], [.ref (b), .ref (b + 16), .ref (b)], A6)) rfl ?_
  refine rw_gf (v := .int (Int32.ofNat L)) h7 rfl rfl rfl rfl (rfl) rfl ?_
  refine wp_st 2 (f' := (79, [some (.ref (b)), some (.int (Int32.ofNat (sb_lk cs n a)))], [.int ((Int32.ofNat L) + (Int32.ofNat 1)), .ref (b + 16), .ref (b)], A6)) rfl ?_
  rw [i32_add (L) (1)]
  refine rw_al (j := 24) (n := L + 1) (v := .int (Int32.ofNat (128 + mg_ct (mg_k M) (mg_w M (ob (L + 1)))))) h7 rfl rfl rfl (Or.inl ⟨rfl, rfl⟩) rfl (show _ < 4 from by omega) (by rw [rf_c_ne (by decide), rf_u_ne (Or.inl (by decide))]; exact (hI.s24 (L + 1) (by omega) (Nat.le_refl _)).1) rfl ?_
  have hIc := hI.clb (t := rf_u s 22 0 (.int (Int32.ofNat L))) hr (by rw [rf_u_eq]) (fun j q z => rf_u_ne (by omega))
  obtain ⟨⟨o9, A9⟩, g9, q9⟩ := mb_bo (d := d - 1) (M := mg_clb M (ob (L + 1))) (i := mg_w M (ob (L + 1))) (by omega) (by omega) (show 3 * mg_B M ≤ _ by omega) (show 3 * mg_ct (mg_k M) (mg_P M) ≤ _ by omega) (show lp L = some (mg_w M (ob (L + 1))) from h6.2.2.2.2) (show 6 ≤ mg_k M (mg_w M (ob (L + 1))) from hbt.2.2.1) hc128 (show rf_tx (rf_u s 22 0 (.int (Int32.ofNat L))) cs n from hx) hIc h7
  have q9r : o9 = .inl none := q9.ret
  subst q9r
  refine wp_cv (A' := A9) (v := none) rfl rfl rfl rfl rfl (show _ from h7.1) (by omega) (g9) rfl ?_
  show am_wp d 123 (83, [some (.ref (b)), some (.int (Int32.ofNat (sb_lk cs n a)))], [], A9) _
  refine wp_st 1 (f' := (124, [some (.ref (b)), some (.int (Int32.ofNat (sb_lk cs n a)))], [], A9)) rfl ?_
  refine wp_rt rfl rfl rfl ?_
  exact q9.tr ((rm_X.refl s).u (by unfold rm_sc; omega)) f9
theorem rp_chr {d b n L a g : Nat} {r : Int64} {cs : List Nat} {M : mg} {E dp ob : Nat → Nat} {lp : Nat → Option Nat} {s : rf_S} {A : am_H} {sg : Bool} (hd : 3 ≤ d) (hc1 : sb_lk cs n a ≠ 39) (hc2 : sb_lk cs n a ≠ 123) (hc3 : sb_lk cs n a = 125 → L = 0) (hsg : s 26 L = .int (sb_i sg)) (ha : a < n) (hP : mg_P M ≤ a) (hx : rf_tx s cs n) (hI : rm_I s M L E dp lp ob false) (hr : rm_rd M L lp) (h : rf A b (rf_c s a (-1) r g)) : am_wp d 123 (0, am_ent 123 [.ref b], [], A) (fun q => q.1 = .inl none ∧ ml_H A s b (mg_add M (if sb_lk cs n a = 35 ∧ sg = true then 1 else 0) (Int32.ofNat (sb_lk cs n a))) L lp ob (a + 1) q.2) := by
  have hn1 := hx.2.2.1
  have hL3 := hI.L3
  have hlk : ∀ k, sb_lk cs n k < 128 := by
    intro k
    unfold sb_lk
    split
    · have := hx.2.2.2 k (by omega)
      omega
    · omega
  refine wp_st 2 (f' := (2, [some (.ref (b)), none], [.ref (b), .ref (b)], A)) rfl ?_
  refine rw_gf (v := .int (Int32.ofNat a)) h rfl rfl rfl rfl (rfl) rfl ?_
  have l1 := hlk (a)
  refine wp_cv (A' := A) (v := some (.int (Int32.ofNat (sb_lk cs n a)))) rfl rfl rfl rfl rfl (show _ from h.1) (by omega) (rr_look (by omega) (show rf_tx (s) cs n from hx) h) rfl ?_
  show am_wp d 123 (8, [some (.ref (b)), none], [.int (Int32.ofNat (sb_lk cs n a))], A) _
  refine wp_st 3 (f' := (12, [some (.ref (b)), some (.int (Int32.ofNat (sb_lk cs n a)))], [.int (Int32.ofNat 39), .int (Int32.ofNat (sb_lk cs n a))], A)) rfl ?_
  refine wp_ifT rfl rfl (fun q => absurd ((i32_eq (a := sb_lk cs n a) (b := 39) (by omega) (by omega)).mp q) (by omega)) ?_
  refine wp_st 2 (f' := (25, [some (.ref (b)), some (.int (Int32.ofNat (sb_lk cs n a)))], [.int (Int32.ofNat 123), .int (Int32.ofNat (sb_lk cs n a))], A)) rfl ?_
  refine wp_ifT rfl rfl (fun q => absurd ((i32_eq (a := sb_lk cs n a) (b := 123) (by omega) (by omega)).mp q) (by omega)) ?_
  refine wp_st 2 (f' := (38, [some (.ref (b)), some (.int (Int32.ofNat (sb_lk cs n a)))], [.int (Int32.ofNat 125), .int (Int32.ofNat (sb_lk cs n a))], A)) rfl ?_
  refine wp_if rfl rfl rfl (fun (h2 : (Int32.ofNat (sb_lk cs n a)) ≠ (Int32.ofNat 125)) => ?_) (fun (h2 : ¬ ((Int32.ofNat (sb_lk cs n a)) ≠ (Int32.ofNat 125))) => ?_)
  · skip
    rw [ne_eq, i32_eq (by omega) (by omega)] at h2
    refine wp_st 3 (f' := (90, [some (.ref (b)), some (.int (Int32.ofNat (sb_lk cs n a)))], [.int (Int32.ofNat 35), .int (Int32.ofNat (sb_lk cs n a)), .ref (b)], A)) rfl ?_
    refine wp_if rfl rfl rfl (fun (h3 : (Int32.ofNat (sb_lk cs n a)) ≠ (Int32.ofNat 35)) => ?_) (fun (h3 : ¬ ((Int32.ofNat (sb_lk cs n a)) ≠ (Int32.ofNat 35))) => ?_)
    · skip
      rw [ne_eq, i32_eq (by omega) (by omega)] at h3
      refine wp_st 2 (f' := (111, [some (.ref (b)), some (.int (Int32.ofNat (sb_lk cs n a)))], [.int (Int32.ofNat (sb_lk cs n a)), .int (Int32.ofNat 0), .ref (b)], A)) rfl ?_
      obtain ⟨⟨oz4, Bz4⟩, gz4, qz40, tz4, qz41, qz42, qz45⟩ := rn_add (d := d - 1) (kc := Int32.ofNat 0) (x := Int32.ofNat (sb_lk cs n a)) hI (fun _ _ _ => rfl) (by omega) h
      dsimp only at qz40 qz41 qz45
      subst qz40
      obtain ⟨iz4, rz4⟩ := hI.addc (k := 0) (x := Int32.ofNat (sb_lk cs n a)) hr (by omega) (by omega) qz42
      have xz4 := (rm_X.refl s).trans qz42.X
      have yz4 := qz42.X.tx (show rf_tx (s) cs n from hx)
      have fz4 := (sb_fr.refl A b (b + 38)).trans qz45
      have pz4 := mg_add_P M 0 (Int32.ofNat (sb_lk cs n a))
      refine wp_cv (A' := Bz4) (v := none) rfl rfl rfl rfl rfl (show _ from h.1) (by omega) (gz4) rfl ?_
      show am_wp d 123 (114, [some (.ref (b)), some (.int (Int32.ofNat (sb_lk cs n a)))], [], Bz4) _
      refine wp_st 2 (f' := (116, [some (.ref (b)), some (.int (Int32.ofNat (sb_lk cs n a)))], [.ref (b), .ref (b)], Bz4)) rfl ?_
      refine rw_gf (v := .int (Int32.ofNat a)) qz41 rfl rfl rfl rfl (rfl) rfl ?_
      refine wp_st 2 (f' := (121, [some (.ref (b)), some (.int (Int32.ofNat (sb_lk cs n a)))], [.int ((Int32.ofNat a) + (Int32.ofNat 1)), .ref (b)], Bz4)) rfl ?_
      rw [i32_add (a) (1)]
      refine rw_pf (v := .int (Int32.ofNat (a + 1))) qz41 rfl rfl rfl rfl rfl rfl (fun A5 h6 f7 => ?_)
      have f8 := fz4.trans f7
      rw [rf_c17] at h6
      refine wp_rt rfl rfl rfl ?_
      rw [show (if sb_lk cs n a = 35 ∧ sg = true then 1 else 0) = 0 from if_neg (fun z => by omega)]
      exact ⟨rfl, _, _, _, _, _, _, h6, iz4, rz4, fun l hl => by rw [up_ne (by omega)], xz4, f8⟩
    · skip
      rw [ne_eq, i32_eq (by omega) (by omega)] at h3
      replace h3 := Decidable.not_not.mp h3
      refine wp_st 1 (f' := (94, [some (.ref (b)), some (.int (Int32.ofNat (sb_lk cs n a)))], [.ref (b), .ref (b)], A)) rfl ?_
      refine rw_gr h rfl rfl rfl rfl rfl rfl ?_
      refine wp_st 1 (f' := (98, [some (.ref (b)), some (.int (Int32.ofNat (sb_lk cs n a)))], [.ref (b), .ref (b + 18), .ref (b)], A)) rfl ?_
      refine rw_gf (v := .int (Int32.ofNat L)) h rfl rfl rfl rfl (hI.s22) rfl ?_
      refine rw_al (j := 26) (n := L) (v := .int (sb_i sg)) h rfl rfl rfl (Or.inr (Or.inr (Or.inr (Or.inl ⟨rfl, rfl⟩)))) rfl (show _ < 4 from by omega) (by rw [rf_c_ne (by decide)]; exact hsg) rfl ?_
      by_cases b9 : sg = true
      · skip
        refine wp_izF rfl rfl (show ¬ (sb_i sg = 0) from by rw [b9]; decide) ?_
        refine wp_st 3 (f' := (111, [some (.ref (b)), some (.int (Int32.ofNat (sb_lk cs n a)))], [.int (Int32.ofNat (sb_lk cs n a)), .int (Int32.ofNat 1), .ref (b)], A)) rfl ?_
        obtain ⟨⟨oz10, Bz10⟩, gz10, qz100, tz10, qz101, qz102, qz105⟩ := rn_add (d := d - 1) (kc := Int32.ofNat 1) (x := Int32.ofNat (sb_lk cs n a)) hI (fun _ _ _ => rfl) (by omega) h
        dsimp only at qz100 qz101 qz105
        subst qz100
        obtain ⟨iz10, rz10⟩ := hI.addc (k := 1) (x := Int32.ofNat (sb_lk cs n a)) hr (by omega) (by omega) qz102
        have xz10 := (rm_X.refl s).trans qz102.X
        have yz10 := qz102.X.tx (show rf_tx (s) cs n from hx)
        have fz10 := (sb_fr.refl A b (b + 38)).trans qz105
        have pz10 := mg_add_P M 1 (Int32.ofNat (sb_lk cs n a))
        refine wp_cv (A' := Bz10) (v := none) rfl rfl rfl rfl rfl (show _ from h.1) (by omega) (gz10) rfl ?_
        show am_wp d 123 (114, [some (.ref (b)), some (.int (Int32.ofNat (sb_lk cs n a)))], [], Bz10) _
        refine wp_st 2 (f' := (116, [some (.ref (b)), some (.int (Int32.ofNat (sb_lk cs n a)))], [.ref (b), .ref (b)], Bz10)) rfl ?_
        refine rw_gf (v := .int (Int32.ofNat a)) qz101 rfl rfl rfl rfl (rfl) rfl ?_
        refine wp_st 2 (f' := (121, [some (.ref (b)), some (.int (Int32.ofNat (sb_lk cs n a)))], [.int ((Int32.ofNat a) + (Int32.ofNat 1)), .ref (b)], Bz10)) rfl ?_
        rw [i32_add (a) (1)]
        refine rw_pf (v := .int (Int32.ofNat (a + 1))) qz101 rfl rfl rfl rfl rfl rfl (fun A11 h12 f13 => ?_)
        have f14 := fz10.trans f13
        rw [rf_c17] at h12
        refine wp_rt rfl rfl rfl ?_
        rw [show (if sb_lk cs n a = 35 ∧ sg = true then 1 else 0) = 1 from if_pos ⟨by omega, b9⟩]
        exact ⟨rfl, _, _, _, _, _, _, h12, iz10, rz10, fun l hl => by rw [up_ne (by omega)], xz10, f14⟩
      · skip
        have b9f : sg = false := by simpa using b9
        refine wp_izT rfl rfl (show sb_i sg = 0 from by rw [b9f]; decide) ?_
        refine wp_st 2 (f' := (111, [some (.ref (b)), some (.int (Int32.ofNat (sb_lk cs n a)))], [.int (Int32.ofNat (sb_lk cs n a)), .int (Int32.ofNat 0), .ref (b)], A)) rfl ?_
        obtain ⟨⟨oz15, Bz15⟩, gz15, qz150, tz15, qz151, qz152, qz155⟩ := rn_add (d := d - 1) (kc := Int32.ofNat 0) (x := Int32.ofNat (sb_lk cs n a)) hI (fun _ _ _ => rfl) (by omega) h
        dsimp only at qz150 qz151 qz155
        subst qz150
        obtain ⟨iz15, rz15⟩ := hI.addc (k := 0) (x := Int32.ofNat (sb_lk cs n a)) hr (by omega) (by omega) qz152
        have xz15 := (rm_X.refl s).trans qz152.X
        have yz15 := qz152.X.tx (show rf_tx (s) cs n from hx)
        have fz15 := (sb_fr.refl A b (b + 38)).trans qz155
        have pz15 := mg_add_P M 0 (Int32.ofNat (sb_lk cs n a))
        refine wp_cv (A' := Bz15) (v := none) rfl rfl rfl rfl rfl (show _ from h.1) (by omega) (gz15) rfl ?_
        show am_wp d 123 (114, [some (.ref (b)), some (.int (Int32.ofNat (sb_lk cs n a)))], [], Bz15) _
        refine wp_st 2 (f' := (116, [some (.ref (b)), some (.int (Int32.ofNat (sb_lk cs n a)))], [.ref (b), .ref (b)], Bz15)) rfl ?_
        refine rw_gf (v := .int (Int32.ofNat a)) qz151 rfl rfl rfl rfl (rfl) rfl ?_
        refine wp_st 2 (f' := (121, [some (.ref (b)), some (.int (Int32.ofNat (sb_lk cs n a)))], [.int ((Int32.ofNat a) + (Int32.ofNat 1)), .ref (b)], Bz15)) rfl ?_
        rw [i32_add (a) (1)]
        refine rw_pf (v := .int (Int32.ofNat (a + 1))) qz151 rfl rfl rfl rfl rfl rfl (fun A16 h17 f18 => ?_)
        have f19 := fz15.trans f18
        rw [rf_c17] at h17
        refine wp_rt rfl rfl rfl ?_
        rw [show (if sb_lk cs n a = 35 ∧ sg = true then 1 else 0) = 0 from if_neg (fun z => b9 z.2)]
        exact ⟨rfl, _, _, _, _, _, _, h17, iz15, rz15, fun l hl => by rw [up_ne (by omega)], xz15, f19⟩
  · skip
    rw [ne_eq, i32_eq (by omega) (by omega)] at h2
    replace h2 := Decidable.not_not.mp h2
    refine wp_st 1 (f' := (42, [some (.ref (b)), some (.int (Int32.ofNat (sb_lk cs n a)))], [.ref (b)], A)) rfl ?_
    refine rw_gf (v := .int (Int32.ofNat L)) h rfl rfl rfl rfl (hI.s22) rfl ?_
    refine wp_izT rfl rfl ((i32_le (a := L) (b := 0) (by omega) (by omega)).mpr (by omega)) ?_
    refine wp_st 3 (f' := (90, [some (.ref (b)), some (.int (Int32.ofNat (sb_lk cs n a)))], [.int (Int32.ofNat 35), .int (Int32.ofNat (sb_lk cs n a)), .ref (b)], A)) rfl ?_
    refine wp_if rfl rfl rfl (fun (h20 : (Int32.ofNat (sb_lk cs n a)) ≠ (Int32.ofNat 35)) => ?_) (fun (h20 : ¬ ((Int32.ofNat (sb_lk cs n a)) ≠ (Int32.ofNat 35))) => ?_)
    · skip
      rw [ne_eq, i32_eq (by omega) (by omega)] at h20
      refine wp_st 2 (f' := (111, [some (.ref (b)), some (.int (Int32.ofNat (sb_lk cs n a)))], [.int (Int32.ofNat (sb_lk cs n a)), .int (Int32.ofNat 0), .ref (b)], A)) rfl ?_
      obtain ⟨⟨oz21, Bz21⟩, gz21, qz210, tz21, qz211, qz212, qz215⟩ := rn_add (d := d - 1) (kc := Int32.ofNat 0) (x := Int32.ofNat (sb_lk cs n a)) hI (fun _ _ _ => rfl) (by omega) h
      dsimp only at qz210 qz211 qz215
      subst qz210
      obtain ⟨iz21, rz21⟩ := hI.addc (k := 0) (x := Int32.ofNat (sb_lk cs n a)) hr (by omega) (by omega) qz212
      have xz21 := (rm_X.refl s).trans qz212.X
      have yz21 := qz212.X.tx (show rf_tx (s) cs n from hx)
      have fz21 := (sb_fr.refl A b (b + 38)).trans qz215
      have pz21 := mg_add_P M 0 (Int32.ofNat (sb_lk cs n a))
      refine wp_cv (A' := Bz21) (v := none) rfl rfl rfl rfl rfl (show _ from h.1) (by omega) (gz21) rfl ?_
      show am_wp d 123 (114, [some (.ref (b)), some (.int (Int32.ofNat (sb_lk cs n a)))], [], Bz21) _
      refine wp_st 2 (f' := (116, [some (.ref (b)), some (.int (Int32.ofNat (sb_lk cs n a)))], [.ref (b), .ref (b)], Bz21)) rfl ?_
      refine rw_gf (v := .int (Int32.ofNat a)) qz211 rfl rfl rfl rfl (rfl) rfl ?_
      refine wp_st 2 (f' := (121, [some (.ref (b)), some (.int (Int32.ofNat (sb_lk cs n a)))], [.int ((Int32.ofNat a) + (Int32.ofNat 1)), .ref (b)], Bz21)) rfl ?_
      rw [i32_add (a) (1)]
      refine rw_pf (v := .int (Int32.ofNat (a + 1))) qz211 rfl rfl rfl rfl rfl rfl (fun A22 h23 f24 => ?_)
      have f25 := fz21.trans f24
      rw [rf_c17] at h23
      refine wp_rt rfl rfl rfl ?_
      rw [show (if sb_lk cs n a = 35 ∧ sg = true then 1 else 0) = 0 from if_neg (fun z => by omega)]
      exact ⟨rfl, _, _, _, _, _, _, h23, iz21, rz21, fun l hl => by rw [up_ne (by omega)], xz21, f25⟩
    · skip
      rw [ne_eq, i32_eq (by omega) (by omega)] at h20
      replace h20 := Decidable.not_not.mp h20
      refine wp_st 1 (f' := (94, [some (.ref (b)), some (.int (Int32.ofNat (sb_lk cs n a)))], [.ref (b), .ref (b)], A)) rfl ?_
      refine rw_gr h rfl rfl rfl rfl rfl rfl ?_
      refine wp_st 1 (f' := (98, [some (.ref (b)), some (.int (Int32.ofNat (sb_lk cs n a)))], [.ref (b), .ref (b + 18), .ref (b)], A)) rfl ?_
      refine rw_gf (v := .int (Int32.ofNat L)) h rfl rfl rfl rfl (hI.s22) rfl ?_
      refine rw_al (j := 26) (n := L) (v := .int (sb_i sg)) h rfl rfl rfl (Or.inr (Or.inr (Or.inr (Or.inl ⟨rfl, rfl⟩)))) rfl (show _ < 4 from by omega) (by rw [rf_c_ne (by decide)]; exact hsg) rfl ?_
      by_cases b26 : sg = true
      · skip
        refine wp_izF rfl rfl (show ¬ (sb_i sg = 0) from by rw [b26]; decide) ?_
        refine wp_st 3 (f' := (111, [some (.ref (b)), some (.int (Int32.ofNat (sb_lk cs n a)))], [.int (Int32.ofNat (sb_lk cs n a)), .int (Int32.ofNat 1), .ref (b)], A)) rfl ?_
        obtain ⟨⟨oz27, Bz27⟩, gz27, qz270, tz27, qz271, qz272, qz275⟩ := rn_add (d := d - 1) (kc := Int32.ofNat 1) (x := Int32.ofNat (sb_lk cs n a)) hI (fun _ _ _ => rfl) (by omega) h
        dsimp only at qz270 qz271 qz275
        subst qz270
        obtain ⟨iz27, rz27⟩ := hI.addc (k := 1) (x := Int32.ofNat (sb_lk cs n a)) hr (by omega) (by omega) qz272
        have xz27 := (rm_X.refl s).trans qz272.X
        have yz27 := qz272.X.tx (show rf_tx (s) cs n from hx)
        have fz27 := (sb_fr.refl A b (b + 38)).trans qz275
        have pz27 := mg_add_P M 1 (Int32.ofNat (sb_lk cs n a))
        refine wp_cv (A' := Bz27) (v := none) rfl rfl rfl rfl rfl (show _ from h.1) (by omega) (gz27) rfl ?_
        show am_wp d 123 (114, [some (.ref (b)), some (.int (Int32.ofNat (sb_lk cs n a)))], [], Bz27) _
        refine wp_st 2 (f' := (116, [some (.ref (b)), some (.int (Int32.ofNat (sb_lk cs n a)))], [.ref (b), .ref (b)], Bz27)) rfl ?_
        refine rw_gf (v := .int (Int32.ofNat a)) qz271 rfl rfl rfl rfl (rfl) rfl ?_
        refine wp_st 2 (f' := (121, [some (.ref (b)), some (.int (Int32.ofNat (sb_lk cs n a)))], [.int ((Int32.ofNat a) + (Int32.ofNat 1)), .ref (b)], Bz27)) rfl ?_
        rw [i32_add (a) (1)]
        refine rw_pf (v := .int (Int32.ofNat (a + 1))) qz271 rfl rfl rfl rfl rfl rfl (fun A28 h29 f30 => ?_)
        have f31 := fz27.trans f30
        rw [rf_c17] at h29
        refine wp_rt rfl rfl rfl ?_
        rw [show (if sb_lk cs n a = 35 ∧ sg = true then 1 else 0) = 1 from if_pos ⟨by omega, b26⟩]
        exact ⟨rfl, _, _, _, _, _, _, h29, iz27, rz27, fun l hl => by rw [up_ne (by omega)], xz27, f31⟩
      · skip
        have b26f : sg = false := by simpa using b26
        refine wp_izT rfl rfl (show sb_i sg = 0 from by rw [b26f]; decide) ?_
        refine wp_st 2 (f' := (111, [some (.ref (b)), some (.int (Int32.ofNat (sb_lk cs n a)))], [.int (Int32.ofNat (sb_lk cs n a)), .int (Int32.ofNat 0), .ref (b)], A)) rfl ?_
        obtain ⟨⟨oz32, Bz32⟩, gz32, qz320, tz32, qz321, qz322, qz325⟩ := rn_add (d := d - 1) (kc := Int32.ofNat 0) (x := Int32.ofNat (sb_lk cs n a)) hI (fun _ _ _ => rfl) (by omega) h
        dsimp only at qz320 qz321 qz325
        subst qz320
        obtain ⟨iz32, rz32⟩ := hI.addc (k := 0) (x := Int32.ofNat (sb_lk cs n a)) hr (by omega) (by omega) qz322
        have xz32 := (rm_X.refl s).trans qz322.X
        have yz32 := qz322.X.tx (show rf_tx (s) cs n from hx)
        have fz32 := (sb_fr.refl A b (b + 38)).trans qz325
        have pz32 := mg_add_P M 0 (Int32.ofNat (sb_lk cs n a))
        refine wp_cv (A' := Bz32) (v := none) rfl rfl rfl rfl rfl (show _ from h.1) (by omega) (gz32) rfl ?_
        show am_wp d 123 (114, [some (.ref (b)), some (.int (Int32.ofNat (sb_lk cs n a)))], [], Bz32) _
        refine wp_st 2 (f' := (116, [some (.ref (b)), some (.int (Int32.ofNat (sb_lk cs n a)))], [.ref (b), .ref (b)], Bz32)) rfl ?_
        refine rw_gf (v := .int (Int32.ofNat a)) qz321 rfl rfl rfl rfl (rfl) rfl ?_
        refine wp_st 2 (f' := (121, [some (.ref (b)), some (.int (Int32.ofNat (sb_lk cs n a)))], [.int ((Int32.ofNat a) + (Int32.ofNat 1)), .ref (b)], Bz32)) rfl ?_
        rw [i32_add (a) (1)]
        refine rw_pf (v := .int (Int32.ofNat (a + 1))) qz321 rfl rfl rfl rfl rfl rfl (fun A33 h34 f35 => ?_)
        have f36 := fz32.trans f35
        rw [rf_c17] at h34
        refine wp_rt rfl rfl rfl ?_
        rw [show (if sb_lk cs n a = 35 ∧ sg = true then 1 else 0) = 0 from if_neg (fun z => b26 z.2)]
        exact ⟨rfl, _, _, _, _, _, _, h34, iz32, rz32, fun l hl => by rw [up_ne (by omega)], xz32, f36⟩
