/-! The reference: the loop of readMessage. -/
theorem lh_step {d b n a g : Nat} {r : Int64} {cs : List Nat} {s : rf_S} {A : am_H} {Q R : am_O × am_H → Prop} (hd : 1 ≤ d) (hx : rf_tx s cs n) (ha : a < n) (h : rf A b (rf_c s a (-1) r g)) (hs : am_wp (d - 1) 123 (0, am_ent 123 [.ref b], [], A) R) (kk : ∀ q, R q → q.1 = .inl none ∧ am_wp d 122 (51, [some (.ref b)], [], q.2) Q) : am_wp d 122 (51, [some (.ref b)], [], A) Q := by
  have hn1 := hx.2.2.1
  refine wp_st 1 (f' := (52, [some (.ref (b))], [.ref (b)], A)) rfl ?_
  refine rw_gf (v := .int ((-1))) h rfl rfl rfl rfl (rfl) rfl ?_
  refine wp_izF rfl rfl (show ¬ ((Int32.ofNat 0) ≤ (-1 : Int32)) from by decide) ?_
  refine wp_st 1 (f' := (59, [some (.ref (b))], [.ref (b)], A)) rfl ?_
  refine rw_gf (v := .int (Int32.ofNat a)) h rfl rfl rfl rfl (rfl) rfl ?_
  refine wp_st 1 (f' := (63, [some (.ref (b))], [.ref (b), .int (Int32.ofNat a)], A)) rfl ?_
  refine rw_gf (v := .int (Int32.ofNat n)) h rfl rfl rfl rfl (hx.1) rfl ?_
  refine wp_ifF rfl rfl (fun q => absurd ((i32_le (a := n) (b := a) (by omega) (by omega)).mp q) (by omega)) ?_
  refine wp_st 1 (f' := (70, [some (.ref (b))], [.ref (b)], A)) rfl ?_
  obtain ⟨⟨o9, A9⟩, g9, q9⟩ := hs
  obtain ⟨k1, k2⟩ := kk _ q9
  dsimp only at k1 k2
  subst k1
  refine wp_cv (A' := A9) (v := none) rfl rfl rfl rfl rfl (show _ from h.1) (by omega) (g9) rfl ?_
  show am_wp d 122 (73, [some (.ref (b))], [], A9) _
  refine wp_st 1 (f' := (51, [some (.ref (b))], [], A9)) rfl ?_
  exact k2
theorem lh_ok {d b n a g : Nat} {r : Int64} {cs : List Nat} {s : rf_S} {A : am_H} {Q : am_O × am_H → Prop} (hx : rf_tx s cs n) (ha : n ≤ a) (ha2 : a ≤ n) (h22 : s 22 0 = .int (Int32.ofNat 0)) (h : rf A b (rf_c s a (-1) r g)) (kk : Q (.inl none, A)) : am_wp d 122 (51, [some (.ref b)], [], A) Q := by
  have hn1 := hx.2.2.1
  refine wp_st 1 (f' := (52, [some (.ref (b))], [.ref (b)], A)) rfl ?_
  refine rw_gf (v := .int ((-1))) h rfl rfl rfl rfl (rfl) rfl ?_
  refine wp_izF rfl rfl (show ¬ ((Int32.ofNat 0) ≤ (-1 : Int32)) from by decide) ?_
  refine wp_st 1 (f' := (59, [some (.ref (b))], [.ref (b)], A)) rfl ?_
  refine rw_gf (v := .int (Int32.ofNat a)) h rfl rfl rfl rfl (rfl) rfl ?_
  refine wp_st 1 (f' := (63, [some (.ref (b))], [.ref (b), .int (Int32.ofNat a)], A)) rfl ?_
  refine rw_gf (v := .int (Int32.ofNat n)) h rfl rfl rfl rfl (hx.1) rfl ?_
  refine wp_ifT rfl rfl ((i32_le (a := n) (b := a) (by omega) (by omega)).mpr (by omega)) ?_
  refine wp_st 1 (f' := (77, [some (.ref (b))], [.ref (b)], A)) rfl ?_
  refine rw_gf (v := .int (Int32.ofNat 0)) h rfl rfl rfl rfl (h22) rfl ?_
  refine wp_izT rfl rfl (show (Int32.ofNat 0) ≤ (Int32.ofNat 0) from by decide) ?_
  refine wp_rt rfl rfl rfl ?_
  exact kk
theorem lh_er1 {d b n a g e L : Nat} {r : Int64} {cs : List Nat} {s : rf_S} {A : am_H} {Q : am_O × am_H → Prop} (hd : 1 ≤ d) (hx : rf_tx s cs n) (he : e ≤ n) (hL : L ≤ 4) (h22 : s 22 0 = .int (Int32.ofNat L)) (h : rf A b (rf_c s a (Int32.ofNat e) r g)) (kk : ∀ B, rf B b (rf_c s a (Int32.ofNat e) r g) → sb_fr A B b (b + 38) → Q (.inl none, B)) : am_wp d 122 (51, [some (.ref b)], [], A) Q := by
  have hn1 := hx.2.2.1
  refine wp_st 1 (f' := (52, [some (.ref (b))], [.ref (b)], A)) rfl ?_
  refine rw_gf (v := .int (Int32.ofNat e)) h rfl rfl rfl rfl (rfl) rfl ?_
  refine wp_izT rfl rfl (show Int32.ofNat 0 ≤ (Int32.ofNat e) from Int32.not_lt.mp (Int32.ofNat_not_neg (by omega))) ?_
  refine wp_st 1 (f' := (77, [some (.ref (b))], [.ref (b)], A)) rfl ?_
  refine rw_gf (v := .int (Int32.ofNat L)) h rfl rfl rfl rfl (h22) rfl ?_
  refine wp_iz rfl rfl rfl (fun (h1 : (Int32.ofNat L) ≤ (Int32.ofNat 0)) => ?_) (fun (h1 : ¬ ((Int32.ofNat L) ≤ (Int32.ofNat 0))) => ?_)
  · skip
    rw [i32_le (by omega) (by omega)] at h1
    refine wp_rt rfl rfl rfl ?_
    exact kk _ h (sb_fr.refl A b (b + 38))
  · skip
    rw [i32_le (by omega) (by omega)] at h1
    refine wp_st 2 (f' := (85, [some (.ref (b))], [.ref (b), .ref (b)], A)) rfl ?_
    refine rw_gf (v := .int (Int32.ofNat n)) h rfl rfl rfl rfl (hx.1) rfl ?_
    obtain ⟨A2, g3, h4, f5⟩ := (show rf_go _ _ _ _ _ _ (rf_c s a (Int32.ofNat e) r g) from by have e := rr_fail (d := d - 1) (x := n) h; rw [rf_w_n (by omega)] at e; exact e)
    have f6 := (sb_fr.refl A b (b + 38)).trans f5
    refine wp_cv (A' := A2) (v := none) rfl rfl rfl rfl rfl (show _ from h.1) (by omega) (g3) rfl ?_
    show am_wp d 122 (91, [some (.ref (b))], [], A2) _
    refine wp_rt rfl rfl rfl ?_
    exact kk _ h4 f6
theorem lh_er2 {d b n a g L : Nat} {r : Int64} {cs : List Nat} {s : rf_S} {A : am_H} {Q : am_O × am_H → Prop} (hd : 1 ≤ d) (hx : rf_tx s cs n) (ha : n ≤ a) (ha2 : a ≤ n + 50) (hL : L ≤ 4) (hL0 : 0 < L) (h22 : s 22 0 = .int (Int32.ofNat L)) (h : rf A b (rf_c s a (-1) r g)) (kk : ∀ B, rf B b (rf_c s a (Int32.ofNat n) r g) → sb_fr A B b (b + 38) → Q (.inl none, B)) : am_wp d 122 (51, [some (.ref b)], [], A) Q := by
  have hn1 := hx.2.2.1
  refine wp_st 1 (f' := (52, [some (.ref (b))], [.ref (b)], A)) rfl ?_
  refine rw_gf (v := .int ((-1))) h rfl rfl rfl rfl (rfl) rfl ?_
  refine wp_izF rfl rfl (show ¬ ((Int32.ofNat 0) ≤ (-1 : Int32)) from by decide) ?_
  refine wp_st 1 (f' := (59, [some (.ref (b))], [.ref (b)], A)) rfl ?_
  refine rw_gf (v := .int (Int32.ofNat a)) h rfl rfl rfl rfl (rfl) rfl ?_
  refine wp_st 1 (f' := (63, [some (.ref (b))], [.ref (b), .int (Int32.ofNat a)], A)) rfl ?_
  refine rw_gf (v := .int (Int32.ofNat n)) h rfl rfl rfl rfl (hx.1) rfl ?_
  refine wp_ifT rfl rfl ((i32_le (a := n) (b := a) (by omega) (by omega)).mpr (by omega)) ?_
  refine wp_st 1 (f' := (77, [some (.ref (b))], [.ref (b)], A)) rfl ?_
  refine rw_gf (v := .int (Int32.ofNat L)) h rfl rfl rfl rfl (h22) rfl ?_
  refine wp_izF rfl rfl (fun q => absurd ((i32_le (a := L) (b := 0) (by omega) (by omega)).mp q) (by omega)) ?_
  refine wp_st 2 (f' := (85, [some (.ref (b))], [.ref (b), .ref (b)], A)) rfl ?_
  refine rw_gf (v := .int (Int32.ofNat n)) h rfl rfl rfl rfl (hx.1) rfl ?_
  obtain ⟨A1, g2, h3, f4⟩ := (show rf_go _ _ _ _ _ _ (rf_c s a (Int32.ofNat n) r g) from by have e := rr_fail (d := d - 1) (x := n) h; rw [rf_w_m] at e; exact e)
  have f5 := (sb_fr.refl A b (b + 38)).trans f4
  refine wp_cv (A' := A1) (v := none) rfl rfl rfl rfl rfl (show _ from h.1) (by omega) (g2) rfl ?_
  show am_wp d 122 (91, [some (.ref (b))], [], A1) _
  refine wp_rt rfl rfl rfl ?_
  exact kk _ h3 f5
