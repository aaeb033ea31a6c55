/-! The reference: branchOrEnd. -/
theorem mb_te {d b n p g L e : Nat} {z1 z2 : Int32} {r : Int64} {cs : List Nat} {t : rf_S} {A : am_H} (hd : 3 ≤ d) (hx : rf_tx t cs n) (h22 : t 22 0 = .int (Int32.ofNat L)) (hL : L ≤ 3) (hp : p ≤ n + 20) (he : e ≤ n) (h : rf A b (rf_c t p (Int32.ofNat e) r g)) : am_wp d 141 (168, [some (.ref b), some (.int z1), some (.int z2)], [], A) (fun q => q.1 = .inl none ∧ ml_E A t b n e q.2) := by
  have hn1 := hx.2.2.1
  have hlk : ∀ k, sb_lk cs n k < 128 := by
    intro k
    unfold sb_lk
    split
    · have := hx.2.2.2 k (by omega)
      omega
    · omega
  refine wp_st 1 (f' := (169, [some (.ref (b)), some (.int (z1)), some (.int (z2))], [.ref (b)], A)) rfl ?_
  have k1 := rd_sk_gt (cs := cs) (n := n) (a := p)
  obtain ⟨A2, g3, h4, f5⟩ := (show rf_go (d - 1) 129 [.ref b] A b none (rf_c t (rd_sk cs n p) (Int32.ofNat e) r g) from rr_spaces (d := d - 1) (by omega) (by omega) (show rf_tx (t) cs n from hx) h)
  have f6 := (sb_fr.refl A b (b + 38)).trans f5
  refine wp_cv (A' := A2) (v := none) rfl rfl rfl rfl rfl (show _ from h.1) (by omega) (g3) rfl ?_
  show am_wp d 141 (172, [some (.ref (b)), some (.int (z1)), some (.int (z2))], [], A2) _
  refine wp_st 2 (f' := (174, [some (.ref (b)), some (.int (z1)), some (.int (z2))], [.ref (b), .ref (b)], A2)) rfl ?_
  refine rw_gf (v := .int (Int32.ofNat (rd_sk cs n p))) h4 rfl rfl rfl rfl (rfl) rfl ?_
  have l7 := hlk (rd_sk cs n p)
  refine wp_cv (A' := A2) (v := some (.int (Int32.ofNat (sb_lk cs n (rd_sk cs n p))))) rfl rfl rfl rfl rfl (show _ from h4.1) (by omega) (rr_look (by omega) (show rf_tx (t) cs n from hx) h4) rfl ?_
  show am_wp d 141 (180, [some (.ref (b)), some (.int (z1)), some (.int (z2))], [.int (Int32.ofNat (sb_lk cs n (rd_sk cs n p)))], A2) _
  refine wp_st 1 (f' := (182, [some (.ref (b)), some (.int (z1)), some (.int (z2))], [.int (Int32.ofNat 123), .int (Int32.ofNat (sb_lk cs n (rd_sk cs n p)))], A2)) rfl ?_
  refine wp_if rfl rfl rfl (fun (h8 : (Int32.ofNat (sb_lk cs n (rd_sk cs n p))) ≠ (Int32.ofNat 123)) => ?_) (fun (h8 : ¬ ((Int32.ofNat (sb_lk cs n (rd_sk cs n p))) ≠ (Int32.ofNat 123))) => ?_)
  · skip
    rw [ne_eq, i32_eq (by omega) (by omega)] at h8
    refine wp_st 2 (f' := (204, [some (.ref (b)), some (.int (z1)), some (.int (z2))], [.int (Int32.ofNat 123), .ref (b)], A2)) rfl ?_
    by_cases c9 : sb_lk cs n (rd_sk cs n p) = 123
    · skip
      have c9p : rd_sk cs n p < n := sb_lk_pos (cs := cs) (by omega)
      obtain ⟨A10, g11, h12, f13⟩ := (show rf_go _ _ _ _ _ _ (rf_c t (rd_sk cs n p + 1) (Int32.ofNat e) r g) from by have e := rr_need (d := d - 1) (c := 123) (by omega) (by omega) (by omega) (show rf_tx (t) cs n from hx) h4; rw [if_pos c9] at e; exact e)
      have f14 := f6.trans f13
      refine wp_cv (A' := A10) (v := none) rfl rfl rfl rfl rfl (show _ from h4.1) (by omega) (g11) rfl ?_
      show am_wp d 141 (207, [some (.ref (b)), some (.int (z1)), some (.int (z2))], [], A10) _
      refine wp_st 1 (f' := (208, [some (.ref (b)), some (.int (z1)), some (.int (z2))], [.ref (b)], A10)) rfl ?_
      refine rw_gf (v := .int (Int32.ofNat e)) h12 rfl rfl rfl rfl (rfl) rfl ?_
      refine wp_izT rfl rfl (show Int32.ofNat 0 ≤ (Int32.ofNat e) from Int32.not_lt.mp (Int32.ofNat_not_neg (by omega))) ?_
      refine wp_rt rfl rfl rfl ?_
      exact ⟨rfl, _, _, _, _, _, _, h12, h22, by omega, by omega, Or.inl ⟨rfl, he⟩, rm_X.refl t, f14⟩
    · skip
      obtain ⟨A15, g16, h17, f18⟩ := (show rf_go _ _ _ _ _ _ (rf_c t (rd_sk cs n p + 1) (Int32.ofNat e) r g) from by have e := rr_need (d := d - 1) (c := 123) (by omega) (by omega) (by omega) (show rf_tx (t) cs n from hx) h4; rw [if_neg c9, rf_w_n (by omega)] at e; exact e)
      have f19 := f6.trans f18
      refine wp_cv (A' := A15) (v := none) rfl rfl rfl rfl rfl (show _ from h4.1) (by omega) (g16) rfl ?_
      show am_wp d 141 (207, [some (.ref (b)), some (.int (z1)), some (.int (z2))], [], A15) _
      refine wp_st 1 (f' := (208, [some (.ref (b)), some (.int (z1)), some (.int (z2))], [.ref (b)], A15)) rfl ?_
      refine rw_gf (v := .int (Int32.ofNat e)) h17 rfl rfl rfl rfl (rfl) rfl ?_
      refine wp_izT rfl rfl (show Int32.ofNat 0 ≤ (Int32.ofNat e) from Int32.not_lt.mp (Int32.ofNat_not_neg (by omega))) ?_
      refine wp_rt rfl rfl rfl ?_
      exact ⟨rfl, _, _, _, _, _, _, h17, h22, by omega, by omega, Or.inl ⟨rfl, he⟩, rm_X.refl t, f19⟩
  · skip
    rw [ne_eq, i32_eq (by omega) (by omega)] at h8
    replace h8 := Decidable.not_not.mp h8
    refine wp_st 1 (f' := (186, [some (.ref (b)), some (.int (z1)), some (.int (z2))], [.ref (b)], A2)) rfl ?_
    refine rw_gf (v := .int (Int32.ofNat L)) h4 rfl rfl rfl rfl (h22) rfl ?_
    refine wp_st 1 (f' := (190, [some (.ref (b)), some (.int (z1)), some (.int (z2))], [.int (Int32.ofNat 3), .int (Int32.ofNat L)], A2)) rfl ?_
    refine wp_if rfl rfl rfl (fun (h20 : (Int32.ofNat L) ≠ (Int32.ofNat 3)) => ?_) (fun (h20 : ¬ ((Int32.ofNat L) ≠ (Int32.ofNat 3))) => ?_)
    · skip
      rw [ne_eq, i32_eq (by omega) (by omega)] at h20
      refine wp_st 2 (f' := (204, [some (.ref (b)), some (.int (z1)), some (.int (z2))], [.int (Int32.ofNat 123), .ref (b)], A2)) rfl ?_
      by_cases c21 : sb_lk cs n (rd_sk cs n p) = 123
      · skip
        have c21p : rd_sk cs n p < n := sb_lk_pos (cs := cs) (by omega)
        obtain ⟨A22, g23, h24, f25⟩ := (show rf_go _ _ _ _ _ _ (rf_c t (rd_sk cs n p + 1) (Int32.ofNat e) r g) from by have e := rr_need (d := d - 1) (c := 123) (by omega) (by omega) (by omega) (show rf_tx (t) cs n from hx) h4; rw [if_pos c21] at e; exact e)
        have f26 := f6.trans f25
        refine wp_cv (A' := A22) (v := none) rfl rfl rfl rfl rfl (show _ from h4.1) (by omega) (g23) rfl ?_
        show am_wp d 141 (207, [some (.ref (b)), some (.int (z1)), some (.int (z2))], [], A22) _
        refine wp_st 1 (f' := (208, [some (.ref (b)), some (.int (z1)), some (.int (z2))], [.ref (b)], A22)) rfl ?_
        refine rw_gf (v := .int (Int32.ofNat e)) h24 rfl rfl rfl rfl (rfl) rfl ?_
        refine wp_izT rfl rfl (show Int32.ofNat 0 ≤ (Int32.ofNat e) from Int32.not_lt.mp (Int32.ofNat_not_neg (by omega))) ?_
        refine wp_rt rfl rfl rfl ?_
        exact ⟨rfl, _, _, _, _, _, _, h24, h22, by omega, by omega, Or.inl ⟨rfl, he⟩, rm_X.refl t, f26⟩
      · skip
        obtain ⟨A27, g28, h29, f30⟩ := (show rf_go _ _ _ _ _ _ (rf_c t (rd_sk cs n p + 1) (Int32.ofNat e) r g) from by have e := rr_need (d := d - 1) (c := 123) (by omega) (by omega) (by omega) (show rf_tx (t) cs n from hx) h4; rw [if_neg c21, rf_w_n (by omega)] at e; exact e)
        have f31 := f6.trans f30
        refine wp_cv (A' := A27) (v := none) rfl rfl rfl rfl rfl (show _ from h4.1) (by omega) (g28) rfl ?_
        show am_wp d 141 (207, [some (.ref (b)), some (.int (z1)), some (.int (z2))], [], A27) _
        refine wp_st 1 (f' := (208, [some (.ref (b)), some (.int (z1)), some (.int (z2))], [.ref (b)], A27)) rfl ?_
        refine rw_gf (v := .int (Int32.ofNat e)) h29 rfl rfl rfl rfl (rfl) rfl ?_
        refine wp_izT rfl rfl (show Int32.ofNat 0 ≤ (Int32.ofNat e) from Int32.not_lt.mp (Int32.ofNat_not_neg (by omega))) ?_
        refine wp_rt rfl rfl rfl ?_
        exact ⟨rfl, _, _, _, _, _, _, h29, h22, by omega, by omega, Or.inl ⟨rfl, he⟩, rm_X.refl t, f31⟩
    · skip
      rw [ne_eq, i32_eq (by omega) (by omega)] at h20
      replace h20 := Decidable.not_not.mp h20
      refine wp_st 2 (f' := (195, [some (.ref (b)), some (.int (z1)), some (.int (z2))], [.ref (b), .ref (b)], A2)) rfl ?_
      refine rw_gf (v := .int (Int32.ofNat (rd_sk cs n p))) h4 rfl rfl rfl rfl (rfl) rfl ?_
      obtain ⟨A32, g33, h34, f35⟩ := (show rf_go _ _ _ _ _ _ (rf_c t (rd_sk cs n p) (Int32.ofNat e) r g) from by have e := rr_fail (d := d - 1) (x := rd_sk cs n p) h4; rw [rf_w_n (by omega)] at e; exact e)
      have f36 := f6.trans f35
      refine wp_cv (A' := A32) (v := none) rfl rfl rfl rfl rfl (show _ from h4.1) (by omega) (g33) rfl ?_
      show am_wp d 141 (201, [some (.ref (b)), some (.int (z1)), some (.int (z2))], [], A32) _
      refine wp_st 2 (f' := (204, [some (.ref (b)), some (.int (z1)), some (.int (z2))], [.int (Int32.ofNat 123), .ref (b)], A32)) rfl ?_
      by_cases c37 : sb_lk cs n (rd_sk cs n p) = 123
      · skip
        have c37p : rd_sk cs n p < n := sb_lk_pos (cs := cs) (by omega)
        obtain ⟨A38, g39, h40, f41⟩ := (show rf_go _ _ _ _ _ _ (rf_c t (rd_sk cs n p + 1) (Int32.ofNat e) r g) from by have e := rr_need (d := d - 1) (c := 123) (by omega) (by omega) (by omega) (show rf_tx (t) cs n from hx) h34; rw [if_pos c37] at e; exact e)
        have f42 := f36.trans f41
        refine wp_cv (A' := A38) (v := none) rfl rfl rfl rfl rfl (show _ from h34.1) (by omega) (g39) rfl ?_
        show am_wp d 141 (207, [some (.ref (b)), some (.int (z1)), some (.int (z2))], [], A38) _
        refine wp_st 1 (f' := (208, [some (.ref (b)), some (.int (z1)), some (.int (z2))], [.ref (b)], A38)) rfl ?_
        refine rw_gf (v := .int (Int32.ofNat e)) h40 rfl rfl rfl rfl (rfl) rfl ?_
        refine wp_izT rfl rfl (show Int32.ofNat 0 ≤ (Int32.ofNat e) from Int32.not_lt.mp (Int32.ofNat_not_neg (by omega))) ?_
        refine wp_rt rfl rfl rfl ?_
        exact ⟨rfl, _, _, _, _, _, _, h40, h22, by omega, by omega, Or.inl ⟨rfl, he⟩, rm_X.refl t, f42⟩
      · skip
        obtain ⟨A43, g44, h45, f46⟩ := (show rf_go _ _ _ _ _ _ (rf_c t (rd_sk cs n p + 1) (Int32.ofNat e) r g) from by have e := rr_need (d := d - 1) (c := 123) (by omega) (by omega) (by omega) (show rf_tx (t) cs n from hx) h34; rw [if_neg c37, rf_w_n (by omega)] at e; exact e)
        have f47 := f36.trans f46
        refine wp_cv (A' := A43) (v := none) rfl rfl rfl rfl rfl (show _ from h34.1) (by omega) (g44) rfl ?_
        show am_wp d 141 (207, [some (.ref (b)), some (.int (z1)), some (.int (z2))], [], A43) _
        refine wp_st 1 (f' := (208, [some (.ref (b)), some (.int (z1)), some (.int (z2))], [.ref (b)], A43)) rfl ?_
        refine rw_gf (v := .int (Int32.ofNat e)) h45 rfl rfl rfl rfl (rfl) rfl ?_
        refine wp_izT rfl rfl (show Int32.ofNat 0 ≤ (Int32.ofNat e) from Int32.not_lt.mp (Int32.ofNat_not_neg (by omega))) ?_
        refine wp_rt rfl rfl rfl ?_
        exact ⟨rfl, _, _, _, _, _, _, h45, h22, by omega, by omega, Or.inl ⟨rfl, he⟩, rm_X.refl t, f47⟩
theorem mb_to {d b n p g L i : Nat} {r : Int64} {cs : List Nat} {M : mg} {E dp ob : Nat → Nat} {lp : Nat → Option Nat} {se : Int64} {s t : rf_S} {A : am_H} (hd : 3 ≤ d) (hx : rf_tx t cs n) (hp : p ≤ n) (hl : lp L = some i) (h6 : 6 ≤ mg_k M i) (hB3 : 3 * mg_B M < p) (hA : 3 * mg_ct (mg_k M) (mg_P M) ≤ p) (hI : rm_I s M L E dp lp ob true) (f21 : t 21 0 = .int (Int32.ofNat (mg_B M + 1))) (fsl : rm_sl se (t 13 (128 + mg_B M)) (t 14 (128 + mg_B M))) (f15 : t 15 (128 + mg_B M) = .int (-1)) (f16 : t 16 (128 + mg_B M) = .int (-1)) (flk : ∀ j q, rm_lk (mg_bl (mg_w M) i (mg_B M)) (mg_ct (mg_k M) i) j q → t j q = .int (Int32.ofNat (128 + mg_B M))) (fr : ∀ j q, ¬ (j = 21 ∧ q = 0) → ¬ (13 ≤ j ∧ j ≤ 16 ∧ q = 128 + mg_B M) → ¬ rm_lk (mg_bl (mg_w M) i (mg_B M)) (mg_ct (mg_k M) i) j q → t j q = s j q) (h : rf A b (rf_c t p (-1) r g)) : am_wp d 141 (168, [some (.ref b), some (.int (Int32.ofNat (128 + mg_ct (mg_k M) i))), some (.int (Int32.ofNat (128 + mg_B M)))], [], A) (mb_Q A s b n M L E dp lp ob (if sb_lk cs n (rd_sk cs n p) = 123 then (if L = 3 then .error (rd_sk cs n p) else .ok (.inr (rd_sk cs n p + 1, mg_addb M i se))) else .error (rd_sk cs n p))) := by
  have hn1 := hx.2.2.1
  have hL3 := hI.L3
  have hi := hI.C2 L (Nat.le_refl _) i hl
  have hk8 := (hI.k8 i hi.1).1
  have hB1 := hI.B1
  have hci := mg_ct_lt (k := mg_k M) (i := i) (by omega) (j := mg_P M) hi.1
  have hXt : rm_X s t := (fun j q z => fr j q (fun e => z (by unfold rm_sc; omega)) (fun e => z (by unfold rm_sc; omega)) (fun e => z (by unfold rm_lk at e; unfold rm_sc; split at e <;> omega)))
  have h22 : t 22 0 = .int (Int32.ofNat L) := by rw [fr 22 0 (by omega) (by omega) (by unfold rm_lk; split <;> omega)]; exact hI.s22
  have h10 : t 10 (128 + mg_ct (mg_k M) i) = .int (rf_so (mg_k M i)) := by rw [fr 10 _ (by omega) (by omega) (by unfold rm_lk; split <;> omega)]; exact (hI.pa i hi.1 (by omega)).2.2.2.1
  have hlk : ∀ k, sb_lk cs n k < 128 := by
    intro k
    unfold sb_lk
    split
    · have := hx.2.2.2 k (by omega)
      omega
    · omega
  refine wp_st 1 (f' := (169, [some (.ref (b)), some (.int (Int32.ofNat (128 + mg_ct (mg_k M) i))), some (.int (Int32.ofNat (128 + mg_B M)))], [.ref (b)], A)) rfl ?_
  have k1 := rd_sk_gt (cs := cs) (n := n) (a := p)
  obtain ⟨A2, g3, h4, f5⟩ := (show rf_go (d - 1) 129 [.ref b] A b none (rf_c t (rd_sk cs n p) (-1) r g) from rr_spaces (d := d - 1) (by omega) (by omega) (show rf_tx (t) cs n from hx) h)
  have f6 := (sb_fr.refl A b (b + 38)).trans f5
  refine wp_cv (A' := A2) (v := none) rfl rfl rfl rfl rfl (show _ from h.1) (by omega) (g3) rfl ?_
  show am_wp d 141 (172, [some (.ref (b)), some (.int (Int32.ofNat (128 + mg_ct (mg_k M) i))), some (.int (Int32.ofNat (128 + mg_B M)))], [], A2) _
  refine wp_st 2 (f' := (174, [some (.ref (b)), some (.int (Int32.ofNat (128 + mg_ct (mg_k M) i))), some (.int (Int32.ofNat (128 + mg_B M)))], [.ref (b), .ref (b)], A2)) rfl ?_
  refine rw_gf (v := .int (Int32.ofNat (rd_sk cs n p))) h4 rfl rfl rfl rfl (rfl) rfl ?_
  have l7 := hlk (rd_sk cs n p)
  refine wp_cv (A' := A2) (v := some (.int (Int32.ofNat (sb_lk cs n (rd_sk cs n p))))) rfl rfl rfl rfl rfl (show _ from h4.1) (by omega) (rr_look (by omega) (show rf_tx (t) cs n from hx) h4) rfl ?_
  show am_wp d 141 (180, [some (.ref (b)), some (.int (Int32.ofNat (128 + mg_ct (mg_k M) i))), some (.int (Int32.ofNat (128 + mg_B M)))], [.int (Int32.ofNat (sb_lk cs n (rd_sk cs n p)))], A2) _
  refine wp_st 1 (f' := (182, [some (.ref (b)), some (.int (Int32.ofNat (128 + mg_ct (mg_k M) i))), some (.int (Int32.ofNat (128 + mg_B M)))], [.int (Int32.ofNat 123), .int (Int32.ofNat (sb_lk cs n (rd_sk cs n p)))], A2)) rfl ?_
  refine wp_if rfl rfl rfl (fun (h8 : (Int32.ofNat (sb_lk cs n (rd_sk cs n p))) ≠ (Int32.ofNat 123)) => ?_) (fun (h8 : ¬ ((Int32.ofNat (sb_lk cs n (rd_sk cs n p))) ≠ (Int32.ofNat 123))) => ?_)
  · skip
    rw [ne_eq, i32_eq (by omega) (by omega)] at h8
    refine wp_st 2 (f' := (204, [some (.ref (b)), some (.int (Int32.ofNat (128 + mg_ct (mg_k M) i))), some (.int (Int32.ofNat (128 + mg_B M)))], [.int (Int32.ofNat 123), .ref (b)], A2)) rfl ?_
    obtain ⟨A9, g10, h11, f12⟩ := (show rf_go _ _ _ _ _ _ (rf_c t (rd_sk cs n p + 1) (Int32.ofNat (rd_sk cs n p)) r g) from by have e := rr_need (d := d - 1) (c := 123) (by omega) (by omega) (by omega) (show rf_tx (t) cs n from hx) h4; rw [if_neg h8, rf_w_m] at e; exact e)
    have f13 := f6.trans f12
    refine wp_cv (A' := A9) (v := none) rfl rfl rfl rfl rfl (show _ from h4.1) (by omega) (g10) rfl ?_
    show am_wp d 141 (207, [some (.ref (b)), some (.int (Int32.ofNat (128 + mg_ct (mg_k M) i))), some (.int (Int32.ofNat (128 + mg_B M)))], [], A9) _
    refine wp_st 1 (f' := (208, [some (.ref (b)), some (.int (Int32.ofNat (128 + mg_ct (mg_k M) i))), some (.int (Int32.ofNat (128 + mg_B M)))], [.ref (b)], A9)) rfl ?_
    refine rw_gf (v := .int (Int32.ofNat (rd_sk cs n p))) h11 rfl rfl rfl rfl (rfl) rfl ?_
    refine wp_izT rfl rfl (show Int32.ofNat 0 ≤ (Int32.ofNat (rd_sk cs n p)) from Int32.not_lt.mp (Int32.ofNat_not_neg (by omega))) ?_
    refine wp_rt rfl rfl rfl ?_
    rw [if_neg h8]
    exact ⟨rfl, _, _, _, _, _, _, h11, h22, by omega, by omega, Or.inl ⟨rfl, by omega⟩, hXt, f13⟩
  · skip
    rw [ne_eq, i32_eq (by omega) (by omega)] at h8
    replace h8 := Decidable.not_not.mp h8
    refine wp_st 1 (f' := (186, [some (.ref (b)), some (.int (Int32.ofNat (128 + mg_ct (mg_k M) i))), some (.int (Int32.ofNat (128 + mg_B M)))], [.ref (b)], A2)) rfl ?_
    refine rw_gf (v := .int (Int32.ofNat L)) h4 rfl rfl rfl rfl (h22) rfl ?_
    refine wp_st 1 (f' := (190, [some (.ref (b)), some (.int (Int32.ofNat (128 + mg_ct (mg_k M) i))), some (.int (Int32.ofNat (128 + mg_B M)))], [.int (Int32.ofNat 3), .int (Int32.ofNat L)], A2)) rfl ?_
    refine wp_if rfl rfl rfl (fun (h14 : (Int32.ofNat L) ≠ (Int32.ofNat 3)) => ?_) (fun (h14 : ¬ ((Int32.ofNat L) ≠ (Int32.ofNat 3))) => ?_)
    · skip
      rw [ne_eq, i32_eq (by omega) (by omega)] at h14
      refine wp_st 2 (f' := (204, [some (.ref (b)), some (.int (Int32.ofNat (128 + mg_ct (mg_k M) i))), some (.int (Int32.ofNat (128 + mg_B M)))], [.int (Int32.ofNat 123), .ref (b)], A2)) rfl ?_
      have hpp : rd_sk cs n p < n := sb_lk_pos (cs := cs) (by omega)
      obtain ⟨A15, g16, h17, f18⟩ := (show rf_go _ _ _ _ _ _ (rf_c t (rd_sk cs n p + 1) (-1) r g) from by have e := rr_need (d := d - 1) (c := 123) (by omega) (by omega) (by omega) (show rf_tx (t) cs n from hx) h4; rw [if_pos h8] at e; exact e)
      have f19 := f6.trans f18
      refine wp_cv (A' := A15) (v := none) rfl rfl rfl rfl rfl (show _ from h4.1) (by omega) (g16) rfl ?_
      show am_wp d 141 (207, [some (.ref (b)), some (.int (Int32.ofNat (128 + mg_ct (mg_k M) i))), some (.int (Int32.ofNat (128 + mg_B M)))], [], A15) _
      refine wp_st 1 (f' := (208, [some (.ref (b)), some (.int (Int32.ofNat (128 + mg_ct (mg_k M) i))), some (.int (Int32.ofNat (128 + mg_B M)))], [.ref (b)], A15)) rfl ?_
      refine rw_gf (v := .int ((-1))) h17 rfl rfl rfl rfl (rfl) rfl ?_
      refine wp_izF rfl rfl (show ¬ ((Int32.ofNat 0) ≤ (-1 : Int32)) from by decide) ?_
      refine wp_st 2 (f' := (216, [some (.ref (b)), some (.int (Int32.ofNat (128 + mg_ct (mg_k M) i))), some (.int (Int32.ofNat (128 + mg_B M)))], [.ref (b), .ref (b)], A15)) rfl ?_
      refine rw_gf (v := .int (Int32.ofNat L)) h17 rfl rfl rfl rfl (h22) rfl ?_
      refine wp_st 2 (f' := (221, [some (.ref (b)), some (.int (Int32.ofNat (128 + mg_ct (mg_k M) i))), some (.int (Int32.ofNat (128 + mg_B M)))], [.int ((Int32.ofNat L) + (Int32.ofNat 1)), .ref (b)], A15)) rfl ?_
      rw [i32_add (L) (1)]
      refine rw_pf (v := .int (Int32.ofNat (L + 1))) h17 rfl rfl rfl rfl rfl rfl (fun A20 h21 f22 => ?_)
      have f23 := f19.trans f22
      rw [rf_c_u (by decide)] at h21
      refine wp_st 1 (f' := (225, [some (.ref (b)), some (.int (Int32.ofNat (128 + mg_ct (mg_k M) i))), some (.int (Int32.ofNat (128 + mg_B M)))], [.ref (b)], A20)) rfl ?_
      refine rw_gr h21 rfl rfl rfl rfl rfl rfl ?_
      refine wp_st 1 (f' := (229, [some (.ref (b)), some (.int (Int32.ofNat (128 + mg_ct (mg_k M) i))), some (.int (Int32.ofNat (128 + mg_B M)))], [.ref (b), .ref (b + 16)], A20)) rfl ?_
      refine rw_gf (v := .int (Int32.ofNat (L + 1))) h21 rfl rfl rfl rfl (rfl) rfl ?_
      refine wp_st 1 (f' := (233, [some (.ref (b)), some (.int (Int32.ofNat (128 + mg_ct (mg_k M) i))), some (.int (Int32.ofNat (128 + mg_B M)))], [.int (Int32.ofNat (128 + mg_ct (mg_k M) i)), .int (Int32.ofNat (L + 1)), .ref (b + 16)], A20)) rfl ?_
      refine rw_as (j := 24) (n := L + 1) (v := .int (Int32.ofNat (128 + mg_ct (mg_k M) i))) h21 rfl rfl rfl (Or.inl ⟨rfl, rfl, rfl⟩) (show _ < 4 from by omega) rfl rfl (fun A24 h25 f26 => ?_)
      have f27 := f23.trans f26
      rw [rf_c_u (by decide)] at h25
      refine wp_st 1 (f' := (235, [some (.ref (b)), some (.int (Int32.ofNat (128 + mg_ct (mg_k M) i))), some (.int (Int32.ofNat (128 + mg_B M)))], [.ref (b)], A24)) rfl ?_
      refine rw_gr h25 rfl rfl rfl rfl rfl rfl ?_
      refine wp_st 1 (f' := (239, [some (.ref (b)), some (.int (Int32.ofNat (128 + mg_ct (mg_k M) i))), some (.int (Int32.ofNat (128 + mg_B M)))], [.ref (b), .ref (b + 17)], A24)) rfl ?_
      refine rw_gf (v := .int (Int32.ofNat (L + 1))) h25 rfl rfl rfl rfl (rfl) rfl ?_
      refine wp_st 1 (f' := (243, [some (.ref (b)), some (.int (Int32.ofNat (128 + mg_ct (mg_k M) i))), some (.int (Int32.ofNat (128 + mg_B M)))], [.int (Int32.ofNat (128 + mg_B M)), .int (Int32.ofNat (L + 1)), .ref (b + 17)], A24)) rfl ?_
      refine rw_as (j := 25) (n := L + 1) (v := .int (Int32.ofNat (128 + mg_B M))) h25 rfl rfl rfl (Or.inl ⟨rfl, rfl, rfl⟩) (show _ < 4 from by omega) rfl rfl (fun A28 h29 f30 => ?_)
      have f31 := f27.trans f30
      rw [rf_c_u (by decide)] at h29
      refine wp_st 1 (f' := (245, [some (.ref (b)), some (.int (Int32.ofNat (128 + mg_ct (mg_k M) i))), some (.int (Int32.ofNat (128 + mg_B M)))], [.ref (b)], A28)) rfl ?_
      refine rw_gr h29 rfl rfl rfl rfl rfl rfl ?_
      refine wp_st 1 (f' := (249, [some (.ref (b)), some (.int (Int32.ofNat (128 + mg_ct (mg_k M) i))), some (.int (Int32.ofNat (128 + mg_B M)))], [.ref (b), .ref (b + 15)], A28)) rfl ?_
      refine rw_gf (v := .int (Int32.ofNat (L + 1))) h29 rfl rfl rfl rfl (rfl) rfl ?_
      refine wp_st 1 (f' := (253, [some (.ref (b)), some (.int (Int32.ofNat (128 + mg_ct (mg_k M) i))), some (.int (Int32.ofNat (128 + mg_B M)))], [.int ((-1)), .int (Int32.ofNat (L + 1)), .ref (b + 15)], A28)) rfl ?_
      refine rw_as (j := 23) (n := L + 1) (v := .int ((-1))) h29 rfl rfl rfl (Or.inl ⟨rfl, rfl, rfl⟩) (show _ < 4 from by omega) rfl rfl (fun A32 h33 f34 => ?_)
      have f35 := f31.trans f34
      rw [rf_c_u (by decide)] at h33
      refine wp_st 1 (f' := (255, [some (.ref (b)), some (.int (Int32.ofNat (128 + mg_ct (mg_k M) i))), some (.int (Int32.ofNat (128 + mg_B M)))], [.ref (b)], A32)) rfl ?_
      refine rw_gr h33 rfl rfl rfl rfl rfl rfl ?_
      refine wp_st 1 (f' := (259, [some (.ref (b)), some (.int (Int32.ofNat (128 + mg_ct (mg_k M) i))), some (.int (Int32.ofNat (128 + mg_B M)))], [.ref (b), .ref (b + 18)], A32)) rfl ?_
      refine rw_gf (v := .int (Int32.ofNat (L + 1))) h33 rfl rfl rfl rfl (rfl) rfl ?_
      refine wp_st 1 (f' := (263, [some (.ref (b)), some (.int (Int32.ofNat (128 + mg_ct (mg_k M) i))), some (.int (Int32.ofNat (128 + mg_B M)))], [.ref (b), .int (Int32.ofNat (L + 1)), .ref (b + 18)], A32)) rfl ?_
      refine rw_gr h33 rfl rfl rfl rfl rfl rfl ?_
      refine wp_st 1 (f' := (267, [some (.ref (b)), some (.int (Int32.ofNat (128 + mg_ct (mg_k M) i))), some (.int (Int32.ofNat (128 + mg_B M)))], [.int (Int32.ofNat (128 + mg_ct (mg_k M) i)), .ref (b + 8), .int (Int32.ofNat (L + 1)), .ref (b + 18)], A32)) rfl ?_
      rcases Decidable.em (mg_k M i = 6) with hk6 | hk6
      · skip
        refine rw_al (j := 10) (n := 128 + mg_ct (mg_k M) i) (v := .int (Int32.ofNat 6)) h33 rfl rfl rfl (Or.inl ⟨rfl, rfl⟩) rfl (show _ < 192 from by omega) (by rw [rf_c_ne (by decide), rf_u_ne (Or.inl (by decide)), rf_u_ne (Or.inl (by decide)), rf_u_ne (Or.inl (by decide)), rf_u_ne (Or.inl (by decide))]; exact h10.trans (by rw [hk6]; rfl)) rfl ?_
        refine wp_st 1 (f' := (270, [some (.ref (b)), some (.int (Int32.ofNat (128 + mg_ct (mg_k M) i))), some (.int (Int32.ofNat (128 + mg_B M)))], [.int (Int32.ofNat 6), .int (Int32.ofNat 6), .int (Int32.ofNat (L + 1)), .ref (b + 18)], A32)) rfl ?_
        refine wp_ifT rfl rfl (show (Int32.ofNat 6) = (Int32.ofNat 6) from by decide) ?_
        refine wp_st 1 (f' := (278, [some (.ref (b)), some (.int (Int32.ofNat (128 + mg_ct (mg_k M) i))), some (.int (Int32.ofNat (128 + mg_B M)))], [.int (Int32.ofNat 0), .int (Int32.ofNat (L + 1)), .ref (b + 18)], A32)) rfl ?_
        refine rw_as (j := 26) (n := L + 1) (v := .int (sb_i false)) h33 rfl rfl rfl (Or.inr (Or.inr ⟨rfl, rfl, rfl⟩)) (show _ < 4 from by omega) (sb_narrow_z false) rfl (fun A36 h37 f38 => ?_)
        have f39 := f35.trans f38
        rw [rf_c_u (by decide)] at h37
        refine wp_rt rfl rfl rfl ?_
        rw [if_pos h8, if_neg (by omega)]
        have hopn := hI.opn (t := rf_u (rf_u (rf_u (rf_u (rf_u t 22 0 (.int (Int32.ofNat (L + 1)))) 24 (L + 1) (.int (Int32.ofNat (128 + mg_ct (mg_k M) i)))) 25 (L + 1) (.int (Int32.ofNat (128 + mg_B M)))) 23 (L + 1) (.int ((-1)))) 26 (L + 1) (.int (sb_i false))) (se := se) hl (by omega) (by omega) h6 (by rw [rf_u_ne (Or.inl (by decide)), rf_u_ne (Or.inl (by decide)), rf_u_ne (Or.inl (by decide)), rf_u_ne (Or.inl (by decide)), rf_u_ne (Or.inl (by decide))]; exact f21) (by simp only [rf_u_if]; simp; exact fsl) (by rw [rf_u_ne (Or.inl (by decide)), rf_u_ne (Or.inl (by decide)), rf_u_ne (Or.inl (by decide)), rf_u_ne (Or.inl (by decide)), rf_u_ne (Or.inl (by decide))]; exact f15) (by rw [rf_u_ne (Or.inl (by decide)), rf_u_ne (Or.inl (by decide)), rf_u_ne (Or.inl (by decide)), rf_u_ne (Or.inl (by decide)), rf_u_ne (Or.inl (by decide))]; exact f16) (by simp only [rf_u_if]; simp) (by simp only [rf_u_if]; simp) (by simp only [rf_u_if]; simp) (by simp only [rf_u_if]; simp) (by simp only [rf_u_if]; simp [hk6]) (fun j q z => by rw [rf_u_ne (Or.inl (by unfold rm_lk at z; split at z <;> omega)), rf_u_ne (Or.inl (by unfold rm_lk at z; split at z <;> omega)), rf_u_ne (Or.inl (by unfold rm_lk at z; split at z <;> omega)), rf_u_ne (Or.inl (by unfold rm_lk at z; split at z <;> omega)), rf_u_ne (Or.inl (by unfold rm_lk at z; split at z <;> omega))]; exact flk j q z) (fun j q z1 z2 z3 z4 => by rw [rf_u_ne (by omega), rf_u_ne (by omega), rf_u_ne (by omega), rf_u_ne (by omega), rf_u_ne (by omega)]; exact fr j q (by omega) z2 z4)
        exact ⟨rfl, _, _, _, h37, hopn.1, hopn.2, (((((hXt.u (by unfold rm_sc; omega)).u (by unfold rm_sc; omega)).u (by unfold rm_sc; omega)).u (by unfold rm_sc; omega)).u (by unfold rm_sc; omega)), f39⟩
      · skip
        refine rw_al (j := 10) (n := 128 + mg_ct (mg_k M) i) (v := .int (rf_so (mg_k M i))) h33 rfl rfl rfl (Or.inl ⟨rfl, rfl⟩) rfl (show _ < 192 from by omega) (by rw [rf_c_ne (by decide), rf_u_ne (Or.inl (by decide)), rf_u_ne (Or.inl (by decide)), rf_u_ne (Or.inl (by decide)), rf_u_ne (Or.inl (by decide))]; exact h10) rfl ?_
        refine wp_st 1 (f' := (270, [some (.ref (b)), some (.int (Int32.ofNat (128 + mg_ct (mg_k M) i))), some (.int (Int32.ofNat (128 + mg_B M)))], [.int (Int32.ofNat 6), .int (rf_so (mg_k M i)), .int (Int32.ofNat (L + 1)), .ref (b + 18)], A32)) rfl ?_
        refine wp_ifF rfl rfl (rf_so_6 hk6 hk8) ?_
        refine wp_st 2 (f' := (278, [some (.ref (b)), some (.int (Int32.ofNat (128 + mg_ct (mg_k M) i))), some (.int (Int32.ofNat (128 + mg_B M)))], [.int (Int32.ofNat 1), .int (Int32.ofNat (L + 1)), .ref (b + 18)], A32)) rfl ?_
        refine rw_as (j := 26) (n := L + 1) (v := .int (sb_i true)) h33 rfl rfl rfl (Or.inr (Or.inr ⟨rfl, rfl, rfl⟩)) (show _ < 4 from by omega) (sb_narrow_z true) rfl (fun A40 h41 f42 => ?_)
        have f43 := f35.trans f42
        rw [rf_c_u (by decide)] at h41
        refine wp_rt rfl rfl rfl ?_
        rw [if_pos h8, if_neg (by omega)]
        have hopn := hI.opn (t := rf_u (rf_u (rf_u (rf_u (rf_u t 22 0 (.int (Int32.ofNat (L + 1)))) 24 (L + 1) (.int (Int32.ofNat (128 + mg_ct (mg_k M) i)))) 25 (L + 1) (.int (Int32.ofNat (128 + mg_B M)))) 23 (L + 1) (.int ((-1)))) 26 (L + 1) (.int (sb_i true))) (se := se) hl (by omega) (by omega) h6 (by rw [rf_u_ne (Or.inl (by decide)), rf_u_ne (Or.inl (by decide)), rf_u_ne (Or.inl (by decide)), rf_u_ne (Or.inl (by decide)), rf_u_ne (Or.inl (by decide))]; exact f21) (by simp only [rf_u_if]; simp; exact fsl) (by rw [rf_u_ne (Or.inl (by decide)), rf_u_ne (Or.inl (by decide)), rf_u_ne (Or.inl (by decide)), rf_u_ne (Or.inl (by decide)), rf_u_ne (Or.inl (by decide))]; exact f15) (by rw [rf_u_ne (Or.inl (by decide)), rf_u_ne (Or.inl (by decide)), rf_u_ne (Or.inl (by decide)), rf_u_ne (Or.inl (by decide)), rf_u_ne (Or.inl (by decide))]; exact f16) (by simp only [rf_u_if]; simp) (by simp only [rf_u_if]; simp) (by simp only [rf_u_if]; simp) (by simp only [rf_u_if]; simp) (by simp only [rf_u_if]; simp [hk6]) (fun j q z => by rw [rf_u_ne (Or.inl (by unfold rm_lk at z; split at z <;> omega)), rf_u_ne (Or.inl (by unfold rm_lk at z; split at z <;> omega)), rf_u_ne (Or.inl (by unfold rm_lk at z; split at z <;> omega)), rf_u_ne (Or.inl (by unfold rm_lk at z; split at z <;> omega)), rf_u_ne (Or.inl (by unfold rm_lk at z; split at z <;> omega))]; exact flk j q z) (fun j q z1 z2 z3 z4 => by rw [rf_u_ne (by omega), rf_u_ne (by omega), rf_u_ne (by omega), rf_u_ne (by omega), rf_u_ne (by omega)]; exact fr j q (by omega) z2 z4)
        exact ⟨rfl, _, _, _, h41, hopn.1, hopn.2, (((((hXt.u (by unfold rm_sc; omega)).u (by unfold rm_sc; omega)).u (by unfold rm_sc; omega)).u (by unfold rm_sc; omega)).u (by unfold rm_sc; omega)), f43⟩
    · skip
      rw [ne_eq, i32_eq (by omega) (by omega)] at h14
      replace h14 := Decidable.not_not.mp h14
      refine wp_st 2 (f' := (195, [some (.ref (b)), some (.int (Int32.ofNat (128 + mg_ct (mg_k M) i))), some (.int (Int32.ofNat (128 + mg_B M)))], [.ref (b), .ref (b)], A2)) rfl ?_
      refine rw_gf (v := .int (Int32.ofNat (rd_sk cs n p))) h4 rfl rfl rfl rfl (rfl) rfl ?_
      obtain ⟨A44, g45, h46, f47⟩ := (show rf_go _ _ _ _ _ _ (rf_c t (rd_sk cs n p) (Int32.ofNat (rd_sk cs n p)) r g) from by have e := rr_fail (d := d - 1) (x := rd_sk cs n p) h4; rw [rf_w_m] at e; exact e)
      have f48 := f6.trans f47
      refine wp_cv (A' := A44) (v := none) rfl rfl rfl rfl rfl (show _ from h4.1) (by omega) (g45) rfl ?_
      show am_wp d 141 (201, [some (.ref (b)), some (.int (Int32.ofNat (128 + mg_ct (mg_k M) i))), some (.int (Int32.ofNat (128 + mg_B M)))], [], A44) _
      refine wp_st 2 (f' := (204, [some (.ref (b)), some (.int (Int32.ofNat (128 + mg_ct (mg_k M) i))), some (.int (Int32.ofNat (128 + mg_B M)))], [.int (Int32.ofNat 123), .ref (b)], A44)) rfl ?_
      have hpp : rd_sk cs n p < n := sb_lk_pos (cs := cs) (by omega)
      obtain ⟨A49, g50, h51, f52⟩ := (show rf_go _ _ _ _ _ _ (rf_c t (rd_sk cs n p + 1) (Int32.ofNat (rd_sk cs n p)) r g) from by have e := rr_need (d := d - 1) (c := 123) (by omega) (by omega) (by omega) (show rf_tx (t) cs n from hx) h46; rw [if_pos h8] at e; exact e)
      have f53 := f48.trans f52
      refine wp_cv (A' := A49) (v := none) rfl rfl rfl rfl rfl (show _ from h46.1) (by omega) (g50) rfl ?_
      show am_wp d 141 (207, [some (.ref (b)), some (.int (Int32.ofNat (128 + mg_ct (mg_k M) i))), some (.int (Int32.ofNat (128 + mg_B M)))], [], A49) _
      refine wp_st 1 (f' := (208, [some (.ref (b)), some (.int (Int32.ofNat (128 + mg_ct (mg_k M) i))), some (.int (Int32.ofNat (128 + mg_B M)))], [.ref (b)], A49)) rfl ?_
      refine rw_gf (v := .int (Int32.ofNat (rd_sk cs n p))) h51 rfl rfl rfl rfl (rfl) rfl ?_
      refine wp_izT rfl rfl (show Int32.ofNat 0 ≤ (Int32.ofNat (rd_sk cs n p)) from Int32.not_lt.mp (Int32.ofNat_not_neg (by omega))) ?_
      refine wp_rt rfl rfl rfl ?_
      rw [if_pos h8, if_pos (by omega)]
      exact ⟨rfl, _, _, _, _, _, _, h51, h22, by omega, by omega, Or.inl ⟨rfl, by omega⟩, hXt, f53⟩
