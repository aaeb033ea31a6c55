/-! The reference reads: look, fail, spaces, need, letters, digits. -/
theorem rr_look {d b n p g k : Nat} {w : Int32} {r : Int64} {cs : List Nat} {s : rf_S} {A : am_H} (hk : k < 100000) (hx : rf_tx s cs n) (h : rf A b (rf_c s p w r g)) : am_go d 124 [.ref b, .int (Int32.ofNat k)] A (.inl (some (.int (Int32.ofNat (sb_lk cs n k)))), A) := by
  obtain ⟨hn, ht, hn1, hc⟩ := hx
  refine wp_go ?_
  refine wp_st 2 (f' := (2, [some (.ref (b)), some (.int (Int32.ofNat k))], [.ref (b), .int (Int32.ofNat k)], A)) rfl ?_
  refine rw_gf (v := .int (Int32.ofNat n)) h rfl rfl rfl rfl (hn) rfl ?_
  refine wp_if rfl rfl rfl (fun (h1 : (Int32.ofNat n) ≤ (Int32.ofNat k)) => ?_) (fun (h1 : ¬ ((Int32.ofNat n) ≤ (Int32.ofNat k))) => ?_)
  · skip
    rw [i32_le (by omega) (by omega)] at h1
    refine wp_st 1 (f' := (18, [some (.ref (b)), some (.int (Int32.ofNat k))], [.int (Int32.ofNat 0)], A)) rfl ?_
    refine wp_rt rfl rfl rfl ?_
    rw [sb_lk, if_neg (by omega)]
  · skip
    rw [i32_le (by omega) (by omega)] at h1
    refine wp_st 1 (f' := (9, [some (.ref (b)), some (.int (Int32.ofNat k))], [.ref (b)], A)) rfl ?_
    refine rw_gr h rfl rfl rfl rfl rfl rfl ?_
    refine wp_st 1 (f' := (13, [some (.ref (b)), some (.int (Int32.ofNat k))], [.int (Int32.ofNat k), .ref (b + 1)], A)) rfl ?_
    refine rw_al (j := 2) (n := k) (v := .int (Int32.ofNat (cs.getD k 0))) h rfl rfl rfl (Or.inl ⟨rfl, rfl⟩) rfl (show _ < 120 from by omega) (ht k (by omega)) rfl ?_
    refine wp_st 1 (f' := (18, [some (.ref (b)), some (.int (Int32.ofNat k))], [.int (Int32.ofNat (cs.getD k 0))], A)) rfl ?_
    refine wp_rt rfl rfl rfl ?_
    rw [sb_lk, if_pos (by omega)]
theorem rr_fail {d b p g x : Nat} {w : Int32} {r : Int64} {s : rf_S} {A : am_H} (h : rf A b (rf_c s p w r g)) : rf_go d 132 [.ref b, .int (Int32.ofNat x)] A b none (rf_c s p (rf_w w x) r g) := by
  refine rf_of ?_
  refine wp_st 2 (f' := (2, [some (.ref (b)), some (.int (Int32.ofNat x))], [.ref (b), .ref (b)], A)) rfl ?_
  refine rw_gf (v := .int (w)) h rfl rfl rfl rfl (rfl) rfl ?_
  refine wp_iz rfl rfl rfl (fun (h1 : (Int32.ofNat 0) ≤ w) => ?_) (fun (h1 : ¬ ((Int32.ofNat 0) ≤ w)) => ?_)
  · skip
    refine wp_st 1 (f' := (13, [some (.ref (b)), some (.int (Int32.ofNat x))], [.ref (b), .ref (b)], A)) rfl ?_
    refine rw_gf (v := .int (w)) h rfl rfl rfl rfl (rfl) rfl ?_
    refine rw_pf (v := .int (w)) h rfl rfl rfl rfl rfl rfl (fun A2 h3 f4 => ?_)
    have f5 := (sb_fr.refl A b (b + 38)).trans f4
    rw [rf_c18] at h3
    refine wp_rt rfl rfl rfl ?_
    rw [rf_w, if_neg (show ¬ w < 0 from Int32.not_lt.mpr h1)]
    exact ⟨rfl, h3, f5⟩
  · skip
    refine wp_st 2 (f' := (16, [some (.ref (b)), some (.int (Int32.ofNat x))], [.int (Int32.ofNat x), .ref (b)], A)) rfl ?_
    refine rw_pf (v := .int (Int32.ofNat x)) h rfl rfl rfl rfl rfl rfl (fun A6 h7 f8 => ?_)
    have f9 := (sb_fr.refl A b (b + 38)).trans f8
    rw [rf_c18] at h7
    refine wp_rt rfl rfl rfl ?_
    rw [rf_w, if_pos (show w < 0 from Int32.not_le.mp h1)]
    exact ⟨rfl, h7, f9⟩
theorem rr_sp_l {d b n e g : Nat} {w : Int32} {r : Int64} {cs : List Nat} {s : rf_S} (hd : 1 ≤ d) (hx : rf_tx s cs n) (he : sb_lk cs n e ≠ 32) (hen : e < 1000) : ∀ (k p : Nat) (A : am_H), e - p = k → p ≤ e → (∀ j, p ≤ j → j < e → sb_lk cs n j = 32) → rf A b (rf_c s p w r g) → am_wp d 129 (0, [some (.ref b)], [], A) (fun q => q.1 = .inl none ∧ rf q.2 b (rf_c s e w r g) ∧ sb_fr A q.2 b (b + 38)) := by
  intro k
  induction k with
  | zero =>
    intro p A h1 h2 h3 h
    obtain rfl : p = e := by omega
    have hlk : sb_lk cs n p < 128 := by unfold sb_lk; split; { have := hx.2.2.2 p (by omega); omega }; omega
    refine wp_st 2 (f' := (2, [some (.ref (b))], [.ref (b), .ref (b)], A)) rfl ?_
    refine rw_gf (v := .int (Int32.ofNat p)) h rfl rfl rfl rfl (rfl) rfl ?_
    refine wp_cv (A' := A) (v := some (.int (Int32.ofNat (sb_lk cs n (p))))) rfl rfl rfl rfl rfl (show _ from h.1) (by omega) (rr_look (by omega) hx h) rfl ?_
    show am_wp d 129 (8, [some (.ref (b))], [.int (Int32.ofNat (sb_lk cs n (p)))], A) _
    refine wp_st 1 (f' := (10, [some (.ref (b))], [.int (Int32.ofNat 32), .int (Int32.ofNat (sb_lk cs n (p)))], A)) rfl ?_
    refine wp_ifT rfl rfl (fun q => absurd ((i32_eq (a := sb_lk cs n (p)) (b := 32) (by omega) (by omega)).mp q) (by omega)) ?_
    refine wp_rt rfl rfl rfl ?_
    exact ⟨rfl, h, (sb_fr.refl A b (b + 38))⟩
  | succ k ih =>
    intro p A h1 h2 h3 h
    have h4 := h3 p (by omega) (by omega)
    refine wp_st 2 (f' := (2, [some (.ref (b))], [.ref (b), .ref (b)], A)) rfl ?_
    refine rw_gf (v := .int (Int32.ofNat p)) h rfl rfl rfl rfl (rfl) rfl ?_
    refine wp_cv (A' := A) (v := some (.int (Int32.ofNat 32))) rfl rfl rfl rfl rfl (show _ from h.1) (by omega) (by have q := rr_look (d := d - 1) (k := p) (by omega) hx h; rw [h4] at q; exact q) rfl ?_
    show am_wp d 129 (8, [some (.ref (b))], [.int (Int32.ofNat 32)], A) _
    refine wp_st 1 (f' := (10, [some (.ref (b))], [.int (Int32.ofNat 32), .int (Int32.ofNat 32)], A)) rfl ?_
    refine wp_ifF rfl rfl (fun q => q ((i32_eq (a := 32) (b := 32) (by omega) (by omega)).mpr (by omega))) ?_
    refine wp_st 2 (f' := (15, [some (.ref (b))], [.ref (b), .ref (b)], A)) rfl ?_
    refine rw_gf (v := .int (Int32.ofNat p)) h rfl rfl rfl rfl (rfl) rfl ?_
    refine wp_st 2 (f' := (20, [some (.ref (b))], [.int ((Int32.ofNat p) + (Int32.ofNat 1)), .ref (b)], A)) rfl ?_
    rw [i32_add (p) (1)]
    refine rw_pf (v := .int (Int32.ofNat (p + 1))) h rfl rfl rfl rfl rfl rfl (fun A1 h2 f3 => ?_)
    have f4 := (sb_fr.refl A b (b + 38)).trans f3
    rw [rf_c17] at h2
    refine wp_st 1 (f' := (0, [some (.ref (b))], [], A1)) rfl ?_
    obtain ⟨q, q1, q2, q3, q4⟩ := ih (p + 1) _ (by omega) (by omega) (fun j j1 j2 => h3 j (by omega) j2) h2
    exact ⟨q, q1, q2, q3, f4.trans q4⟩
theorem rr_spaces {d b n p g : Nat} {w : Int32} {r : Int64} {cs : List Nat} {s : rf_S} {A : am_H} (hd : 1 ≤ d) (hp : p < 500) (hx : rf_tx s cs n) (h : rf A b (rf_c s p w r g)) : rf_go d 129 [.ref b] A b none (rf_c s (sb_re 32 32 cs n p) w r g) := by
  have h5 := sb_re_le (lo := 32) (hi := 32) (cs := cs) (n := n) (a := p)
  have h6 := hx.2.2.1
  have h7 : sb_lk cs n (sb_re 32 32 cs n p) ≠ 32 := fun q => sb_lk_stop (lo := 32) (hi := 32) (cs := cs) (n := n) (a := p) (by omega) ⟨by omega, by omega⟩
  have h8 : sb_re 32 32 cs n p < 1000 := by
    by_cases hpn : p ≤ n
    · have := h5.2.1 hpn
      omega
    · have := h5.2.2 (by omega)
      omega
  refine rf_of ?_
  exact rr_sp_l hd hx h7 h8 _ p A rfl h5.1 (fun j j1 j2 => by have h9 := sb_lk_in (n := n) j1 j2; omega) h
theorem rr_need {d b n p g : Nat} {w : Int32} {r : Int64} {cs : List Nat} {s : rf_S} {A : am_H} {c : Nat} (hd : 1 ≤ d) (hp : p < 500) (hc9 : c < 1000) (hx : rf_tx s cs n) (h : rf A b (rf_c s p w r g)) : rf_go d 138 [.ref b, .int (Int32.ofNat c)] A b none (rf_c s (p + 1) (if sb_lk cs n p = c then w else rf_w w p) r g) := by
  have hlk : sb_lk cs n p < 128 := by unfold sb_lk; split; { have := hx.2.2.2 p (by omega); omega }; omega
  refine rf_of ?_
  refine wp_st 2 (f' := (2, [some (.ref (b)), some (.int (Int32.ofNat c))], [.ref (b), .ref (b)], A)) rfl ?_
  refine rw_gf (v := .int (Int32.ofNat p)) h rfl rfl rfl rfl (rfl) rfl ?_
  refine wp_cv (A' := A) (v := some (.int (Int32.ofNat (sb_lk cs n (p))))) rfl rfl rfl rfl rfl (show _ from h.1) (by omega) (rr_look (by omega) hx h) rfl ?_
  show am_wp d 138 (8, [some (.ref (b)), some (.int (Int32.ofNat c))], [.int (Int32.ofNat (sb_lk cs n (p)))], A) _
  refine wp_st 1 (f' := (9, [some (.ref (b)), some (.int (Int32.ofNat c))], [.int (Int32.ofNat c), .int (Int32.ofNat (sb_lk cs n (p)))], A)) rfl ?_
  refine wp_if rfl rfl rfl (fun (h1 : (Int32.ofNat (sb_lk cs n (p))) = (Int32.ofNat c)) => ?_) (fun (h1 : ¬ ((Int32.ofNat (sb_lk cs n (p))) = (Int32.ofNat c))) => ?_)
  · skip
    rw [i32_eq (by omega) (by omega)] at h1
    refine wp_st 2 (f' := (22, [some (.ref (b)), some (.int (Int32.ofNat c))], [.ref (b), .ref (b)], A)) rfl ?_
    refine rw_gf (v := .int (Int32.ofNat p)) h rfl rfl rfl rfl (rfl) rfl ?_
    refine wp_st 2 (f' := (27, [some (.ref (b)), some (.int (Int32.ofNat c))], [.int ((Int32.ofNat p) + (Int32.ofNat 1)), .ref (b)], A)) rfl ?_
    rw [i32_add (p) (1)]
    refine rw_pf (v := .int (Int32.ofNat (p + 1))) h rfl rfl rfl rfl rfl rfl (fun A2 h3 f4 => ?_)
    have f5 := (sb_fr.refl A b (b + 38)).trans f4
    rw [rf_c17] at h3
    refine wp_rt rfl rfl rfl ?_
    rw [if_pos h1]
    exact ⟨rfl, h3, f5⟩
  · skip
    rw [i32_eq (by omega) (by omega)] at h1
    refine wp_st 2 (f' := (14, [some (.ref (b)), some (.int (Int32.ofNat c))], [.ref (b), .ref (b)], A)) rfl ?_
    refine rw_gf (v := .int (Int32.ofNat p)) h rfl rfl rfl rfl (rfl) rfl ?_
    obtain ⟨A6, g7, h8, f9⟩ := rr_fail (d := d - 1) (x := p) h
    have f10 := (sb_fr.refl A b (b + 38)).trans f9
    refine wp_cv (A' := A6) (v := none) rfl rfl rfl rfl rfl (show _ from h.1) (by omega) (g7) rfl ?_
    show am_wp d 138 (20, [some (.ref (b)), some (.int (Int32.ofNat c))], [], A6) _
    refine wp_st 2 (f' := (22, [some (.ref (b)), some (.int (Int32.ofNat c))], [.ref (b), .ref (b)], A6)) rfl ?_
    refine rw_gf (v := .int (Int32.ofNat p)) h8 rfl rfl rfl rfl (rfl) rfl ?_
    refine wp_st 2 (f' := (27, [some (.ref (b)), some (.int (Int32.ofNat c))], [.int ((Int32.ofNat p) + (Int32.ofNat 1)), .ref (b)], A6)) rfl ?_
    rw [i32_add (p) (1)]
    refine rw_pf (v := .int (Int32.ofNat (p + 1))) h8 rfl rfl rfl rfl rfl rfl (fun A11 h12 f13 => ?_)
    have f14 := f10.trans f13
    rw [rf_c17] at h12
    refine wp_rt rfl rfl rfl ?_
    rw [if_neg h1]
    exact ⟨rfl, h12, f14⟩
theorem rr_let_l {d b n g many e : Nat} {w : Int32} {cs : List Nat} {s : rf_S} (hd : 1 ≤ d) (hx : rf_tx s cs n) (he : e = sb_re 97 122 cs n g) (hg : g < 500) (hm : many < 1000) : ∀ (k i : Nat) (A : am_H), e - (g + i) = k → g + i ≤ e → rf A b (rf_c s (g + i) (rf_wi w g many i) (rf_rw cs g i) g) → am_wp d 130 (13, [some (.ref b), some (.int (Int32.ofNat many))], [], A) (fun q => q.1 = .inl none ∧ rf q.2 b (rf_c s e (rf_wl w g many (e - g)) (rf_rw cs g (e - g)) g) ∧ sb_fr A q.2 b (b + 38)) := by
  have hle := sb_re_le (lo := 97) (hi := 122) (cs := cs) (n := n) (a := g)
  have hn1 := hx.2.2.1
  have hen : e < 1000 := by
    rw [he]
    by_cases hpn : g ≤ n
    · have := hle.2.1 hpn
      omega
    · have := hle.2.2 (by omega)
      omega
  have hlt : ∀ j, sb_lk cs n j < 128 := by
    intro j
    unfold sb_lk
    split
    · have := hx.2.2.2 j (by omega)
      omega
    · omega
  intro k
  induction k with
  | zero =>
    intro i A h1 h2 h
    obtain ⟨rfl⟩ : e = g + i := by omega
    have hst := sb_lk_stop (lo := 97) (hi := 122) (cs := cs) (n := n) (a := g) (by omega)
    rw [← he] at hst
    have hr0 := sb_rng_f (x := sb_lk cs n (g + i)) hst (by have := hlt (g + i); omega) (by omega) (by omega)
    refine wp_st 2 (f' := (15, [some (.ref (b)), some (.int (Int32.ofNat many))], [.ref (b), .ref (b)], A)) rfl ?_
    refine rw_gf (v := .int (Int32.ofNat (g + i))) h rfl rfl rfl rfl (rfl) rfl ?_
    refine wp_cv (A' := A) (v := some (.int (Int32.ofNat (sb_lk cs n (g + i))))) rfl rfl rfl rfl rfl (show _ from h.1) (by omega) (rr_look (by omega) hx h) rfl ?_
    show am_wp d 130 (21, [some (.ref (b)), some (.int (Int32.ofNat many))], [.int (Int32.ofNat (sb_lk cs n (g + i)))], A) _
    refine wp_cs (n := 0) (A' := A) (v := some (.int (Int32.ofNat 0))) rfl rfl rfl (by omega) (by have q := lt_go (d := d - 1) (x := Int32.ofNat (sb_lk cs n (g + i))) (A := A); rw [hr0] at q; exact q) rfl ?_
    show am_wp d 130 (24, [some (.ref (b)), some (.int (Int32.ofNat many))], [.int (Int32.ofNat 0)], A) _
    refine wp_izT rfl (show am_tgt 24 (85) = 109 by decide +kernel) ((i32_eq (a := 0) (b := 0) (by omega) (by omega)).mpr (by omega)) ?_
    refine wp_st 1 (f' := (110, [some (.ref (b)), some (.int (Int32.ofNat many))], [.ref (b)], A)) rfl ?_
    refine rw_gf (v := .int (Int32.ofNat (g + i))) h rfl rfl rfl rfl (rfl) rfl ?_
    refine wp_st 1 (f' := (114, [some (.ref (b)), some (.int (Int32.ofNat many))], [.ref (b), .int (Int32.ofNat (g + i))], A)) rfl ?_
    refine rw_gf (v := .int (Int32.ofNat g)) h rfl rfl rfl rfl (rfl) rfl ?_
    refine wp_if rfl rfl rfl (fun (h1 : (Int32.ofNat (g + i)) ≠ (Int32.ofNat g)) => ?_) (fun (h1 : ¬ ((Int32.ofNat (g + i)) ≠ (Int32.ofNat g))) => ?_)
    · skip
      rw [ne_eq, i32_eq (by omega) (by omega)] at h1
      refine wp_rt rfl rfl rfl ?_
      rw [show g + i - g = i by omega, rf_wl_s (i := i) (by omega)]
      exact ⟨rfl, h, (sb_fr.refl A b (b + 38))⟩
    · skip
      rw [ne_eq, i32_eq (by omega) (by omega)] at h1
      replace h1 := Decidable.not_not.mp h1
      refine wp_st 2 (f' := (122, [some (.ref (b)), some (.int (Int32.ofNat many))], [.ref (b), .ref (b)], A)) rfl ?_
      refine rw_gf (v := .int (Int32.ofNat (g + i))) h rfl rfl rfl rfl (rfl) rfl ?_
      obtain ⟨A2, g3, h4, f5⟩ := rr_fail (d := d - 1) (x := g + i) h
      have f6 := (sb_fr.refl A b (b + 38)).trans f5
      refine wp_cv (A' := A2) (v := none) rfl rfl rfl rfl rfl (show _ from h.1) (by omega) (g3) rfl ?_
      show am_wp d 130 (128, [some (.ref (b)), some (.int (Int32.ofNat many))], [], A2) _
      refine wp_rt rfl rfl rfl ?_
      rw [show g + i - g = i by omega, rf_wl_0 (i := i) (by omega)]
      exact ⟨rfl, h4, f6⟩
  | succ k ih =>
    intro i A h1 h2 h
    have hin := sb_lk_in (lo := 97) (hi := 122) (cs := cs) (n := n) (a := g) (j := g + i) (by omega) (by omega)
    have hr1 := sb_rng_t (lo := 97) (hi := 122) (x := cs.getD (g + i) 0) (by omega) (by omega) (by omega)
    refine wp_st 2 (f' := (15, [some (.ref (b)), some (.int (Int32.ofNat many))], [.ref (b), .ref (b)], A)) rfl ?_
    refine rw_gf (v := .int (Int32.ofNat (g + i))) h rfl rfl rfl rfl (rfl) rfl ?_
    refine wp_cv (A' := A) (v := some (.int (Int32.ofNat (cs.getD (g + i) 0)))) rfl rfl rfl rfl rfl (show _ from h.1) (by omega) (by have q := rr_look (d := d - 1) (k := g + i) (by omega) hx h; rw [hin.2.1] at q; exact q) rfl ?_
    show am_wp d 130 (21, [some (.ref (b)), some (.int (Int32.ofNat many))], [.int (Int32.ofNat (cs.getD (g + i) 0))], A) _
    refine wp_cs (n := 0) (A' := A) (v := some (.int (Int32.ofNat 1))) rfl rfl rfl (by omega) (by have q := lt_go (d := d - 1) (x := Int32.ofNat (cs.getD (g + i) 0)) (A := A); rw [hr1] at q; exact q) rfl ?_
    show am_wp d 130 (24, [some (.ref (b)), some (.int (Int32.ofNat many))], [.int (Int32.ofNat 1)], A) _
    refine wp_izF rfl rfl (fun q => absurd ((i32_eq (a := 1) (b := 0) (by omega) (by omega)).mp q) (by omega)) ?_
    refine wp_st 2 (f' := (29, [some (.ref (b)), some (.int (Int32.ofNat many))], [.ref (b), .ref (b)], A)) rfl ?_
    refine rw_gf (v := .int (Int32.ofNat (g + i))) h rfl rfl rfl rfl (rfl) rfl ?_
    refine wp_st 1 (f' := (33, [some (.ref (b)), some (.int (Int32.ofNat many))], [.ref (b), .int (Int32.ofNat (g + i)), .ref (b)], A)) rfl ?_
    refine rw_gf (v := .int (Int32.ofNat g)) h rfl rfl rfl rfl (rfl) rfl ?_
    refine wp_st 1 (f' := (37, [some (.ref (b)), some (.int (Int32.ofNat many))], [.int ((Int32.ofNat (g + i)) - (Int32.ofNat g)), .ref (b)], A)) rfl ?_
    rw [i32_sub (a := g + i) (b := g) (by omega)]
    refine wp_st 1 (f' := (39, [some (.ref (b)), some (.int (Int32.ofNat many))], [.int (Int32.ofNat 12), .int (Int32.ofNat ((g + i) - g)), .ref (b)], A)) rfl ?_
    refine wp_if rfl rfl rfl (fun (h1 : (Int32.ofNat 12) ≤ (Int32.ofNat ((g + i) - g))) => ?_) (fun (h1 : ¬ ((Int32.ofNat 12) ≤ (Int32.ofNat ((g + i) - g)))) => ?_)
    · skip
      rw [i32_le (by omega) (by omega)] at h1
      refine wp_st 1 (f' := (72, [some (.ref (b)), some (.int (Int32.ofNat many))], [.long ((-1)), .ref (b)], A)) rfl ?_
      refine rw_pf (v := .long ((-1))) h rfl rfl rfl rfl rfl rfl (fun A2 h3 f4 => ?_)
      have f5 := (sb_fr.refl A b (b + 38)).trans f4
      rw [rf_c28] at h3
      refine wp_st 1 (f' := (76, [some (.ref (b)), some (.int (Int32.ofNat many))], [.ref (b)], A2)) rfl ?_
      refine rw_gf (v := .int (Int32.ofNat (g + i))) h3 rfl rfl rfl rfl (rfl) rfl ?_
      refine wp_st 1 (f' := (80, [some (.ref (b)), some (.int (Int32.ofNat many))], [.ref (b), .int (Int32.ofNat (g + i))], A2)) rfl ?_
      refine rw_gf (v := .int (Int32.ofNat g)) h3 rfl rfl rfl rfl (rfl) rfl ?_
      refine wp_st 1 (f' := (84, [some (.ref (b)), some (.int (Int32.ofNat many))], [.int ((Int32.ofNat (g + i)) - (Int32.ofNat g))], A2)) rfl ?_
      rw [i32_sub (a := g + i) (b := g) (by omega)]
      refine wp_st 1 (f' := (85, [some (.ref (b)), some (.int (Int32.ofNat many))], [.int (Int32.ofNat many), .int (Int32.ofNat ((g + i) - g))], A2)) rfl ?_
      refine wp_if rfl rfl rfl (fun (h6 : (Int32.ofNat ((g + i) - g)) ≠ (Int32.ofNat many)) => ?_) (fun (h6 : ¬ ((Int32.ofNat ((g + i) - g)) ≠ (Int32.ofNat many))) => ?_)
      · skip
        rw [ne_eq, i32_eq (by omega) (by omega)] at h6
        refine wp_st 2 (f' := (98, [some (.ref (b)), some (.int (Int32.ofNat many))], [.ref (b), .ref (b)], A2)) rfl ?_
        refine rw_gf (v := .int (Int32.ofNat (g + i))) h3 rfl rfl rfl rfl (rfl) rfl ?_
        refine wp_st 2 (f' := (103, [some (.ref (b)), some (.int (Int32.ofNat many))], [.int ((Int32.ofNat (g + i)) + (Int32.ofNat 1)), .ref (b)], A2)) rfl ?_
        rw [i32_add (g + i) (1)]
        refine rw_pf (v := .int (Int32.ofNat (g + i + 1))) h3 rfl rfl rfl rfl rfl rfl (fun A7 h8 f9 => ?_)
        have f10 := f5.trans f9
        rw [rf_c17] at h8
        refine wp_gt rfl (show am_tgt 106 (-93) = 13 by decide +kernel) ?_
        have hw : rf_wi w g many i = rf_wi w g many (i + 1) := (rf_wi_s (by omega)).symm
        rw [hw] at h8
        rw [show (-1 : Int64) = rf_rw cs g (i + 1) from (rf_rw_m (by omega)).symm] at h8
        obtain ⟨q, q1, q2, q3, q4⟩ := ih (i + 1) _ (by omega) (by omega) h8
        exact ⟨q, q1, q2, q3, f10.trans q4⟩
      · skip
        rw [ne_eq, i32_eq (by omega) (by omega)] at h6
        replace h6 := Decidable.not_not.mp h6
        refine wp_st 2 (f' := (90, [some (.ref (b)), some (.int (Int32.ofNat many))], [.ref (b), .ref (b)], A2)) rfl ?_
        refine rw_gf (v := .int (Int32.ofNat (g + i))) h3 rfl rfl rfl rfl (rfl) rfl ?_
        obtain ⟨A11, g12, h13, f14⟩ := rr_fail (d := d - 1) (x := g + i) h3
        have f15 := f5.trans f14
        refine wp_cv (A' := A11) (v := none) rfl rfl rfl rfl rfl (show _ from h3.1) (by omega) (g12) rfl ?_
        show am_wp d 130 (96, [some (.ref (b)), some (.int (Int32.ofNat many))], [], A11) _
        refine wp_st 2 (f' := (98, [some (.ref (b)), some (.int (Int32.ofNat many))], [.ref (b), .ref (b)], A11)) rfl ?_
        refine rw_gf (v := .int (Int32.ofNat (g + i))) h13 rfl rfl rfl rfl (rfl) rfl ?_
        refine wp_st 2 (f' := (103, [some (.ref (b)), some (.int (Int32.ofNat many))], [.int ((Int32.ofNat (g + i)) + (Int32.ofNat 1)), .ref (b)], A11)) rfl ?_
        rw [i32_add (g + i) (1)]
        refine rw_pf (v := .int (Int32.ofNat (g + i + 1))) h13 rfl rfl rfl rfl rfl rfl (fun A16 h17 f18 => ?_)
        have f19 := f15.trans f18
        rw [rf_c17] at h17
        refine wp_gt rfl (show am_tgt 106 (-93) = 13 by decide +kernel) ?_
        have hw : rf_w (rf_wi w g many i) (g + i) = rf_wi w g many (i + 1) := by
          obtain rfl : i = many := by omega
          exact rf_wi_e
        rw [hw] at h17
        rw [show (-1 : Int64) = rf_rw cs g (i + 1) from (rf_rw_m (by omega)).symm] at h17
        obtain ⟨q, q1, q2, q3, q4⟩ := ih (i + 1) _ (by omega) (by omega) h17
        exact ⟨q, q1, q2, q3, f19.trans q4⟩
    · skip
      rw [i32_le (by omega) (by omega)] at h1
      refine wp_st 2 (f' := (46, [some (.ref (b)), some (.int (Int32.ofNat many))], [.ref (b), .long ((32)), .ref (b)], A)) rfl ?_
      refine rw_gf (v := .long (rf_rw cs g i)) h rfl rfl rfl rfl (rfl) rfl ?_
      refine wp_st 3 (f' := (52, [some (.ref (b)), some (.int (Int32.ofNat many))], [.ref (b), .ref (b), .long ((32) * (rf_rw cs g i)), .ref (b)], A)) rfl ?_
      refine rw_gf (v := .int (Int32.ofNat (g + i))) h rfl rfl rfl rfl (rfl) rfl ?_
      refine wp_cv (A' := A) (v := some (.int (Int32.ofNat (cs.getD (g + i) 0)))) rfl rfl rfl rfl rfl (show _ from h.1) (by omega) (by have q := rr_look (d := d - 1) (k := g + i) (by omega) hx h; rw [hin.2.1] at q; exact q) rfl ?_
      show am_wp d 130 (58, [some (.ref (b)), some (.int (Int32.ofNat many))], [.int (Int32.ofNat (cs.getD (g + i) 0)), .long ((32) * (rf_rw cs g i)), .ref (b)], A) _
      refine wp_st 6 (f' := (66, [some (.ref (b)), some (.int (Int32.ofNat many))], [.long (((((32) * (rf_rw cs g i)) + ((Int32.ofNat (cs.getD (g + i) 0)).toInt64)) - (97)) + (Int64.ofNat 1)), .ref (b)], A)) rfl ?_
      rw [rf_rw_s (by omega) (by omega) (by omega)]
      refine wp_st 1 (f' := (72, [some (.ref (b)), some (.int (Int32.ofNat many))], [.long (rf_rw cs g (i + 1)), .ref (b)], A)) rfl ?_
      refine rw_pf (v := .long (rf_rw cs g (i + 1))) h rfl rfl rfl rfl rfl rfl (fun A20 h21 f22 => ?_)
      have f23 := (sb_fr.refl A b (b + 38)).trans f22
      rw [rf_c28] at h21
      refine wp_st 1 (f' := (76, [some (.ref (b)), some (.int (Int32.ofNat many))], [.ref (b)], A20)) rfl ?_
      refine rw_gf (v := .int (Int32.ofNat (g + i))) h21 rfl rfl rfl rfl (rfl) rfl ?_
      refine wp_st 1 (f' := (80, [some (.ref (b)), some (.int (Int32.ofNat many))], [.ref (b), .int (Int32.ofNat (g + i))], A20)) rfl ?_
      refine rw_gf (v := .int (Int32.ofNat g)) h21 rfl rfl rfl rfl (rfl) rfl ?_
      refine wp_st 1 (f' := (84, [some (.ref (b)), some (.int (Int32.ofNat many))], [.int ((Int32.ofNat (g + i)) - (Int32.ofNat g))], A20)) rfl ?_
      rw [i32_sub (a := g + i) (b := g) (by omega)]
      refine wp_st 1 (f' := (85, [some (.ref (b)), some (.int (Int32.ofNat many))], [.int (Int32.ofNat many), .int (Int32.ofNat ((g + i) - g))], A20)) rfl ?_
      refine wp_if rfl rfl rfl (fun (h24 : (Int32.ofNat ((g + i) - g)) ≠ (Int32.ofNat many)) => ?_) (fun (h24 : ¬ ((Int32.ofNat ((g + i) - g)) ≠ (Int32.ofNat many))) => ?_)
      · skip
        rw [ne_eq, i32_eq (by omega) (by omega)] at h24
        refine wp_st 2 (f' := (98, [some (.ref (b)), some (.int (Int32.ofNat many))], [.ref (b), .ref (b)], A20)) rfl ?_
        refine rw_gf (v := .int (Int32.ofNat (g + i))) h21 rfl rfl rfl rfl (rfl) rfl ?_
        refine wp_st 2 (f' := (103, [some (.ref (b)), some (.int (Int32.ofNat many))], [.int ((Int32.ofNat (g + i)) + (Int32.ofNat 1)), .ref (b)], A20)) rfl ?_
        rw [i32_add (g + i) (1)]
        refine rw_pf (v := .int (Int32.ofNat (g + i + 1))) h21 rfl rfl rfl rfl rfl rfl (fun A25 h26 f27 => ?_)
        have f28 := f23.trans f27
        rw [rf_c17] at h26
        refine wp_gt rfl (show am_tgt 106 (-93) = 13 by decide +kernel) ?_
        have hw : rf_wi w g many i = rf_wi w g many (i + 1) := (rf_wi_s (by omega)).symm
        rw [hw] at h26
        obtain ⟨q, q1, q2, q3, q4⟩ := ih (i + 1) _ (by omega) (by omega) h26
        exact ⟨q, q1, q2, q3, f28.trans q4⟩
      · skip
        rw [ne_eq, i32_eq (by omega) (by omega)] at h24
        replace h24 := Decidable.not_not.mp h24
        refine wp_st 2 (f' := (90, [some (.ref (b)), some (.int (Int32.ofNat many))], [.ref (b), .ref (b)], A20)) rfl ?_
        refine rw_gf (v := .int (Int32.ofNat (g + i))) h21 rfl rfl rfl rfl (rfl) rfl ?_
        obtain ⟨A29, g30, h31, f32⟩ := rr_fail (d := d - 1) (x := g + i) h21
        have f33 := f23.trans f32
        refine wp_cv (A' := A29) (v := none) rfl rfl rfl rfl rfl (show _ from h21.1) (by omega) (g30) rfl ?_
        show am_wp d 130 (96, [some (.ref (b)), some (.int (Int32.ofNat many))], [], A29) _
        refine wp_st 2 (f' := (98, [some (.ref (b)), some (.int (Int32.ofNat many))], [.ref (b), .ref (b)], A29)) rfl ?_
        refine rw_gf (v := .int (Int32.ofNat (g + i))) h31 rfl rfl rfl rfl (rfl) rfl ?_
        refine wp_st 2 (f' := (103, [some (.ref (b)), some (.int (Int32.ofNat many))], [.int ((Int32.ofNat (g + i)) + (Int32.ofNat 1)), .ref (b)], A29)) rfl ?_
        rw [i32_add (g + i) (1)]
        refine rw_pf (v := .int (Int32.ofNat (g + i + 1))) h31 rfl rfl rfl rfl rfl rfl (fun A34 h35 f36 => ?_)
        have f37 := f33.trans f36
        rw [rf_c17] at h35
        refine wp_gt rfl (show am_tgt 106 (-93) = 13 by decide +kernel) ?_
        have hw : rf_w (rf_wi w g many i) (g + i) = rf_wi w g many (i + 1) := by
          obtain rfl : i = many := by omega
          exact rf_wi_e
        rw [hw] at h35
        obtain ⟨q, q1, q2, q3, q4⟩ := ih (i + 1) _ (by omega) (by omega) h35
        exact ⟨q, q1, q2, q3, f37.trans q4⟩
theorem rr_let {d b n p g : Nat} {w : Int32} {r : Int64} {cs : List Nat} {s : rf_S} {A : am_H} {many : Nat} (hm : many < 1000) (hd : 1 ≤ d) (hp : p < 500) (hx : rf_tx s cs n) (h : rf A b (rf_c s p w r g)) : rf_go d 130 [.ref b, .int (Int32.ofNat many)] A b none (rf_c s (sb_re 97 122 cs n p) (rf_wl w p many ((sb_re 97 122 cs n p) - p)) (rf_rw cs p ((sb_re 97 122 cs n p) - p)) p) := by
  refine rf_of ?_
  refine wp_st 2 (f' := (2, [some (.ref (b)), some (.int (Int32.ofNat many))], [.ref (b), .ref (b)], A)) rfl ?_
  refine rw_gf (v := .int (Int32.ofNat p)) h rfl rfl rfl rfl (rfl) rfl ?_
  refine rw_pf (v := .int (Int32.ofNat p)) h rfl rfl rfl rfl rfl rfl (fun A1 h2 f3 => ?_)
  have f4 := (sb_fr.refl A b (b + 38)).trans f3
  rw [rf_c29] at h2
  refine wp_st 2 (f' := (10, [some (.ref (b)), some (.int (Int32.ofNat many))], [.long (Int64.ofNat 0), .ref (b)], A1)) rfl ?_
  refine rw_pf (v := .long (Int64.ofNat 0)) h2 rfl rfl rfl rfl rfl rfl (fun A5 h6 f7 => ?_)
  have f8 := f4.trans f7
  rw [rf_c28] at h6
  obtain ⟨q, q1, q2, q3, q4⟩ := rr_let_l (w := w) (many := many) hd hx rfl hp hm (sb_re 97 122 cs n p - p) 0 _ (by omega) (by have := sb_re_le (lo := 97) (hi := 122) (cs := cs) (n := n) (a := p); omega) (by rw [rf_wi0, rf_rw_0]; exact h6)
  exact ⟨q, q1, q2, q3, f8.trans q4⟩
theorem rr_dig_l {d b n g e : Nat} {w : Int32} {cs : List Nat} {s : rf_S} (hd : 1 ≤ d) (hx : rf_tx s cs n) (he : e = sb_re 48 57 cs n g) (hg : g < 500) : ∀ (k i : Nat) (A : am_H), e - (g + i) = k → g + i ≤ e → rf A b (rf_c s (g + i) (rf_wi w g 4 i) (rf_nr cs g i) g) → am_wp d 144 (13, [some (.ref b)], [], A) (fun q => q.1 = .inl none ∧ rf q.2 b (rf_c s e (rf_wl w g 4 (e - g)) (rf_nr cs g (e - g)) g) ∧ sb_fr A q.2 b (b + 38)) := by
  have hle := sb_re_le (lo := 48) (hi := 57) (cs := cs) (n := n) (a := g)
  have hn1 := hx.2.2.1
  have hen : e < 1000 := by
    rw [he]
    by_cases hpn : g ≤ n
    · have := hle.2.1 hpn
      omega
    · have := hle.2.2 (by omega)
      omega
  have hlt : ∀ j, sb_lk cs n j < 128 := by
    intro j
    unfold sb_lk
    split
    · have := hx.2.2.2 j (by omega)
      omega
    · omega
  intro k
  induction k with
  | zero =>
    intro i A h1 h2 h
    obtain ⟨rfl⟩ : e = g + i := by omega
    have hst := sb_lk_stop (lo := 48) (hi := 57) (cs := cs) (n := n) (a := g) (by omega)
    rw [← he] at hst
    have hr0 := sb_rng_f (x := sb_lk cs n (g + i)) hst (by have := hlt (g + i); omega) (by omega) (by omega)
    refine wp_st 2 (f' := (15, [some (.ref (b))], [.ref (b), .ref (b)], A)) rfl ?_
    refine rw_gf (v := .int (Int32.ofNat (g + i))) h rfl rfl rfl rfl (rfl) rfl ?_
    refine wp_cv (A' := A) (v := some (.int (Int32.ofNat (sb_lk cs n (g + i))))) rfl rfl rfl rfl rfl (show _ from h.1) (by omega) (rr_look (by omega) hx h) rfl ?_
    show am_wp d 144 (21, [some (.ref (b))], [.int (Int32.ofNat (sb_lk cs n (g + i)))], A) _
    refine wp_cs (n := 0) (A' := A) (v := some (.int (Int32.ofNat 0))) rfl rfl rfl (by omega) (by have q := dg_go (d := d - 1) (x := Int32.ofNat (sb_lk cs n (g + i))) (A := A); rw [hr0] at q; exact q) rfl ?_
    show am_wp d 144 (24, [some (.ref (b))], [.int (Int32.ofNat 0)], A) _
    refine wp_izT rfl (show am_tgt 24 (83) = 107 by decide +kernel) ((i32_eq (a := 0) (b := 0) (by omega) (by omega)).mpr (by omega)) ?_
    refine wp_st 1 (f' := (108, [some (.ref (b))], [.ref (b)], A)) rfl ?_
    refine rw_gf (v := .int (Int32.ofNat (g + i))) h rfl rfl rfl rfl (rfl) rfl ?_
    refine wp_st 1 (f' := (112, [some (.ref (b))], [.ref (b), .int (Int32.ofNat (g + i))], A)) rfl ?_
    refine rw_gf (v := .int (Int32.ofNat g)) h rfl rfl rfl rfl (rfl) rfl ?_
    refine wp_if rfl rfl rfl (fun (h1 : (Int32.ofNat (g + i)) ≠ (Int32.ofNat g)) => ?_) (fun (h1 : ¬ ((Int32.ofNat (g + i)) ≠ (Int32.ofNat g))) => ?_)
    · skip
      rw [ne_eq, i32_eq (by omega) (by omega)] at h1
      refine wp_rt rfl rfl rfl ?_
      rw [show g + i - g = i by omega, rf_wl_s (i := i) (by omega)]
      exact ⟨rfl, h, (sb_fr.refl A b (b + 38))⟩
    · skip
      rw [ne_eq, i32_eq (by omega) (by omega)] at h1
      replace h1 := Decidable.not_not.mp h1
      refine wp_st 2 (f' := (120, [some (.ref (b))], [.ref (b), .ref (b)], A)) rfl ?_
      refine rw_gf (v := .int (Int32.ofNat (g + i))) h rfl rfl rfl rfl (rfl) rfl ?_
      obtain ⟨A2, g3, h4, f5⟩ := rr_fail (d := d - 1) (x := g + i) h
      have f6 := (sb_fr.refl A b (b + 38)).trans f5
      refine wp_cv (A' := A2) (v := none) rfl rfl rfl rfl rfl (show _ from h.1) (by omega) (g3) rfl ?_
      show am_wp d 144 (126, [some (.ref (b))], [], A2) _
      refine wp_rt rfl rfl rfl ?_
      rw [show g + i - g = i by omega, rf_wl_0 (i := i) (by omega)]
      exact ⟨rfl, h4, f6⟩
  | succ k ih =>
    intro i A h1 h2 h
    have hin := sb_lk_in (lo := 48) (hi := 57) (cs := cs) (n := n) (a := g) (j := g + i) (by omega) (by omega)
    have hr1 := sb_rng_t (lo := 48) (hi := 57) (x := cs.getD (g + i) 0) (by omega) (by omega) (by omega)
    refine wp_st 2 (f' := (15, [some (.ref (b))], [.ref (b), .ref (b)], A)) rfl ?_
    refine rw_gf (v := .int (Int32.ofNat (g + i))) h rfl rfl rfl rfl (rfl) rfl ?_
    refine wp_cv (A' := A) (v := some (.int (Int32.ofNat (cs.getD (g + i) 0)))) rfl rfl rfl rfl rfl (show _ from h.1) (by omega) (by have q := rr_look (d := d - 1) (k := g + i) (by omega) hx h; rw [hin.2.1] at q; exact q) rfl ?_
    show am_wp d 144 (21, [some (.ref (b))], [.int (Int32.ofNat (cs.getD (g + i) 0))], A) _
    refine wp_cs (n := 0) (A' := A) (v := some (.int (Int32.ofNat 1))) rfl rfl rfl (by omega) (by have q := dg_go (d := d - 1) (x := Int32.ofNat (cs.getD (g + i) 0)) (A := A); rw [hr1] at q; exact q) rfl ?_
    show am_wp d 144 (24, [some (.ref (b))], [.int (Int32.ofNat 1)], A) _
    refine wp_izF rfl rfl (fun q => absurd ((i32_eq (a := 1) (b := 0) (by omega) (by omega)).mp q) (by omega)) ?_
    refine wp_st 1 (f' := (28, [some (.ref (b))], [.ref (b)], A)) rfl ?_
    refine rw_gf (v := .int (Int32.ofNat (g + i))) h rfl rfl rfl rfl (rfl) rfl ?_
    refine wp_st 1 (f' := (32, [some (.ref (b))], [.ref (b), .int (Int32.ofNat (g + i))], A)) rfl ?_
    refine rw_gf (v := .int (Int32.ofNat g)) h rfl rfl rfl rfl (rfl) rfl ?_
    refine wp_st 1 (f' := (36, [some (.ref (b))], [.int ((Int32.ofNat (g + i)) - (Int32.ofNat g))], A)) rfl ?_
    rw [i32_sub (a := g + i) (b := g) (by omega)]
    refine wp_st 1 (f' := (37, [some (.ref (b))], [.int (Int32.ofNat 4), .int (Int32.ofNat ((g + i) - g))], A)) rfl ?_
    refine wp_if rfl rfl rfl (fun (h1 : (Int32.ofNat ((g + i) - g)) ≠ (Int32.ofNat 4)) => ?_) (fun (h1 : ¬ ((Int32.ofNat ((g + i) - g)) ≠ (Int32.ofNat 4))) => ?_)
    · skip
      rw [ne_eq, i32_eq (by omega) (by omega)] at h1
      refine wp_st 2 (f' := (50, [some (.ref (b))], [.ref (b), .ref (b)], A)) rfl ?_
      refine rw_gf (v := .int (Int32.ofNat (g + i))) h rfl rfl rfl rfl (rfl) rfl ?_
      refine wp_st 1 (f' := (54, [some (.ref (b))], [.ref (b), .int (Int32.ofNat (g + i)), .ref (b)], A)) rfl ?_
      refine rw_gf (v := .int (Int32.ofNat g)) h rfl rfl rfl rfl (rfl) rfl ?_
      refine wp_st 1 (f' := (58, [some (.ref (b))], [.int ((Int32.ofNat (g + i)) - (Int32.ofNat g)), .ref (b)], A)) rfl ?_
      rw [i32_sub (a := g + i) (b := g) (by omega)]
      refine wp_st 1 (f' := (59, [some (.ref (b))], [.int (Int32.ofNat 4), .int (Int32.ofNat ((g + i) - g)), .ref (b)], A)) rfl ?_
      refine wp_if rfl rfl rfl (fun (h2 : (Int32.ofNat 4) ≤ (Int32.ofNat ((g + i) - g))) => ?_) (fun (h2 : ¬ ((Int32.ofNat 4) ≤ (Int32.ofNat ((g + i) - g)))) => ?_)
      · skip
        rw [i32_le (by omega) (by omega)] at h2
        refine wp_st 1 (f' := (88, [some (.ref (b))], [.ref (b), .ref (b)], A)) rfl ?_
        refine rw_gf (v := .long (rf_nr cs g i)) h rfl rfl rfl rfl (rfl) rfl ?_
        refine rw_pf (v := .long (rf_nr cs g i)) h rfl rfl rfl rfl rfl rfl (fun A3 h4 f5 => ?_)
        have f6 := (sb_fr.refl A b (b + 38)).trans f5
        rw [rf_c28] at h4
        refine wp_st 2 (f' := (96, [some (.ref (b))], [.ref (b), .ref (b)], A3)) rfl ?_
        refine rw_gf (v := .int (Int32.ofNat (g + i))) h4 rfl rfl rfl rfl (rfl) rfl ?_
        refine wp_st 2 (f' := (101, [some (.ref (b))], [.int ((Int32.ofNat (g + i)) + (Int32.ofNat 1)), .ref (b)], A3)) rfl ?_
        rw [i32_add (g + i) (1)]
        refine rw_pf (v := .int (Int32.ofNat (g + i + 1))) h4 rfl rfl rfl rfl rfl rfl (fun A7 h8 f9 => ?_)
        have f10 := f6.trans f9
        rw [rf_c17] at h8
        refine wp_gt rfl (show am_tgt 104 (-91) = 13 by decide +kernel) ?_
        have hw : rf_wi w g 4 i = rf_wi w g 4 (i + 1) := (rf_wi_s (by omega)).symm
        rw [hw] at h8
        rw [show rf_nr cs g i = rf_nr cs g (i + 1) from (rf_nr_e (by omega)).symm] at h8
        obtain ⟨q, q1, q2, q3, q4⟩ := ih (i + 1) _ (by omega) (by omega) h8
        exact ⟨q, q1, q2, q3, f10.trans q4⟩
      · skip
        rw [i32_le (by omega) (by omega)] at h2
        refine wp_st 2 (f' := (66, [some (.ref (b))], [.ref (b), .long ((10)), .ref (b)], A)) rfl ?_
        refine rw_gf (v := .long (rf_nr cs g i)) h rfl rfl rfl rfl (rfl) rfl ?_
        refine wp_st 3 (f' := (72, [some (.ref (b))], [.ref (b), .ref (b), .long ((10) * (rf_nr cs g i)), .ref (b)], A)) rfl ?_
        refine rw_gf (v := .int (Int32.ofNat (g + i))) h rfl rfl rfl rfl (rfl) rfl ?_
        refine wp_cv (A' := A) (v := some (.int (Int32.ofNat (cs.getD (g + i) 0)))) rfl rfl rfl rfl rfl (show _ from h.1) (by omega) (by have q := rr_look (d := d - 1) (k := g + i) (by omega) hx h; rw [hin.2.1] at q; exact q) rfl ?_
        show am_wp d 144 (78, [some (.ref (b))], [.int (Int32.ofNat (cs.getD (g + i) 0)), .long ((10) * (rf_nr cs g i)), .ref (b)], A) _
        refine wp_st 4 (f' := (84, [some (.ref (b))], [.long ((((10) * (rf_nr cs g i)) + ((Int32.ofNat (cs.getD (g + i) 0)).toInt64)) - (48)), .ref (b)], A)) rfl ?_
        rw [rf_nr_s (by omega) (by omega) (by omega)]
        refine wp_st 1 (f' := (91, [some (.ref (b))], [.long (rf_nr cs g (i + 1)), .ref (b)], A)) rfl ?_
        refine rw_pf (v := .long (rf_nr cs g (i + 1))) h rfl rfl rfl rfl rfl rfl (fun A11 h12 f13 => ?_)
        have f14 := (sb_fr.refl A b (b + 38)).trans f13
        rw [rf_c28] at h12
        refine wp_st 2 (f' := (96, [some (.ref (b))], [.ref (b), .ref (b)], A11)) rfl ?_
        refine rw_gf (v := .int (Int32.ofNat (g + i))) h12 rfl rfl rfl rfl (rfl) rfl ?_
        refine wp_st 2 (f' := (101, [some (.ref (b))], [.int ((Int32.ofNat (g + i)) + (Int32.ofNat 1)), .ref (b)], A11)) rfl ?_
        rw [i32_add (g + i) (1)]
        refine rw_pf (v := .int (Int32.ofNat (g + i + 1))) h12 rfl rfl rfl rfl rfl rfl (fun A15 h16 f17 => ?_)
        have f18 := f14.trans f17
        rw [rf_c17] at h16
        refine wp_gt rfl (show am_tgt 104 (-91) = 13 by decide +kernel) ?_
        have hw : rf_wi w g 4 i = rf_wi w g 4 (i + 1) := (rf_wi_s (by omega)).symm
        rw [hw] at h16
        obtain ⟨q, q1, q2, q3, q4⟩ := ih (i + 1) _ (by omega) (by omega) h16
        exact ⟨q, q1, q2, q3, f18.trans q4⟩
    · skip
      rw [ne_eq, i32_eq (by omega) (by omega)] at h1
      replace h1 := Decidable.not_not.mp h1
      refine wp_st 2 (f' := (42, [some (.ref (b))], [.ref (b), .ref (b)], A)) rfl ?_
      refine rw_gf (v := .int (Int32.ofNat (g + i))) h rfl rfl rfl rfl (rfl) rfl ?_
      obtain ⟨A19, g20, h21, f22⟩ := rr_fail (d := d - 1) (x := g + i) h
      have f23 := (sb_fr.refl A b (b + 38)).trans f22
      refine wp_cv (A' := A19) (v := none) rfl rfl rfl rfl rfl (show _ from h.1) (by omega) (g20) rfl ?_
      show am_wp d 144 (48, [some (.ref (b))], [], A19) _
      refine wp_st 2 (f' := (50, [some (.ref (b))], [.ref (b), .ref (b)], A19)) rfl ?_
      refine rw_gf (v := .int (Int32.ofNat (g + i))) h21 rfl rfl rfl rfl (rfl) rfl ?_
      refine wp_st 1 (f' := (54, [some (.ref (b))], [.ref (b), .int (Int32.ofNat (g + i)), .ref (b)], A19)) rfl ?_
      refine rw_gf (v := .int (Int32.ofNat g)) h21 rfl rfl rfl rfl (rfl) rfl ?_
      refine wp_st 1 (f' := (58, [some (.ref (b))], [.int ((Int32.ofNat (g + i)) - (Int32.ofNat g)), .ref (b)], A19)) rfl ?_
      rw [i32_sub (a := g + i) (b := g) (by omega)]
      refine wp_st 1 (f' := (59, [some (.ref (b))], [.int (Int32.ofNat 4), .int (Int32.ofNat ((g + i) - g)), .ref (b)], A19)) rfl ?_
      refine wp_if rfl rfl rfl (fun (h24 : (Int32.ofNat 4) ≤ (Int32.ofNat ((g + i) - g))) => ?_) (fun (h24 : ¬ ((Int32.ofNat 4) ≤ (Int32.ofNat ((g + i) - g)))) => ?_)
      · skip
        rw [i32_le (by omega) (by omega)] at h24
        refine wp_st 1 (f' := (88, [some (.ref (b))], [.ref (b), .ref (b)], A19)) rfl ?_
        refine rw_gf (v := .long (rf_nr cs g i)) h21 rfl rfl rfl rfl (rfl) rfl ?_
        refine rw_pf (v := .long (rf_nr cs g i)) h21 rfl rfl rfl rfl rfl rfl (fun A25 h26 f27 => ?_)
        have f28 := f23.trans f27
        rw [rf_c28] at h26
        refine wp_st 2 (f' := (96, [some (.ref (b))], [.ref (b), .ref (b)], A25)) rfl ?_
        refine rw_gf (v := .int (Int32.ofNat (g + i))) h26 rfl rfl rfl rfl (rfl) rfl ?_
        refine wp_st 2 (f' := (101, [some (.ref (b))], [.int ((Int32.ofNat (g + i)) + (Int32.ofNat 1)), .ref (b)], A25)) rfl ?_
        rw [i32_add (g + i) (1)]
        refine rw_pf (v := .int (Int32.ofNat (g + i + 1))) h26 rfl rfl rfl rfl rfl rfl (fun A29 h30 f31 => ?_)
        have f32 := f28.trans f31
        rw [rf_c17] at h30
        refine wp_gt rfl (show am_tgt 104 (-91) = 13 by decide +kernel) ?_
        have hw : rf_w (rf_wi w g 4 i) (g + i) = rf_wi w g 4 (i + 1) := by
          obtain rfl : i = 4 := by omega
          exact rf_wi_e
        rw [hw] at h30
        rw [show rf_nr cs g i = rf_nr cs g (i + 1) from (rf_nr_e (by omega)).symm] at h30
        obtain ⟨q, q1, q2, q3, q4⟩ := ih (i + 1) _ (by omega) (by omega) h30
        exact ⟨q, q1, q2, q3, f32.trans q4⟩
      · skip
        rw [i32_le (by omega) (by omega)] at h24
        refine wp_st 2 (f' := (66, [some (.ref (b))], [.ref (b), .long ((10)), .ref (b)], A19)) rfl ?_
        refine rw_gf (v := .long (rf_nr cs g i)) h21 rfl rfl rfl rfl (rfl) rfl ?_
        refine wp_st 3 (f' := (72, [some (.ref (b))], [.ref (b), .ref (b), .long ((10) * (rf_nr cs g i)), .ref (b)], A19)) rfl ?_
        refine rw_gf (v := .int (Int32.ofNat (g + i))) h21 rfl rfl rfl rfl (rfl) rfl ?_
        refine wp_cv (A' := A19) (v := some (.int (Int32.ofNat (cs.getD (g + i) 0)))) rfl rfl rfl rfl rfl (show _ from h21.1) (by omega) (by have q := rr_look (d := d - 1) (k := g + i) (by omega) hx h21; rw [hin.2.1] at q; exact q) rfl ?_
        show am_wp d 144 (78, [some (.ref (b))], [.int (Int32.ofNat (cs.getD (g + i) 0)), .long ((10) * (rf_nr cs g i)), .ref (b)], A19) _
        refine wp_st 4 (f' := (84, [some (.ref (b))], [.long ((((10) * (rf_nr cs g i)) + ((Int32.ofNat (cs.getD (g + i) 0)).toInt64)) - (48)), .ref (b)], A19)) rfl ?_
        rw [rf_nr_s (by omega) (by omega) (by omega)]
        refine wp_st 1 (f' := (91, [some (.ref (b))], [.long (rf_nr cs g (i + 1)), .ref (b)], A19)) rfl ?_
        refine rw_pf (v := .long (rf_nr cs g (i + 1))) h21 rfl rfl rfl rfl rfl rfl (fun A33 h34 f35 => ?_)
        have f36 := f23.trans f35
        rw [rf_c28] at h34
        refine wp_st 2 (f' := (96, [some (.ref (b))], [.ref (b), .ref (b)], A33)) rfl ?_
        refine rw_gf (v := .int (Int32.ofNat (g + i))) h34 rfl rfl rfl rfl (rfl) rfl ?_
        refine wp_st 2 (f' := (101, [some (.ref (b))], [.int ((Int32.ofNat (g + i)) + (Int32.ofNat 1)), .ref (b)], A33)) rfl ?_
        rw [i32_add (g + i) (1)]
        refine rw_pf (v := .int (Int32.ofNat (g + i + 1))) h34 rfl rfl rfl rfl rfl rfl (fun A37 h38 f39 => ?_)
        have f40 := f36.trans f39
        rw [rf_c17] at h38
        refine wp_gt rfl (show am_tgt 104 (-91) = 13 by decide +kernel) ?_
        have hw : rf_w (rf_wi w g 4 i) (g + i) = rf_wi w g 4 (i + 1) := by
          obtain rfl : i = 4 := by omega
          exact rf_wi_e
        rw [hw] at h38
        obtain ⟨q, q1, q2, q3, q4⟩ := ih (i + 1) _ (by omega) (by omega) h38
        exact ⟨q, q1, q2, q3, f40.trans q4⟩
theorem rr_dig {d b n p g : Nat} {w : Int32} {r : Int64} {cs : List Nat} {s : rf_S} {A : am_H} (hd : 1 ≤ d) (hp : p < 500) (hx : rf_tx s cs n) (h : rf A b (rf_c s p w r g)) : rf_go d 144 [.ref b] A b none (rf_c s (sb_re 48 57 cs n p) (rf_wl w p 4 ((sb_re 48 57 cs n p) - p)) (rf_nr cs p ((sb_re 48 57 cs n p) - p)) p) := by
  refine rf_of ?_
  refine wp_st 2 (f' := (2, [some (.ref (b))], [.ref (b), .ref (b)], A)) rfl ?_
  refine rw_gf (v := .int (Int32.ofNat p)) h rfl rfl rfl rfl (rfl) rfl ?_
  refine rw_pf (v := .int (Int32.ofNat p)) h rfl rfl rfl rfl rfl rfl (fun A1 h2 f3 => ?_)
  have f4 := (sb_fr.refl A b (b + 38)).trans f3
  rw [rf_c29] at h2
  refine wp_st 2 (f' := (10, [some (.ref (b))], [.long (Int64.ofNat 0), .ref (b)], A1)) rfl ?_
  refine rw_pf (v := .long (Int64.ofNat 0)) h2 rfl rfl rfl rfl rfl rfl (fun A5 h6 f7 => ?_)
  have f8 := f4.trans f7
  rw [rf_c28] at h6
  obtain ⟨q, q1, q2, q3, q4⟩ := rr_dig_l (w := w) hd hx rfl hp (sb_re 48 57 cs n p - p) 0 _ (by omega) (by have := sb_re_le (lo := 48) (hi := 57) (cs := cs) (n := n) (a := p); omega) (by rw [rf_wi0, rf_nr_0]; exact h6)
  exact ⟨q, q1, q2, q3, f8.trans q4⟩
