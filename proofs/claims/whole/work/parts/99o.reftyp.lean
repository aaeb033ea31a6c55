/-! The reference: typed. -/
theorem mt_typed {d b n a g L : Nat} {r : Int64} {x : Int32} {cs : List Nat} {M : mg} {E dp ob : Nat → Nat} {lp : Nat → Option Nat} {t : rf_S} {A : am_H} (hd : 6 ≤ d) (ha : a ≤ n) (hB3 : 3 * mg_B M ≤ a) (hA : 3 * mg_ct (mg_k M) (mg_P M) + 3 ≤ a) (hlp : lp L = some (mg_P M)) (hT : ∀ k, 2 ≤ k → k ≤ 8 → rm_I (rf_u t 10 (128 + mg_ct (mg_k M) (mg_P M)) (.int (rf_so k))) (mg_add M k x) L E dp lp ob (decide (6 ≤ k)) ∧ rm_rd (mg_add M k x) L lp) (hc128 : ∀ j, cs.getD j 0 < 128) (hx : rf_tx t cs n) (h22 : t 22 0 = .int (Int32.ofNat L)) (hL3 : L ≤ 3) (h : rf A b (rf_c t a (-1) r g)) : am_wp d 133 (0, am_ent 133 [.ref b, .int (Int32.ofNat (128 + mg_ct (mg_k M) (mg_P M)))], [], A) (mb_Q A t b n M L E dp lp ob (rd_tb cs n L x (rd_sk cs n a) M)) := by
  have hn1 := hx.2.2.1
  have hlk : ∀ k, sb_lk cs n k < 128 := by
    intro k
    unfold sb_lk
    split
    · have := hx.2.2.2 k (by omega)
      omega
    · omega
  refine wp_st 1 (f' := (1, [some (.ref (b)), some (.int (Int32.ofNat (128 + mg_ct (mg_k M) (mg_P M))))], [.ref (b)], A)) rfl ?_
  have k1 := rd_sk_gt (cs := cs) (n := n) (a := a)
  obtain ⟨A2, g3, h4, f5⟩ := (show rf_go (d - 1) 129 [.ref b] A b none (rf_c t (rd_sk cs n a) (-1) r g) from rr_spaces (d := d - 1) (by omega) (by omega) (show rf_tx (t) cs n from hx) h)
  have f6 := (sb_fr.refl A b (b + 38)).trans f5
  refine wp_cv (A' := A2) (v := none) rfl rfl rfl rfl rfl (show _ from h.1) (by omega) (g3) rfl ?_
  show am_wp d 133 (4, [some (.ref (b)), some (.int (Int32.ofNat (128 + mg_ct (mg_k M) (mg_P M))))], [], A2) _
  refine wp_st 2 (f' := (7, [some (.ref (b)), some (.int (Int32.ofNat (128 + mg_ct (mg_k M) (mg_P M))))], [.int (Int32.ofNat 120), .ref (b)], A2)) rfl ?_
  have huk := sb_re_le (lo := 97) (hi := 122) (cs := cs) (n := n) (a := rd_sk cs n a)
  have huj := huk.2.1 (by omega)
  by_cases hu : sb_re 97 122 cs n (rd_sk cs n a) = rd_sk cs n a
  · skip
    have hkd : rd_kind cs (rd_sk cs n a) (sb_re 97 122 cs n (rd_sk cs n a)) = 0 := by rw [hu]; exact rd_kind_k (k := 0) (by omega) (by omega) (by omega) (by omega)
    obtain ⟨A7, g8, h9, f10⟩ := (show rf_go _ _ _ _ _ _ (rf_c t (sb_re 97 122 cs n (rd_sk cs n a)) (Int32.ofNat (rd_sk cs n a)) (rf_rw cs (rd_sk cs n a) (sb_re 97 122 cs n (rd_sk cs n a) - (rd_sk cs n a))) (rd_sk cs n a)) from by have q := rr_let (d := d - 1) (many := 120) (by omega) (by omega) (by omega) (show rf_tx (t) cs n from hx) h4; rw [rf_let_er hu] at q; exact q)
    have f11 := f6.trans f10
    refine wp_cv (A' := A7) (v := none) rfl rfl rfl rfl rfl (show _ from h4.1) (by omega) (g8) rfl ?_
    show am_wp d 133 (10, [some (.ref (b)), some (.int (Int32.ofNat (128 + mg_ct (mg_k M) (mg_P M))))], [], A7) _
    refine wp_st 1 (f' := (11, [some (.ref (b)), some (.int (Int32.ofNat (128 + mg_ct (mg_k M) (mg_P M))))], [.ref (b)], A7)) rfl ?_
    refine rw_gr h9 rfl rfl rfl rfl rfl rfl ?_
    refine wp_st 2 (f' := (16, [some (.ref (b)), some (.int (Int32.ofNat (128 + mg_ct (mg_k M) (mg_P M))))], [.ref (b), .int (Int32.ofNat (128 + mg_ct (mg_k M) (mg_P M))), .ref (b + 8)], A7)) rfl ?_
    refine wp_cv (A' := A7) (v := some (.int ((-1)))) rfl rfl rfl rfl rfl (show _ from h9.1) (by omega) (by have e := rn_sort (d := d - 1) (g := rd_sk cs n a) (k := sb_re 97 122 cs n (rd_sk cs n a) - (rd_sk cs n a)) (by omega) (show rf_tx (t) cs n from hx) (sb_ltr_re cs n (rd_sk cs n a)) (by omega) (show rf A7 b (rf_c t (rd_sk cs n a + (sb_re 97 122 cs n (rd_sk cs n a) - (rd_sk cs n a))) (Int32.ofNat (rd_sk cs n a)) (rf_rw cs (rd_sk cs n a) (sb_re 97 122 cs n (rd_sk cs n a) - (rd_sk cs n a))) (rd_sk cs n a)) from by rw [show rd_sk cs n a + (sb_re 97 122 cs n (rd_sk cs n a) - (rd_sk cs n a)) = sb_re 97 122 cs n (rd_sk cs n a) by omega]; exact h9); rw [show rd_sk cs n a + (sb_re 97 122 cs n (rd_sk cs n a) - (rd_sk cs n a)) = sb_re 97 122 cs n (rd_sk cs n a) by omega, hkd] at e; exact e) rfl ?_
    show am_wp d 133 (19, [some (.ref (b)), some (.int (Int32.ofNat (128 + mg_ct (mg_k M) (mg_P M))))], [.int ((-1)), .int (Int32.ofNat (128 + mg_ct (mg_k M) (mg_P M))), .ref (b + 8)], A7) _
    refine rw_as (j := 10) (n := 128 + mg_ct (mg_k M) (mg_P M)) (v := .int ((-1))) h9 rfl rfl rfl (Or.inl ⟨rfl, rfl, rfl⟩) (show _ < 192 from by omega) rfl rfl (fun A12 h13 f14 => ?_)
    have f15 := f11.trans f14
    rw [rf_c_u (by decide)] at h13
    refine wp_st 1 (f' := (21, [some (.ref (b)), some (.int (Int32.ofNat (128 + mg_ct (mg_k M) (mg_P M))))], [.ref (b)], A12)) rfl ?_
    refine rw_gr h13 rfl rfl rfl rfl rfl rfl ?_
    refine wp_st 1 (f' := (25, [some (.ref (b)), some (.int (Int32.ofNat (128 + mg_ct (mg_k M) (mg_P M))))], [.int (Int32.ofNat (128 + mg_ct (mg_k M) (mg_P M))), .ref (b + 8)], A12)) rfl ?_
    refine rw_al (j := 10) (n := 128 + mg_ct (mg_k M) (mg_P M)) (v := .int ((-1))) h13 rfl rfl rfl (Or.inl ⟨rfl, rfl⟩) rfl (show _ < 192 from by omega) (by rw [rf_c_ne (by decide), rf_u_eq]) rfl ?_
    refine wp_izF rfl rfl (show ¬ (Int32.ofNat 0 ≤ (-1 : Int32)) from by decide) ?_
    refine wp_st 2 (f' := (31, [some (.ref (b)), some (.int (Int32.ofNat (128 + mg_ct (mg_k M) (mg_P M))))], [.ref (b), .ref (b)], A12)) rfl ?_
    refine rw_gf (v := .int (Int32.ofNat (rd_sk cs n a))) h13 rfl rfl rfl rfl (rfl) rfl ?_
    obtain ⟨A16, g17, h18, f19⟩ := (show rf_go _ _ _ _ _ _ (rf_c (rf_u t 10 (128 + mg_ct (mg_k M) (mg_P M)) (.int ((-1)))) (sb_re 97 122 cs n (rd_sk cs n a)) (Int32.ofNat (rd_sk cs n a)) (rf_rw cs (rd_sk cs n a) (sb_re 97 122 cs n (rd_sk cs n a) - (rd_sk cs n a))) (rd_sk cs n a)) from by have e := rr_fail (d := d - 1) (x := rd_sk cs n a) h13; rw [rf_w_n (by omega)] at e; exact e)
    have f20 := f15.trans f19
    refine wp_cv (A' := A16) (v := none) rfl rfl rfl rfl rfl (show _ from h13.1) (by omega) (g17) rfl ?_
    show am_wp d 133 (37, [some (.ref (b)), some (.int (Int32.ofNat (128 + mg_ct (mg_k M) (mg_P M))))], [], A16) _
    refine wp_st 1 (f' := (38, [some (.ref (b)), some (.int (Int32.ofNat (128 + mg_ct (mg_k M) (mg_P M))))], [.ref (b)], A16)) rfl ?_
    have k21 := rd_sk_gt (cs := cs) (n := n) (a := sb_re 97 122 cs n (rd_sk cs n a))
    obtain ⟨A22, g23, h24, f25⟩ := (show rf_go (d - 1) 129 [.ref b] A16 b none (rf_c (rf_u t 10 (128 + mg_ct (mg_k M) (mg_P M)) (.int ((-1)))) (rd_sk cs n (sb_re 97 122 cs n (rd_sk cs n a))) (Int32.ofNat (rd_sk cs n a)) (rf_rw cs (rd_sk cs n a) (sb_re 97 122 cs n (rd_sk cs n a) - (rd_sk cs n a))) (rd_sk cs n a)) from rr_spaces (d := d - 1) (by omega) (by omega) (show rf_tx (rf_u t 10 (128 + mg_ct (mg_k M) (mg_P M)) (.int ((-1)))) cs n from hx) h18)
    have f26 := f20.trans f25
    refine wp_cv (A' := A22) (v := none) rfl rfl rfl rfl rfl (show _ from h18.1) (by omega) (g23) rfl ?_
    show am_wp d 133 (41, [some (.ref (b)), some (.int (Int32.ofNat (128 + mg_ct (mg_k M) (mg_P M))))], [], A22) _
    refine wp_st 1 (f' := (42, [some (.ref (b)), some (.int (Int32.ofNat (128 + mg_ct (mg_k M) (mg_P M))))], [.ref (b)], A22)) rfl ?_
    refine rw_gr h24 rfl rfl rfl rfl rfl rfl ?_
    refine wp_st 1 (f' := (46, [some (.ref (b)), some (.int (Int32.ofNat (128 + mg_ct (mg_k M) (mg_P M))))], [.int (Int32.ofNat (128 + mg_ct (mg_k M) (mg_P M))), .ref (b + 8)], A22)) rfl ?_
    refine rw_al (j := 10) (n := 128 + mg_ct (mg_k M) (mg_P M)) (v := .int ((-1))) h24 rfl rfl rfl (Or.inl ⟨rfl, rfl⟩) rfl (show _ < 192 from by omega) (by rw [rf_c_ne (by decide), rf_u_eq]) rfl ?_
    refine wp_st 1 (f' := (48, [some (.ref (b)), some (.int (Int32.ofNat (128 + mg_ct (mg_k M) (mg_P M))))], [.int (Int32.ofNat 4), .int ((-1))], A22)) rfl ?_
    refine wp_ifF rfl rfl (show ¬ (Int32.ofNat 4 ≤ (-1 : Int32)) from by decide) ?_
    refine wp_st 2 (f' := (54, [some (.ref (b)), some (.int (Int32.ofNat (128 + mg_ct (mg_k M) (mg_P M))))], [.int (Int32.ofNat 125), .ref (b)], A22)) rfl ?_
    by_cases c27 : sb_lk cs n (rd_sk cs n (sb_re 97 122 cs n (rd_sk cs n a))) = 125
    · skip
      have c27p : rd_sk cs n (sb_re 97 122 cs n (rd_sk cs n a)) < n := sb_lk_pos (cs := cs) (by omega)
      obtain ⟨A28, g29, h30, f31⟩ := (show rf_go _ _ _ _ _ _ (rf_c (rf_u t 10 (128 + mg_ct (mg_k M) (mg_P M)) (.int ((-1)))) (rd_sk cs n (sb_re 97 122 cs n (rd_sk cs n a)) + 1) (Int32.ofNat (rd_sk cs n a)) (rf_rw cs (rd_sk cs n a) (sb_re 97 122 cs n (rd_sk cs n a) - (rd_sk cs n a))) (rd_sk cs n a)) from by have e := rr_need (d := d - 1) (c := 125) (by omega) (by omega) (by omega) (show rf_tx (rf_u t 10 (128 + mg_ct (mg_k M) (mg_P M)) (.int ((-1)))) cs n from hx) h24; rw [if_pos c27] at e; exact e)
      have f32 := f26.trans f31
      refine wp_cv (A' := A28) (v := none) rfl rfl rfl rfl rfl (show _ from h24.1) (by omega) (g29) rfl ?_
      show am_wp d 133 (57, [some (.ref (b)), some (.int (Int32.ofNat (128 + mg_ct (mg_k M) (mg_P M))))], [], A28) _
      refine wp_rt rfl rfl rfl ?_
      rw [show rd_tb cs n L x (rd_sk cs n a) M = .error (rd_sk cs n a) from by unfold rd_tb; rw [if_pos hkd]]
      exact ⟨rfl, _, _, _, _, _, _, h30, h22, by omega, by omega, Or.inl ⟨rfl, by omega⟩, ((rm_X.refl t).u (by unfold rm_sc; omega)), f32⟩
    · skip
      obtain ⟨A33, g34, h35, f36⟩ := (show rf_go _ _ _ _ _ _ (rf_c (rf_u t 10 (128 + mg_ct (mg_k M) (mg_P M)) (.int ((-1)))) (rd_sk cs n (sb_re 97 122 cs n (rd_sk cs n a)) + 1) (Int32.ofNat (rd_sk cs n a)) (rf_rw cs (rd_sk cs n a) (sb_re 97 122 cs n (rd_sk cs n a) - (rd_sk cs n a))) (rd_sk cs n a)) from by have e := rr_need (d := d - 1) (c := 125) (by omega) (by omega) (by omega) (show rf_tx (rf_u t 10 (128 + mg_ct (mg_k M) (mg_P M)) (.int ((-1)))) cs n from hx) h24; rw [if_neg c27, rf_w_n (by omega)] at e; exact e)
      have f37 := f26.trans f36
      refine wp_cv (A' := A33) (v := none) rfl rfl rfl rfl rfl (show _ from h24.1) (by omega) (g34) rfl ?_
      show am_wp d 133 (57, [some (.ref (b)), some (.int (Int32.ofNat (128 + mg_ct (mg_k M) (mg_P M))))], [], A33) _
      refine wp_rt rfl rfl rfl ?_
      rw [show rd_tb cs n L x (rd_sk cs n a) M = .error (rd_sk cs n a) from by unfold rd_tb; rw [if_pos hkd]]
      exact ⟨rfl, _, _, _, _, _, _, h35, h22, by omega, by omega, Or.inl ⟨rfl, by omega⟩, ((rm_X.refl t).u (by unfold rm_sc; omega)), f37⟩
  · skip
    obtain ⟨A38, g39, h40, f41⟩ := (show rf_go _ _ _ _ _ _ (rf_c t (sb_re 97 122 cs n (rd_sk cs n a)) (-1) (rf_rw cs (rd_sk cs n a) (sb_re 97 122 cs n (rd_sk cs n a) - (rd_sk cs n a))) (rd_sk cs n a)) from by have q := rr_let (d := d - 1) (many := 120) (by omega) (by omega) (by omega) (show rf_tx (t) cs n from hx) h4; rw [rf_let_ok (by omega) (by omega) hu] at q; exact q)
    have f42 := f6.trans f41
    refine wp_cv (A' := A38) (v := none) rfl rfl rfl rfl rfl (show _ from h4.1) (by omega) (g39) rfl ?_
    show am_wp d 133 (10, [some (.ref (b)), some (.int (Int32.ofNat (128 + mg_ct (mg_k M) (mg_P M))))], [], A38) _
    refine wp_st 1 (f' := (11, [some (.ref (b)), some (.int (Int32.ofNat (128 + mg_ct (mg_k M) (mg_P M))))], [.ref (b)], A38)) rfl ?_
    refine rw_gr h40 rfl rfl rfl rfl rfl rfl ?_
    refine wp_st 2 (f' := (16, [some (.ref (b)), some (.int (Int32.ofNat (128 + mg_ct (mg_k M) (mg_P M))))], [.ref (b), .int (Int32.ofNat (128 + mg_ct (mg_k M) (mg_P M))), .ref (b + 8)], A38)) rfl ?_
    rcases rd_kind_in cs (rd_sk cs n a) (sb_re 97 122 cs n (rd_sk cs n a)) with hkd | hkd | hkd | hkd
    · skip
      refine wp_cv (A' := A38) (v := some (.int ((-1)))) rfl rfl rfl rfl rfl (show _ from h40.1) (by omega) (by have e := rn_sort (d := d - 1) (g := rd_sk cs n a) (k := sb_re 97 122 cs n (rd_sk cs n a) - (rd_sk cs n a)) (by omega) (show rf_tx (t) cs n from hx) (sb_ltr_re cs n (rd_sk cs n a)) (by omega) (show rf A38 b (rf_c t (rd_sk cs n a + (sb_re 97 122 cs n (rd_sk cs n a) - (rd_sk cs n a))) (-1) (rf_rw cs (rd_sk cs n a) (sb_re 97 122 cs n (rd_sk cs n a) - (rd_sk cs n a))) (rd_sk cs n a)) from by rw [show rd_sk cs n a + (sb_re 97 122 cs n (rd_sk cs n a) - (rd_sk cs n a)) = sb_re 97 122 cs n (rd_sk cs n a) by omega]; exact h40); rw [show rd_sk cs n a + (sb_re 97 122 cs n (rd_sk cs n a) - (rd_sk cs n a)) = sb_re 97 122 cs n (rd_sk cs n a) by omega, hkd] at e; exact e) rfl ?_
      show am_wp d 133 (19, [some (.ref (b)), some (.int (Int32.ofNat (128 + mg_ct (mg_k M) (mg_P M))))], [.int ((-1)), .int (Int32.ofNat (128 + mg_ct (mg_k M) (mg_P M))), .ref (b + 8)], A38) _
      refine rw_as (j := 10) (n := 128 + mg_ct (mg_k M) (mg_P M)) (v := .int ((-1))) h40 rfl rfl rfl (Or.inl ⟨rfl, rfl, rfl⟩) (show _ < 192 from by omega) rfl rfl (fun A43 h44 f45 => ?_)
      have f46 := f42.trans f45
      rw [rf_c_u (by decide)] at h44
      refine wp_st 1 (f' := (21, [some (.ref (b)), some (.int (Int32.ofNat (128 + mg_ct (mg_k M) (mg_P M))))], [.ref (b)], A43)) rfl ?_
      refine rw_gr h44 rfl rfl rfl rfl rfl rfl ?_
      refine wp_st 1 (f' := (25, [some (.ref (b)), some (.int (Int32.ofNat (128 + mg_ct (mg_k M) (mg_P M))))], [.int (Int32.ofNat (128 + mg_ct (mg_k M) (mg_P M))), .ref (b + 8)], A43)) rfl ?_
      refine rw_al (j := 10) (n := 128 + mg_ct (mg_k M) (mg_P M)) (v := .int ((-1))) h44 rfl rfl rfl (Or.inl ⟨rfl, rfl⟩) rfl (show _ < 192 from by omega) (by rw [rf_c_ne (by decide), rf_u_eq]) rfl ?_
      refine wp_izF rfl rfl (show ¬ (Int32.ofNat 0 ≤ (-1 : Int32)) from by decide) ?_
      refine wp_st 2 (f' := (31, [some (.ref (b)), some (.int (Int32.ofNat (128 + mg_ct (mg_k M) (mg_P M))))], [.ref (b), .ref (b)], A43)) rfl ?_
      refine rw_gf (v := .int (Int32.ofNat (rd_sk cs n a))) h44 rfl rfl rfl rfl (rfl) rfl ?_
      obtain ⟨A47, g48, h49, f50⟩ := (show rf_go _ _ _ _ _ _ (rf_c (rf_u t 10 (128 + mg_ct (mg_k M) (mg_P M)) (.int ((-1)))) (sb_re 97 122 cs n (rd_sk cs n a)) (Int32.ofNat (rd_sk cs n a)) (rf_rw cs (rd_sk cs n a) (sb_re 97 122 cs n (rd_sk cs n a) - (rd_sk cs n a))) (rd_sk cs n a)) from by have e := rr_fail (d := d - 1) (x := rd_sk cs n a) h44; rw [rf_w_m] at e; exact e)
      have f51 := f46.trans f50
      refine wp_cv (A' := A47) (v := none) rfl rfl rfl rfl rfl (show _ from h44.1) (by omega) (g48) rfl ?_
      show am_wp d 133 (37, [some (.ref (b)), some (.int (Int32.ofNat (128 + mg_ct (mg_k M) (mg_P M))))], [], A47) _
      refine wp_st 1 (f' := (38, [some (.ref (b)), some (.int (Int32.ofNat (128 + mg_ct (mg_k M) (mg_P M))))], [.ref (b)], A47)) rfl ?_
      have k52 := rd_sk_gt (cs := cs) (n := n) (a := sb_re 97 122 cs n (rd_sk cs n a))
      obtain ⟨A53, g54, h55, f56⟩ := (show rf_go (d - 1) 129 [.ref b] A47 b none (rf_c (rf_u t 10 (128 + mg_ct (mg_k M) (mg_P M)) (.int ((-1)))) (rd_sk cs n (sb_re 97 122 cs n (rd_sk cs n a))) (Int32.ofNat (rd_sk cs n a)) (rf_rw cs (rd_sk cs n a) (sb_re 97 122 cs n (rd_sk cs n a) - (rd_sk cs n a))) (rd_sk cs n a)) from rr_spaces (d := d - 1) (by omega) (by omega) (show rf_tx (rf_u t 10 (128 + mg_ct (mg_k M) (mg_P M)) (.int ((-1)))) cs n from hx) h49)
      have f57 := f51.trans f56
      refine wp_cv (A' := A53) (v := none) rfl rfl rfl rfl rfl (show _ from h49.1) (by omega) (g54) rfl ?_
      show am_wp d 133 (41, [some (.ref (b)), some (.int (Int32.ofNat (128 + mg_ct (mg_k M) (mg_P M))))], [], A53) _
      refine wp_st 1 (f' := (42, [some (.ref (b)), some (.int (Int32.ofNat (128 + mg_ct (mg_k M) (mg_P M))))], [.ref (b)], A53)) rfl ?_
      refine rw_gr h55 rfl rfl rfl rfl rfl rfl ?_
      refine wp_st 1 (f' := (46, [some (.ref (b)), some (.int (Int32.ofNat (128 + mg_ct (mg_k M) (mg_P M))))], [.int (Int32.ofNat (128 + mg_ct (mg_k M) (mg_P M))), .ref (b + 8)], A53)) rfl ?_
      refine rw_al (j := 10) (n := 128 + mg_ct (mg_k M) (mg_P M)) (v := .int ((-1))) h55 rfl rfl rfl (Or.inl ⟨rfl, rfl⟩) rfl (show _ < 192 from by omega) (by rw [rf_c_ne (by decide), rf_u_eq]) rfl ?_
      refine wp_st 1 (f' := (48, [some (.ref (b)), some (.int (Int32.ofNat (128 + mg_ct (mg_k M) (mg_P M))))], [.int (Int32.ofNat 4), .int ((-1))], A53)) rfl ?_
      refine wp_ifF rfl rfl (show ¬ (Int32.ofNat 4 ≤ (-1 : Int32)) from by decide) ?_
      refine wp_st 2 (f' := (54, [some (.ref (b)), some (.int (Int32.ofNat (128 + mg_ct (mg_k M) (mg_P M))))], [.int (Int32.ofNat 125), .ref (b)], A53)) rfl ?_
      by_cases c58 : sb_lk cs n (rd_sk cs n (sb_re 97 122 cs n (rd_sk cs n a))) = 125
      · skip
        have c58p : rd_sk cs n (sb_re 97 122 cs n (rd_sk cs n a)) < n := sb_lk_pos (cs := cs) (by omega)
        obtain ⟨A59, g60, h61, f62⟩ := (show rf_go _ _ _ _ _ _ (rf_c (rf_u t 10 (128 + mg_ct (mg_k M) (mg_P M)) (.int ((-1)))) (rd_sk cs n (sb_re 97 122 cs n (rd_sk cs n a)) + 1) (Int32.ofNat (rd_sk cs n a)) (rf_rw cs (rd_sk cs n a) (sb_re 97 122 cs n (rd_sk cs n a) - (rd_sk cs n a))) (rd_sk cs n a)) from by have e := rr_need (d := d - 1) (c := 125) (by omega) (by omega) (by omega) (show rf_tx (rf_u t 10 (128 + mg_ct (mg_k M) (mg_P M)) (.int ((-1)))) cs n from hx) h55; rw [if_pos c58] at e; exact e)
        have f63 := f57.trans f62
        refine wp_cv (A' := A59) (v := none) rfl rfl rfl rfl rfl (show _ from h55.1) (by omega) (g60) rfl ?_
        show am_wp d 133 (57, [some (.ref (b)), some (.int (Int32.ofNat (128 + mg_ct (mg_k M) (mg_P M))))], [], A59) _
        refine wp_rt rfl rfl rfl ?_
        rw [show rd_tb cs n L x (rd_sk cs n a) M = .error (rd_sk cs n a) from by unfold rd_tb; rw [if_pos hkd]]
        exact ⟨rfl, _, _, _, _, _, _, h61, h22, by omega, by omega, Or.inl ⟨rfl, by omega⟩, ((rm_X.refl t).u (by unfold rm_sc; omega)), f63⟩
      · skip
        obtain ⟨A64, g65, h66, f67⟩ := (show rf_go _ _ _ _ _ _ (rf_c (rf_u t 10 (128 + mg_ct (mg_k M) (mg_P M)) (.int ((-1)))) (rd_sk cs n (sb_re 97 122 cs n (rd_sk cs n a)) + 1) (Int32.ofNat (rd_sk cs n a)) (rf_rw cs (rd_sk cs n a) (sb_re 97 122 cs n (rd_sk cs n a) - (rd_sk cs n a))) (rd_sk cs n a)) from by have e := rr_need (d := d - 1) (c := 125) (by omega) (by omega) (by omega) (show rf_tx (rf_u t 10 (128 + mg_ct (mg_k M) (mg_P M)) (.int ((-1)))) cs n from hx) h55; rw [if_neg c58, rf_w_n (by omega)] at e; exact e)
        have f68 := f57.trans f67
        refine wp_cv (A' := A64) (v := none) rfl rfl rfl rfl rfl (show _ from h55.1) (by omega) (g65) rfl ?_
        show am_wp d 133 (57, [some (.ref (b)), some (.int (Int32.ofNat (128 + mg_ct (mg_k M) (mg_P M))))], [], A64) _
        refine wp_rt rfl rfl rfl ?_
        rw [show rd_tb cs n L x (rd_sk cs n a) M = .error (rd_sk cs n a) from by unfold rd_tb; rw [if_pos hkd]]
        exact ⟨rfl, _, _, _, _, _, _, h66, h22, by omega, by omega, Or.inl ⟨rfl, by omega⟩, ((rm_X.refl t).u (by unfold rm_sc; omega)), f68⟩
    · skip
      obtain ⟨N9, hN9, hN9a, hN9b⟩ := rf_so_lo hkd
      refine wp_cv (A' := A38) (v := some (.int (Int32.ofNat N9))) rfl rfl rfl rfl rfl (show _ from h40.1) (by omega) (by have e := rn_sort (d := d - 1) (g := rd_sk cs n a) (k := sb_re 97 122 cs n (rd_sk cs n a) - (rd_sk cs n a)) (by omega) (show rf_tx (t) cs n from hx) (sb_ltr_re cs n (rd_sk cs n a)) (by omega) (show rf A38 b (rf_c t (rd_sk cs n a + (sb_re 97 122 cs n (rd_sk cs n a) - (rd_sk cs n a))) (-1) (rf_rw cs (rd_sk cs n a) (sb_re 97 122 cs n (rd_sk cs n a) - (rd_sk cs n a))) (rd_sk cs n a)) from by rw [show rd_sk cs n a + (sb_re 97 122 cs n (rd_sk cs n a) - (rd_sk cs n a)) = sb_re 97 122 cs n (rd_sk cs n a) by omega]; exact h40); rw [show rd_sk cs n a + (sb_re 97 122 cs n (rd_sk cs n a) - (rd_sk cs n a)) = sb_re 97 122 cs n (rd_sk cs n a) by omega, hN9] at e; exact e) rfl ?_
      show am_wp d 133 (19, [some (.ref (b)), some (.int (Int32.ofNat (128 + mg_ct (mg_k M) (mg_P M))))], [.int (Int32.ofNat N9), .int (Int32.ofNat (128 + mg_ct (mg_k M) (mg_P M))), .ref (b + 8)], A38) _
      refine rw_as (j := 10) (n := 128 + mg_ct (mg_k M) (mg_P M)) (v := .int (Int32.ofNat N9)) h40 rfl rfl rfl (Or.inl ⟨rfl, rfl, rfl⟩) (show _ < 192 from by omega) rfl rfl (fun A69 h70 f71 => ?_)
      have f72 := f42.trans f71
      rw [rf_c_u (by decide)] at h70
      refine wp_st 1 (f' := (21, [some (.ref (b)), some (.int (Int32.ofNat (128 + mg_ct (mg_k M) (mg_P M))))], [.ref (b)], A69)) rfl ?_
      refine rw_gr h70 rfl rfl rfl rfl rfl rfl ?_
      refine wp_st 1 (f' := (25, [some (.ref (b)), some (.int (Int32.ofNat (128 + mg_ct (mg_k M) (mg_P M))))], [.int (Int32.ofNat (128 + mg_ct (mg_k M) (mg_P M))), .ref (b + 8)], A69)) rfl ?_
      refine rw_al (j := 10) (n := 128 + mg_ct (mg_k M) (mg_P M)) (v := .int (Int32.ofNat N9)) h70 rfl rfl rfl (Or.inl ⟨rfl, rfl⟩) rfl (show _ < 192 from by omega) (by rw [rf_c_ne (by decide), rf_u_eq]) rfl ?_
      refine wp_izT rfl rfl ((i32_le (a := 0) (b := N9) (by omega) (by omega)).mpr (by omega)) ?_
      refine wp_st 1 (f' := (38, [some (.ref (b)), some (.int (Int32.ofNat (128 + mg_ct (mg_k M) (mg_P M))))], [.ref (b)], A69)) rfl ?_
      have k73 := rd_sk_gt (cs := cs) (n := n) (a := sb_re 97 122 cs n (rd_sk cs n a))
      obtain ⟨A74, g75, h76, f77⟩ := (show rf_go (d - 1) 129 [.ref b] A69 b none (rf_c (rf_u t 10 (128 + mg_ct (mg_k M) (mg_P M)) (.int (Int32.ofNat N9))) (rd_sk cs n (sb_re 97 122 cs n (rd_sk cs n a))) (-1) (rf_rw cs (rd_sk cs n a) (sb_re 97 122 cs n (rd_sk cs n a) - (rd_sk cs n a))) (rd_sk cs n a)) from rr_spaces (d := d - 1) (by omega) (by omega) (show rf_tx (rf_u t 10 (128 + mg_ct (mg_k M) (mg_P M)) (.int (Int32.ofNat N9))) cs n from hx) h70)
      have f78 := f72.trans f77
      refine wp_cv (A' := A74) (v := none) rfl rfl rfl rfl rfl (show _ from h70.1) (by omega) (g75) rfl ?_
      show am_wp d 133 (41, [some (.ref (b)), some (.int (Int32.ofNat (128 + mg_ct (mg_k M) (mg_P M))))], [], A74) _
      refine wp_st 1 (f' := (42, [some (.ref (b)), some (.int (Int32.ofNat (128 + mg_ct (mg_k M) (mg_P M))))], [.ref (b)], A74)) rfl ?_
      refine rw_gr h76 rfl rfl rfl rfl rfl rfl ?_
      refine wp_st 1 (f' := (46, [some (.ref (b)), some (.int (Int32.ofNat (128 + mg_ct (mg_k M) (mg_P M))))], [.int (Int32.ofNat (128 + mg_ct (mg_k M) (mg_P M))), .ref (b + 8)], A74)) rfl ?_
      refine rw_al (j := 10) (n := 128 + mg_ct (mg_k M) (mg_P M)) (v := .int (Int32.ofNat N9)) h76 rfl rfl rfl (Or.inl ⟨rfl, rfl⟩) rfl (show _ < 192 from by omega) (by rw [rf_c_ne (by decide), rf_u_eq]) rfl ?_
      refine wp_st 1 (f' := (48, [some (.ref (b)), some (.int (Int32.ofNat (128 + mg_ct (mg_k M) (mg_P M))))], [.int (Int32.ofNat 4), .int (Int32.ofNat N9)], A74)) rfl ?_
      refine wp_ifF rfl rfl (fun q => absurd ((i32_le (a := 4) (b := N9) (by omega) (by omega)).mp q) (by omega)) ?_
      refine wp_st 2 (f' := (54, [some (.ref (b)), some (.int (Int32.ofNat (128 + mg_ct (mg_k M) (mg_P M))))], [.int (Int32.ofNat 125), .ref (b)], A74)) rfl ?_
      by_cases c79 : sb_lk cs n (rd_sk cs n (sb_re 97 122 cs n (rd_sk cs n a))) = 125
      · skip
        have c79p : rd_sk cs n (sb_re 97 122 cs n (rd_sk cs n a)) < n := sb_lk_pos (cs := cs) (by omega)
        obtain ⟨A80, g81, h82, f83⟩ := (show rf_go _ _ _ _ _ _ (rf_c (rf_u t 10 (128 + mg_ct (mg_k M) (mg_P M)) (.int (Int32.ofNat N9))) (rd_sk cs n (sb_re 97 122 cs n (rd_sk cs n a)) + 1) (-1) (rf_rw cs (rd_sk cs n a) (sb_re 97 122 cs n (rd_sk cs n a) - (rd_sk cs n a))) (rd_sk cs n a)) from by have e := rr_need (d := d - 1) (c := 125) (by omega) (by omega) (by omega) (show rf_tx (rf_u t 10 (128 + mg_ct (mg_k M) (mg_P M)) (.int (Int32.ofNat N9))) cs n from hx) h76; rw [if_pos c79] at e; exact e)
        have f84 := f78.trans f83
        refine wp_cv (A' := A80) (v := none) rfl rfl rfl rfl rfl (show _ from h76.1) (by omega) (g81) rfl ?_
        show am_wp d 133 (57, [some (.ref (b)), some (.int (Int32.ofNat (128 + mg_ct (mg_k M) (mg_P M))))], [], A80) _
        refine wp_rt rfl rfl rfl ?_
        have hTk := hT (rd_kind cs (rd_sk cs n a) (sb_re 97 122 cs n (rd_sk cs n a))) (by omega) (by omega)
        rw [hN9] at hTk
        rw [show rd_tb cs n L x (rd_sk cs n a) M = .ok (.inl (rd_sk cs n (sb_re 97 122 cs n (rd_sk cs n a)) + 1, mg_add M (rd_kind cs (rd_sk cs n a) (sb_re 97 122 cs n (rd_sk cs n a))) x)) from by unfold rd_tb; rw [if_neg (by omega), if_pos (by omega), if_pos c79]]
        rw [decide_eq_false (show ¬ 6 ≤ rd_kind cs (rd_sk cs n a) (sb_re 97 122 cs n (rd_sk cs n a)) by omega)] at hTk
        exact ⟨rfl, _, _, _, h82, hTk.1, hTk.2, ((rm_X.refl t).u (by unfold rm_sc; omega)), f84⟩
      · skip
        obtain ⟨A85, g86, h87, f88⟩ := (show rf_go _ _ _ _ _ _ (rf_c (rf_u t 10 (128 + mg_ct (mg_k M) (mg_P M)) (.int (Int32.ofNat N9))) (rd_sk cs n (sb_re 97 122 cs n (rd_sk cs n a)) + 1) (Int32.ofNat (rd_sk cs n (sb_re 97 122 cs n (rd_sk cs n a)))) (rf_rw cs (rd_sk cs n a) (sb_re 97 122 cs n (rd_sk cs n a) - (rd_sk cs n a))) (rd_sk cs n a)) from by have e := rr_need (d := d - 1) (c := 125) (by omega) (by omega) (by omega) (show rf_tx (rf_u t 10 (128 + mg_ct (mg_k M) (mg_P M)) (.int (Int32.ofNat N9))) cs n from hx) h76; rw [if_neg c79, rf_w_m] at e; exact e)
        have f89 := f78.trans f88
        refine wp_cv (A' := A85) (v := none) rfl rfl rfl rfl rfl (show _ from h76.1) (by omega) (g86) rfl ?_
        show am_wp d 133 (57, [some (.ref (b)), some (.int (Int32.ofNat (128 + mg_ct (mg_k M) (mg_P M))))], [], A85) _
        refine wp_rt rfl rfl rfl ?_
        rw [show rd_tb cs n L x (rd_sk cs n a) M = .error (rd_sk cs n (sb_re 97 122 cs n (rd_sk cs n a))) from by unfold rd_tb; rw [if_neg (by omega), if_pos (by omega), if_neg c79]]
        exact ⟨rfl, _, _, _, _, _, _, h87, h22, by omega, by omega, Or.inl ⟨rfl, by omega⟩, ((rm_X.refl t).u (by unfold rm_sc; omega)), f89⟩
    · skip
      refine wp_cv (A' := A38) (v := some (.int (Int32.ofNat 6))) rfl rfl rfl rfl rfl (show _ from h40.1) (by omega) (by have e := rn_sort (d := d - 1) (g := rd_sk cs n a) (k := sb_re 97 122 cs n (rd_sk cs n a) - (rd_sk cs n a)) (by omega) (show rf_tx (t) cs n from hx) (sb_ltr_re cs n (rd_sk cs n a)) (by omega) (show rf A38 b (rf_c t (rd_sk cs n a + (sb_re 97 122 cs n (rd_sk cs n a) - (rd_sk cs n a))) (-1) (rf_rw cs (rd_sk cs n a) (sb_re 97 122 cs n (rd_sk cs n a) - (rd_sk cs n a))) (rd_sk cs n a)) from by rw [show rd_sk cs n a + (sb_re 97 122 cs n (rd_sk cs n a) - (rd_sk cs n a)) = sb_re 97 122 cs n (rd_sk cs n a) by omega]; exact h40); rw [show rd_sk cs n a + (sb_re 97 122 cs n (rd_sk cs n a) - (rd_sk cs n a)) = sb_re 97 122 cs n (rd_sk cs n a) by omega, hkd] at e; exact e) rfl ?_
      show am_wp d 133 (19, [some (.ref (b)), some (.int (Int32.ofNat (128 + mg_ct (mg_k M) (mg_P M))))], [.int (Int32.ofNat 6), .int (Int32.ofNat (128 + mg_ct (mg_k M) (mg_P M))), .ref (b + 8)], A38) _
      refine rw_as (j := 10) (n := 128 + mg_ct (mg_k M) (mg_P M)) (v := .int (Int32.ofNat 6)) h40 rfl rfl rfl (Or.inl ⟨rfl, rfl, rfl⟩) (show _ < 192 from by omega) rfl rfl (fun A90 h91 f92 => ?_)
      have f93 := f42.trans f92
      rw [rf_c_u (by decide)] at h91
      refine wp_st 1 (f' := (21, [some (.ref (b)), some (.int (Int32.ofNat (128 + mg_ct (mg_k M) (mg_P M))))], [.ref (b)], A90)) rfl ?_
      refine rw_gr h91 rfl rfl rfl rfl rfl rfl ?_
      refine wp_st 1 (f' := (25, [some (.ref (b)), some (.int (Int32.ofNat (128 + mg_ct (mg_k M) (mg_P M))))], [.int (Int32.ofNat (128 + mg_ct (mg_k M) (mg_P M))), .ref (b + 8)], A90)) rfl ?_
      refine rw_al (j := 10) (n := 128 + mg_ct (mg_k M) (mg_P M)) (v := .int (Int32.ofNat 6)) h91 rfl rfl rfl (Or.inl ⟨rfl, rfl⟩) rfl (show _ < 192 from by omega) (by rw [rf_c_ne (by decide), rf_u_eq]) rfl ?_
      refine wp_izT rfl rfl ((i32_le (a := 0) (b := 6) (by omega) (by omega)).mpr (by omega)) ?_
      refine wp_st 1 (f' := (38, [some (.ref (b)), some (.int (Int32.ofNat (128 + mg_ct (mg_k M) (mg_P M))))], [.ref (b)], A90)) rfl ?_
      have k94 := rd_sk_gt (cs := cs) (n := n) (a := sb_re 97 122 cs n (rd_sk cs n a))
      obtain ⟨A95, g96, h97, f98⟩ := (show rf_go (d - 1) 129 [.ref b] A90 b none (rf_c (rf_u t 10 (128 + mg_ct (mg_k M) (mg_P M)) (.int (Int32.ofNat 6))) (rd_sk cs n (sb_re 97 122 cs n (rd_sk cs n a))) (-1) (rf_rw cs (rd_sk cs n a) (sb_re 97 122 cs n (rd_sk cs n a) - (rd_sk cs n a))) (rd_sk cs n a)) from rr_spaces (d := d - 1) (by omega) (by omega) (show rf_tx (rf_u t 10 (128 + mg_ct (mg_k M) (mg_P M)) (.int (Int32.ofNat 6))) cs n from hx) h91)
      have f99 := f93.trans f98
      refine wp_cv (A' := A95) (v := none) rfl rfl rfl rfl rfl (show _ from h91.1) (by omega) (g96) rfl ?_
      show am_wp d 133 (41, [some (.ref (b)), some (.int (Int32.ofNat (128 + mg_ct (mg_k M) (mg_P M))))], [], A95) _
      refine wp_st 1 (f' := (42, [some (.ref (b)), some (.int (Int32.ofNat (128 + mg_ct (mg_k M) (mg_P M))))], [.ref (b)], A95)) rfl ?_
      refine rw_gr h97 rfl rfl rfl rfl rfl rfl ?_
      refine wp_st 1 (f' := (46, [some (.ref (b)), some (.int (Int32.ofNat (128 + mg_ct (mg_k M) (mg_P M))))], [.int (Int32.ofNat (128 + mg_ct (mg_k M) (mg_P M))), .ref (b + 8)], A95)) rfl ?_
      refine rw_al (j := 10) (n := 128 + mg_ct (mg_k M) (mg_P M)) (v := .int (Int32.ofNat 6)) h97 rfl rfl rfl (Or.inl ⟨rfl, rfl⟩) rfl (show _ < 192 from by omega) (by rw [rf_c_ne (by decide), rf_u_eq]) rfl ?_
      refine wp_st 1 (f' := (48, [some (.ref (b)), some (.int (Int32.ofNat (128 + mg_ct (mg_k M) (mg_P M))))], [.int (Int32.ofNat 4), .int (Int32.ofNat 6)], A95)) rfl ?_
      refine wp_ifT rfl rfl ((i32_le (a := 4) (b := 6) (by omega) (by omega)).mpr (by omega)) ?_
      refine wp_st 2 (f' := (61, [some (.ref (b)), some (.int (Int32.ofNat (128 + mg_ct (mg_k M) (mg_P M))))], [.int (Int32.ofNat 44), .ref (b)], A95)) rfl ?_
      by_cases c100 : sb_lk cs n (rd_sk cs n (sb_re 97 122 cs n (rd_sk cs n a))) = 44
      · skip
        have c100p : rd_sk cs n (sb_re 97 122 cs n (rd_sk cs n a)) < n := sb_lk_pos (cs := cs) (by omega)
        obtain ⟨A101, g102, h103, f104⟩ := (show rf_go _ _ _ _ _ _ (rf_c (rf_u t 10 (128 + mg_ct (mg_k M) (mg_P M)) (.int (Int32.ofNat 6))) (rd_sk cs n (sb_re 97 122 cs n (rd_sk cs n a)) + 1) (-1) (rf_rw cs (rd_sk cs n a) (sb_re 97 122 cs n (rd_sk cs n a) - (rd_sk cs n a))) (rd_sk cs n a)) from by have e := rr_need (d := d - 1) (c := 44) (by omega) (by omega) (by omega) (show rf_tx (rf_u t 10 (128 + mg_ct (mg_k M) (mg_P M)) (.int (Int32.ofNat 6))) cs n from hx) h97; rw [if_pos c100] at e; exact e)
        have f105 := f99.trans f104
        refine wp_cv (A' := A101) (v := none) rfl rfl rfl rfl rfl (show _ from h97.1) (by omega) (g102) rfl ?_
        show am_wp d 133 (64, [some (.ref (b)), some (.int (Int32.ofNat (128 + mg_ct (mg_k M) (mg_P M))))], [], A101) _
        refine wp_st 1 (f' := (65, [some (.ref (b)), some (.int (Int32.ofNat (128 + mg_ct (mg_k M) (mg_P M))))], [.ref (b)], A101)) rfl ?_
        have k106 := rd_sk_gt (cs := cs) (n := n) (a := rd_sk cs n (sb_re 97 122 cs n (rd_sk cs n a)) + 1)
        obtain ⟨A107, g108, h109, f110⟩ := (show rf_go (d - 1) 129 [.ref b] A101 b none (rf_c (rf_u t 10 (128 + mg_ct (mg_k M) (mg_P M)) (.int (Int32.ofNat 6))) (rd_sk cs n (rd_sk cs n (sb_re 97 122 cs n (rd_sk cs n a)) + 1)) (-1) (rf_rw cs (rd_sk cs n a) (sb_re 97 122 cs n (rd_sk cs n a) - (rd_sk cs n a))) (rd_sk cs n a)) from rr_spaces (d := d - 1) (by omega) (by omega) (show rf_tx (rf_u t 10 (128 + mg_ct (mg_k M) (mg_P M)) (.int (Int32.ofNat 6))) cs n from hx) h103)
        have f111 := f105.trans f110
        refine wp_cv (A' := A107) (v := none) rfl rfl rfl rfl rfl (show _ from h103.1) (by omega) (g108) rfl ?_
        show am_wp d 133 (68, [some (.ref (b)), some (.int (Int32.ofNat (128 + mg_ct (mg_k M) (mg_P M))))], [], A107) _
        refine wp_st 1 (f' := (69, [some (.ref (b)), some (.int (Int32.ofNat (128 + mg_ct (mg_k M) (mg_P M))))], [.ref (b)], A107)) rfl ?_
        refine rw_gr h109 rfl rfl rfl rfl rfl rfl ?_
        refine wp_st 1 (f' := (73, [some (.ref (b)), some (.int (Int32.ofNat (128 + mg_ct (mg_k M) (mg_P M))))], [.int (Int32.ofNat (128 + mg_ct (mg_k M) (mg_P M))), .ref (b + 8)], A107)) rfl ?_
        refine rw_al (j := 10) (n := 128 + mg_ct (mg_k M) (mg_P M)) (v := .int (Int32.ofNat 6)) h109 rfl rfl rfl (Or.inl ⟨rfl, rfl⟩) rfl (show _ < 192 from by omega) (by rw [rf_c_ne (by decide), rf_u_eq]) rfl ?_
        refine wp_st 1 (f' := (76, [some (.ref (b)), some (.int (Int32.ofNat (128 + mg_ct (mg_k M) (mg_P M))))], [.int (Int32.ofNat 6), .int (Int32.ofNat 6)], A107)) rfl ?_
        refine wp_ifT rfl rfl ((i32_eq (a := 6) (b := 6) (by omega) (by omega)).mpr (by omega)) ?_
        refine wp_st 2 (f' := (93, [some (.ref (b)), some (.int (Int32.ofNat (128 + mg_ct (mg_k M) (mg_P M))))], [.int (Int32.ofNat (128 + mg_ct (mg_k M) (mg_P M))), .ref (b)], A107)) rfl ?_
        have hTk := hT (rd_kind cs (rd_sk cs n a) (sb_re 97 122 cs n (rd_sk cs n a))) (by omega) (by omega)
        have h10v : rf_so (rd_kind cs (rd_sk cs n a) (sb_re 97 122 cs n (rd_sk cs n a))) = Int32.ofNat 6 := by rw [hkd]; rfl
        rw [h10v] at hTk
        have hI2 := hTk.1
        rw [decide_eq_true (show 6 ≤ rd_kind cs (rd_sk cs n a) (sb_re 97 122 cs n (rd_sk cs n a)) by omega)] at hI2
        have hk2 : mg_k (mg_add M (rd_kind cs (rd_sk cs n a) (sb_re 97 122 cs n (rd_sk cs n a))) x) (mg_P M) = rd_kind cs (rd_sk cs n a) (sb_re 97 122 cs n (rd_sk cs n a)) := up_eq ..
        have hc2 : mg_ct (mg_k (mg_add M (rd_kind cs (rd_sk cs n a) (sb_re 97 122 cs n (rd_sk cs n a))) x)) (mg_P M) = mg_ct (mg_k M) (mg_P M) := mg_ct_up (Nat.le_refl _)
        have hc3 : mg_ct (mg_k (mg_add M (rd_kind cs (rd_sk cs n a) (sb_re 97 122 cs n (rd_sk cs n a))) x)) (mg_P (mg_add M (rd_kind cs (rd_sk cs n a) (sb_re 97 122 cs n (rd_sk cs n a))) x)) = mg_ct (mg_k M) (mg_P M) + 1 := by rw [show mg_P (mg_add M (rd_kind cs (rd_sk cs n a) (sb_re 97 122 cs n (rd_sk cs n a))) x) = mg_P M + 1 from rfl, mg_ct, hc2, hk2, if_pos (by omega)]
        obtain ⟨⟨o9, A9⟩, g9c, q9⟩ := mb_bo (d := d - 1) (M := mg_add M (rd_kind cs (rd_sk cs n a) (sb_re 97 122 cs n (rd_sk cs n a))) x) (i := mg_P M) (by omega) (by omega) (show 3 * mg_B M ≤ _ by omega) (show 3 * mg_ct (mg_k (mg_add M (rd_kind cs (rd_sk cs n a) (sb_re 97 122 cs n (rd_sk cs n a))) x)) (mg_P (mg_add M (rd_kind cs (rd_sk cs n a) (sb_re 97 122 cs n (rd_sk cs n a))) x)) ≤ _ by omega) hlp (show 6 ≤ mg_k (mg_add M (rd_kind cs (rd_sk cs n a) (sb_re 97 122 cs n (rd_sk cs n a))) x) (mg_P M) by omega) hc128 (show rf_tx (rf_u t 10 (128 + mg_ct (mg_k M) (mg_P M)) (.int (Int32.ofNat 6))) cs n from hx) hI2 h109
        have q9r : o9 = .inl none := q9.ret
        subst q9r
        rw [show mg_k (mg_add M (rd_kind cs (rd_sk cs n a) (sb_re 97 122 cs n (rd_sk cs n a))) x) (mg_P M) = rd_kind cs (rd_sk cs n a) (sb_re 97 122 cs n (rd_sk cs n a)) from hk2] at q9
        replace q9 := mb_Q.B (M := M) rfl q9
        rw [show mg_ct (mg_k (mg_add M (rd_kind cs (rd_sk cs n a) (sb_re 97 122 cs n (rd_sk cs n a))) x)) (mg_P M) = mg_ct (mg_k M) (mg_P M) from hc2] at g9c
        refine wp_cv (A' := A9) (v := none) rfl rfl rfl rfl rfl (show _ from h109.1) (by omega) (g9c) rfl ?_
        show am_wp d 133 (96, [some (.ref (b)), some (.int (Int32.ofNat (128 + mg_ct (mg_k M) (mg_P M))))], [], A9) _
        refine wp_rt rfl rfl rfl ?_
        rw [show rd_tb cs n L x (rd_sk cs n a) M = rd_bo cs n L (mg_P M) (decide (rd_kind cs (rd_sk cs n a) (sb_re 97 122 cs n (rd_sk cs n a)) ≠ 6)) (rd_sk cs n (rd_sk cs n (sb_re 97 122 cs n (rd_sk cs n a)) + 1)) (mg_add M (rd_kind cs (rd_sk cs n a) (sb_re 97 122 cs n (rd_sk cs n a))) x) from by unfold rd_tb; rw [if_neg (by omega), if_neg (by omega), if_pos c100, rd_tr, if_pos hkd]]
        exact q9.tr ((rm_X.refl t).u (by unfold rm_sc; omega)) f111
      · skip
        obtain ⟨A112, g113, h114, f115⟩ := (show rf_go _ _ _ _ _ _ (rf_c (rf_u t 10 (128 + mg_ct (mg_k M) (mg_P M)) (.int (Int32.ofNat 6))) (rd_sk cs n (sb_re 97 122 cs n (rd_sk cs n a)) + 1) (Int32.ofNat (rd_sk cs n (sb_re 97 122 cs n (rd_sk cs n a)))) (rf_rw cs (rd_sk cs n a) (sb_re 97 122 cs n (rd_sk cs n a) - (rd_sk cs n a))) (rd_sk cs n a)) from by have e := rr_need (d := d - 1) (c := 44) (by omega) (by omega) (by omega) (show rf_tx (rf_u t 10 (128 + mg_ct (mg_k M) (mg_P M)) (.int (Int32.ofNat 6))) cs n from hx) h97; rw [if_neg c100, rf_w_m] at e; exact e)
        have f116 := f99.trans f115
        refine wp_cv (A' := A112) (v := none) rfl rfl rfl rfl rfl (show _ from h97.1) (by omega) (g113) rfl ?_
        show am_wp d 133 (64, [some (.ref (b)), some (.int (Int32.ofNat (128 + mg_ct (mg_k M) (mg_P M))))], [], A112) _
        refine wp_st 1 (f' := (65, [some (.ref (b)), some (.int (Int32.ofNat (128 + mg_ct (mg_k M) (mg_P M))))], [.ref (b)], A112)) rfl ?_
        have k117 := rd_sk_gt (cs := cs) (n := n) (a := rd_sk cs n (sb_re 97 122 cs n (rd_sk cs n a)) + 1)
        obtain ⟨A118, g119, h120, f121⟩ := (show rf_go (d - 1) 129 [.ref b] A112 b none (rf_c (rf_u t 10 (128 + mg_ct (mg_k M) (mg_P M)) (.int (Int32.ofNat 6))) (rd_sk cs n (rd_sk cs n (sb_re 97 122 cs n (rd_sk cs n a)) + 1)) (Int32.ofNat (rd_sk cs n (sb_re 97 122 cs n (rd_sk cs n a)))) (rf_rw cs (rd_sk cs n a) (sb_re 97 122 cs n (rd_sk cs n a) - (rd_sk cs n a))) (rd_sk cs n a)) from rr_spaces (d := d - 1) (by omega) (by omega) (show rf_tx (rf_u t 10 (128 + mg_ct (mg_k M) (mg_P M)) (.int (Int32.ofNat 6))) cs n from hx) h114)
        have f122 := f116.trans f121
        refine wp_cv (A' := A118) (v := none) rfl rfl rfl rfl rfl (show _ from h114.1) (by omega) (g119) rfl ?_
        show am_wp d 133 (68, [some (.ref (b)), some (.int (Int32.ofNat (128 + mg_ct (mg_k M) (mg_P M))))], [], A118) _
        refine wp_st 1 (f' := (69, [some (.ref (b)), some (.int (Int32.ofNat (128 + mg_ct (mg_k M) (mg_P M))))], [.ref (b)], A118)) rfl ?_
        refine rw_gr h120 rfl rfl rfl rfl rfl rfl ?_
        refine wp_st 1 (f' := (73, [some (.ref (b)), some (.int (Int32.ofNat (128 + mg_ct (mg_k M) (mg_P M))))], [.int (Int32.ofNat (128 + mg_ct (mg_k M) (mg_P M))), .ref (b + 8)], A118)) rfl ?_
        refine rw_al (j := 10) (n := 128 + mg_ct (mg_k M) (mg_P M)) (v := .int (Int32.ofNat 6)) h120 rfl rfl rfl (Or.inl ⟨rfl, rfl⟩) rfl (show _ < 192 from by omega) (by rw [rf_c_ne (by decide), rf_u_eq]) rfl ?_
        refine wp_st 1 (f' := (76, [some (.ref (b)), some (.int (Int32.ofNat (128 + mg_ct (mg_k M) (mg_P M))))], [.int (Int32.ofNat 6), .int (Int32.ofNat 6)], A118)) rfl ?_
        refine wp_ifT rfl rfl ((i32_eq (a := 6) (b := 6) (by omega) (by omega)).mpr (by omega)) ?_
        refine wp_st 2 (f' := (93, [some (.ref (b)), some (.int (Int32.ofNat (128 + mg_ct (mg_k M) (mg_P M))))], [.int (Int32.ofNat (128 + mg_ct (mg_k M) (mg_P M))), .ref (b)], A118)) rfl ?_
        have k123 := rd_sk_gt (cs := cs) (n := n) (a := rd_sk cs n (rd_sk cs n (sb_re 97 122 cs n (rd_sk cs n a)) + 1))
        obtain ⟨A124, g125, h126, f127⟩ := (show rf_go _ _ _ _ _ _ (rf_c (rf_u t 10 (128 + mg_ct (mg_k M) (mg_P M)) (.int (Int32.ofNat 6))) (rd_sk cs n (rd_sk cs n (rd_sk cs n (sb_re 97 122 cs n (rd_sk cs n a)) + 1))) (Int32.ofNat (rd_sk cs n (sb_re 97 122 cs n (rd_sk cs n a)))) (rf_rw cs (rd_sk cs n a) (sb_re 97 122 cs n (rd_sk cs n a) - (rd_sk cs n a))) (rd_sk cs n a)) from mb_bof (d := d - 1) (by omega) (by omega) (by omega) (show rf_tx (rf_u t 10 (128 + mg_ct (mg_k M) (mg_P M)) (.int (Int32.ofNat 6))) cs n from hx) h120)
        have f128 := f122.trans f127
        refine wp_cv (A' := A124) (v := none) rfl rfl rfl rfl rfl (show _ from h120.1) (by omega) (g125) rfl ?_
        show am_wp d 133 (96, [some (.ref (b)), some (.int (Int32.ofNat (128 + mg_ct (mg_k M) (mg_P M))))], [], A124) _
        refine wp_rt rfl rfl rfl ?_
        rw [show rd_tb cs n L x (rd_sk cs n a) M = .error (rd_sk cs n (sb_re 97 122 cs n (rd_sk cs n a))) from by unfold rd_tb; rw [if_neg (by omega), if_neg (by omega), if_neg c100]]
        exact ⟨rfl, _, _, _, _, _, _, h126, h22, by omega, by omega, Or.inl ⟨rfl, by omega⟩, ((rm_X.refl t).u (by unfold rm_sc; omega)), f128⟩
    · skip
      obtain ⟨N9, hN9, hN9a, hN9b⟩ := rf_so_hi hkd
      refine wp_cv (A' := A38) (v := some (.int (Int32.ofNat N9))) rfl rfl rfl rfl rfl (show _ from h40.1) (by omega) (by have e := rn_sort (d := d - 1) (g := rd_sk cs n a) (k := sb_re 97 122 cs n (rd_sk cs n a) - (rd_sk cs n a)) (by omega) (show rf_tx (t) cs n from hx) (sb_ltr_re cs n (rd_sk cs n a)) (by omega) (show rf A38 b (rf_c t (rd_sk cs n a + (sb_re 97 122 cs n (rd_sk cs n a) - (rd_sk cs n a))) (-1) (rf_rw cs (rd_sk cs n a) (sb_re 97 122 cs n (rd_sk cs n a) - (rd_sk cs n a))) (rd_sk cs n a)) from by rw [show rd_sk cs n a + (sb_re 97 122 cs n (rd_sk cs n a) - (rd_sk cs n a)) = sb_re 97 122 cs n (rd_sk cs n a) by omega]; exact h40); rw [show rd_sk cs n a + (sb_re 97 122 cs n (rd_sk cs n a) - (rd_sk cs n a)) = sb_re 97 122 cs n (rd_sk cs n a) by omega, hN9] at e; exact e) rfl ?_
      show am_wp d 133 (19, [some (.ref (b)), some (.int (Int32.ofNat (128 + mg_ct (mg_k M) (mg_P M))))], [.int (Int32.ofNat N9), .int (Int32.ofNat (128 + mg_ct (mg_k M) (mg_P M))), .ref (b + 8)], A38) _
      refine rw_as (j := 10) (n := 128 + mg_ct (mg_k M) (mg_P M)) (v := .int (Int32.ofNat N9)) h40 rfl rfl rfl (Or.inl ⟨rfl, rfl, rfl⟩) (show _ < 192 from by omega) rfl rfl (fun A129 h130 f131 => ?_)
      have f132 := f42.trans f131
      rw [rf_c_u (by decide)] at h130
      refine wp_st 1 (f' := (21, [some (.ref (b)), some (.int (Int32.ofNat (128 + mg_ct (mg_k M) (mg_P M))))], [.ref (b)], A129)) rfl ?_
      refine rw_gr h130 rfl rfl rfl rfl rfl rfl ?_
      refine wp_st 1 (f' := (25, [some (.ref (b)), some (.int (Int32.ofNat (128 + mg_ct (mg_k M) (mg_P M))))], [.int (Int32.ofNat (128 + mg_ct (mg_k M) (mg_P M))), .ref (b + 8)], A129)) rfl ?_
      refine rw_al (j := 10) (n := 128 + mg_ct (mg_k M) (mg_P M)) (v := .int (Int32.ofNat N9)) h130 rfl rfl rfl (Or.inl ⟨rfl, rfl⟩) rfl (show _ < 192 from by omega) (by rw [rf_c_ne (by decide), rf_u_eq]) rfl ?_
      refine wp_izT rfl rfl ((i32_le (a := 0) (b := N9) (by omega) (by omega)).mpr (by omega)) ?_
      refine wp_st 1 (f' := (38, [some (.ref (b)), some (.int (Int32.ofNat (128 + mg_ct (mg_k M) (mg_P M))))], [.ref (b)], A129)) rfl ?_
      have k133 := rd_sk_gt (cs := cs) (n := n) (a := sb_re 97 122 cs n (rd_sk cs n a))
      obtain ⟨A134, g135, h136, f137⟩ := (show rf_go (d - 1) 129 [.ref b] A129 b none (rf_c (rf_u t 10 (128 + mg_ct (mg_k M) (mg_P M)) (.int (Int32.ofNat N9))) (rd_sk cs n (sb_re 97 122 cs n (rd_sk cs n a))) (-1) (rf_rw cs (rd_sk cs n a) (sb_re 97 122 cs n (rd_sk cs n a) - (rd_sk cs n a))) (rd_sk cs n a)) from rr_spaces (d := d - 1) (by omega) (by omega) (show rf_tx (rf_u t 10 (128 + mg_ct (mg_k M) (mg_P M)) (.int (Int32.ofNat N9))) cs n from hx) h130)
      have f138 := f132.trans f137
      refine wp_cv (A' := A134) (v := none) rfl rfl rfl rfl rfl (show _ from h130.1) (by omega) (g135) rfl ?_
      show am_wp d 133 (41, [some (.ref (b)), some (.int (Int32.ofNat (128 + mg_ct (mg_k M) (mg_P M))))], [], A134) _
      refine wp_st 1 (f' := (42, [some (.ref (b)), some (.int (Int32.ofNat (128 + mg_ct (mg_k M) (mg_P M))))], [.ref (b)], A134)) rfl ?_
      refine rw_gr h136 rfl rfl rfl rfl rfl rfl ?_
      refine wp_st 1 (f' := (46, [some (.ref (b)), some (.int (Int32.ofNat (128 + mg_ct (mg_k M) (mg_P M))))], [.int (Int32.ofNat (128 + mg_ct (mg_k M) (mg_P M))), .ref (b + 8)], A134)) rfl ?_
      refine rw_al (j := 10) (n := 128 + mg_ct (mg_k M) (mg_P M)) (v := .int (Int32.ofNat N9)) h136 rfl rfl rfl (Or.inl ⟨rfl, rfl⟩) rfl (show _ < 192 from by omega) (by rw [rf_c_ne (by decide), rf_u_eq]) rfl ?_
      refine wp_st 1 (f' := (48, [some (.ref (b)), some (.int (Int32.ofNat (128 + mg_ct (mg_k M) (mg_P M))))], [.int (Int32.ofNat 4), .int (Int32.ofNat N9)], A134)) rfl ?_
      refine wp_ifT rfl rfl ((i32_le (a := 4) (b := N9) (by omega) (by omega)).mpr (by omega)) ?_
      refine wp_st 2 (f' := (61, [some (.ref (b)), some (.int (Int32.ofNat (128 + mg_ct (mg_k M) (mg_P M))))], [.int (Int32.ofNat 44), .ref (b)], A134)) rfl ?_
      by_cases c139 : sb_lk cs n (rd_sk cs n (sb_re 97 122 cs n (rd_sk cs n a))) = 44
      · skip
        have c139p : rd_sk cs n (sb_re 97 122 cs n (rd_sk cs n a)) < n := sb_lk_pos (cs := cs) (by omega)
        obtain ⟨A140, g141, h142, f143⟩ := (show rf_go _ _ _ _ _ _ (rf_c (rf_u t 10 (128 + mg_ct (mg_k M) (mg_P M)) (.int (Int32.ofNat N9))) (rd_sk cs n (sb_re 97 122 cs n (rd_sk cs n a)) + 1) (-1) (rf_rw cs (rd_sk cs n a) (sb_re 97 122 cs n (rd_sk cs n a) - (rd_sk cs n a))) (rd_sk cs n a)) from by have e := rr_need (d := d - 1) (c := 44) (by omega) (by omega) (by omega) (show rf_tx (rf_u t 10 (128 + mg_ct (mg_k M) (mg_P M)) (.int (Int32.ofNat N9))) cs n from hx) h136; rw [if_pos c139] at e; exact e)
        have f144 := f138.trans f143
        refine wp_cv (A' := A140) (v := none) rfl rfl rfl rfl rfl (show _ from h136.1) (by omega) (g141) rfl ?_
        show am_wp d 133 (64, [some (.ref (b)), some (.int (Int32.ofNat (128 + mg_ct (mg_k M) (mg_P M))))], [], A140) _
        refine wp_st 1 (f' := (65, [some (.ref (b)), some (.int (Int32.ofNat (128 + mg_ct (mg_k M) (mg_P M))))], [.ref (b)], A140)) rfl ?_
        have k145 := rd_sk_gt (cs := cs) (n := n) (a := rd_sk cs n (sb_re 97 122 cs n (rd_sk cs n a)) + 1)
        obtain ⟨A146, g147, h148, f149⟩ := (show rf_go (d - 1) 129 [.ref b] A140 b none (rf_c (rf_u t 10 (128 + mg_ct (mg_k M) (mg_P M)) (.int (Int32.ofNat N9))) (rd_sk cs n (rd_sk cs n (sb_re 97 122 cs n (rd_sk cs n a)) + 1)) (-1) (rf_rw cs (rd_sk cs n a) (sb_re 97 122 cs n (rd_sk cs n a) - (rd_sk cs n a))) (rd_sk cs n a)) from rr_spaces (d := d - 1) (by omega) (by omega) (show rf_tx (rf_u t 10 (128 + mg_ct (mg_k M) (mg_P M)) (.int (Int32.ofNat N9))) cs n from hx) h142)
        have f150 := f144.trans f149
        refine wp_cv (A' := A146) (v := none) rfl rfl rfl rfl rfl (show _ from h142.1) (by omega) (g147) rfl ?_
        show am_wp d 133 (68, [some (.ref (b)), some (.int (Int32.ofNat (128 + mg_ct (mg_k M) (mg_P M))))], [], A146) _
        refine wp_st 1 (f' := (69, [some (.ref (b)), some (.int (Int32.ofNat (128 + mg_ct (mg_k M) (mg_P M))))], [.ref (b)], A146)) rfl ?_
        refine rw_gr h148 rfl rfl rfl rfl rfl rfl ?_
        refine wp_st 1 (f' := (73, [some (.ref (b)), some (.int (Int32.ofNat (128 + mg_ct (mg_k M) (mg_P M))))], [.int (Int32.ofNat (128 + mg_ct (mg_k M) (mg_P M))), .ref (b + 8)], A146)) rfl ?_
        refine rw_al (j := 10) (n := 128 + mg_ct (mg_k M) (mg_P M)) (v := .int (Int32.ofNat N9)) h148 rfl rfl rfl (Or.inl ⟨rfl, rfl⟩) rfl (show _ < 192 from by omega) (by rw [rf_c_ne (by decide), rf_u_eq]) rfl ?_
        refine wp_st 1 (f' := (76, [some (.ref (b)), some (.int (Int32.ofNat (128 + mg_ct (mg_k M) (mg_P M))))], [.int (Int32.ofNat 6), .int (Int32.ofNat N9)], A146)) rfl ?_
        refine wp_ifF rfl rfl (fun q => absurd ((i32_eq (a := N9) (b := 6) (by omega) (by omega)).mp q) (by omega)) ?_
        refine wp_st 1 (f' := (80, [some (.ref (b)), some (.int (Int32.ofNat (128 + mg_ct (mg_k M) (mg_P M))))], [.ref (b)], A146)) rfl ?_
        refine rw_gf (v := .int ((-1))) h148 rfl rfl rfl rfl (rfl) rfl ?_
        refine wp_izF rfl rfl (show ¬ ((Int32.ofNat 0) ≤ (-1 : Int32)) from by decide) ?_
        refine wp_st 2 (f' := (88, [some (.ref (b)), some (.int (Int32.ofNat (128 + mg_ct (mg_k M) (mg_P M))))], [.int (Int32.ofNat (128 + mg_ct (mg_k M) (mg_P M))), .ref (b)], A146)) rfl ?_
        have hTk := hT (rd_kind cs (rd_sk cs n a) (sb_re 97 122 cs n (rd_sk cs n a))) (by omega) (by omega)
        rw [hN9] at hTk
        obtain ⟨⟨o8, A8⟩, g8, q8⟩ := mo_off (d := d - 1) (ci := mg_ct (mg_k M) (mg_P M)) (by omega) (by omega) (by omega) (show rf_tx (rf_u t 10 (128 + mg_ct (mg_k M) (mg_P M)) (.int (Int32.ofNat N9))) cs n from hx) h148
        have hoo := rd_off_o2 (cs := cs) (n := n) (p := rd_sk cs n (rd_sk cs n (sb_re 97 122 cs n (rd_sk cs n a)) + 1)) (i := mg_P M) (M := mg_add M (rd_kind cs (rd_sk cs n a) (sb_re 97 122 cs n (rd_sk cs n a))) x)
        rcases ho2 : rd_o2 cs n (rd_sk cs n (rd_sk cs n (sb_re 97 122 cs n (rd_sk cs n a)) + 1)) with _ | e8 | ⟨a8, v8⟩
        · skip
          rw [ho2] at q8 hoo
          dsimp only at hoo
          obtain ⟨p0, r8, g9, p1, p5⟩ := q8
          dsimp only at p0 p1
          subst p0
          have hF8 := f150.trans p5
          refine wp_cv (A' := A8) (v := none) rfl rfl rfl rfl rfl (show _ from h148.1) (by omega) (g8) rfl ?_
          show am_wp d 133 (91, [some (.ref (b)), some (.int (Int32.ofNat (128 + mg_ct (mg_k M) (mg_P M))))], [], A8) _
          refine wp_st 2 (f' := (93, [some (.ref (b)), some (.int (Int32.ofNat (128 + mg_ct (mg_k M) (mg_P M))))], [.int (Int32.ofNat (128 + mg_ct (mg_k M) (mg_P M))), .ref (b)], A8)) rfl ?_
          have hI2 := hTk.1
          rw [decide_eq_true (show 6 ≤ rd_kind cs (rd_sk cs n a) (sb_re 97 122 cs n (rd_sk cs n a)) by omega)] at hI2
          have hk2 : mg_k (mg_add M (rd_kind cs (rd_sk cs n a) (sb_re 97 122 cs n (rd_sk cs n a))) x) (mg_P M) = rd_kind cs (rd_sk cs n a) (sb_re 97 122 cs n (rd_sk cs n a)) := up_eq ..
          have hc2 : mg_ct (mg_k (mg_add M (rd_kind cs (rd_sk cs n a) (sb_re 97 122 cs n (rd_sk cs n a))) x)) (mg_P M) = mg_ct (mg_k M) (mg_P M) := mg_ct_up (Nat.le_refl _)
          have hc3 : mg_ct (mg_k (mg_add M (rd_kind cs (rd_sk cs n a) (sb_re 97 122 cs n (rd_sk cs n a))) x)) (mg_P (mg_add M (rd_kind cs (rd_sk cs n a) (sb_re 97 122 cs n (rd_sk cs n a))) x)) = mg_ct (mg_k M) (mg_P M) + 1 := by rw [show mg_P (mg_add M (rd_kind cs (rd_sk cs n a) (sb_re 97 122 cs n (rd_sk cs n a))) x) = mg_P M + 1 from rfl, mg_ct, hc2, hk2, if_pos (by omega)]
          obtain ⟨⟨o9, A9⟩, g9c, q9⟩ := mb_bo (d := d - 1) (M := mg_add M (rd_kind cs (rd_sk cs n a) (sb_re 97 122 cs n (rd_sk cs n a))) x) (i := mg_P M) (by omega) (by omega) (show 3 * mg_B M ≤ _ by omega) (show 3 * mg_ct (mg_k (mg_add M (rd_kind cs (rd_sk cs n a) (sb_re 97 122 cs n (rd_sk cs n a))) x)) (mg_P (mg_add M (rd_kind cs (rd_sk cs n a) (sb_re 97 122 cs n (rd_sk cs n a))) x)) ≤ _ by omega) hlp (show 6 ≤ mg_k (mg_add M (rd_kind cs (rd_sk cs n a) (sb_re 97 122 cs n (rd_sk cs n a))) x) (mg_P M) by omega) hc128 (show rf_tx (rf_u t 10 (128 + mg_ct (mg_k M) (mg_P M)) (.int (Int32.ofNat N9))) cs n from hx) hI2 p1
          have q9r : o9 = .inl none := q9.ret
          subst q9r
          rw [show mg_k (mg_add M (rd_kind cs (rd_sk cs n a) (sb_re 97 122 cs n (rd_sk cs n a))) x) (mg_P M) = rd_kind cs (rd_sk cs n a) (sb_re 97 122 cs n (rd_sk cs n a)) from hk2] at q9
          replace q9 := mb_Q.B (M := M) rfl q9
          rw [show mg_ct (mg_k (mg_add M (rd_kind cs (rd_sk cs n a) (sb_re 97 122 cs n (rd_sk cs n a))) x)) (mg_P M) = mg_ct (mg_k M) (mg_P M) from hc2] at g9c
          refine wp_cv (A' := A9) (v := none) rfl rfl rfl rfl rfl (show _ from p1.1) (by omega) (g9c) rfl ?_
          show am_wp d 133 (96, [some (.ref (b)), some (.int (Int32.ofNat (128 + mg_ct (mg_k M) (mg_P M))))], [], A9) _
          refine wp_rt rfl rfl rfl ?_
          rw [show rd_tb cs n L x (rd_sk cs n a) M = rd_bo cs n L (mg_P M) (decide (rd_kind cs (rd_sk cs n a) (sb_re 97 122 cs n (rd_sk cs n a)) ≠ 6)) (rd_sk cs n (rd_sk cs n (sb_re 97 122 cs n (rd_sk cs n a)) + 1)) (mg_add M (rd_kind cs (rd_sk cs n a) (sb_re 97 122 cs n (rd_sk cs n a))) x) from by unfold rd_tb; rw [if_neg (by omega), if_neg (by omega), if_pos c139, rd_tr, if_neg (show ¬ rd_kind cs (rd_sk cs n a) (sb_re 97 122 cs n (rd_sk cs n a)) = 6 by omega), hoo]]
          exact q9.tr ((rm_X.refl t).u (by unfold rm_sc; omega)) hF8
        · skip
          rw [ho2] at q8 hoo
          dsimp only at hoo
          obtain ⟨p0, r8, g9, p1, p5⟩ := q8
          dsimp only at p0 p1
          subst p0
          have hF8 := f150.trans p5
          have hoe := rd_off_er (by omega) hoo
          refine wp_cv (A' := A8) (v := none) rfl rfl rfl rfl rfl (show _ from h148.1) (by omega) (g8) rfl ?_
          show am_wp d 133 (91, [some (.ref (b)), some (.int (Int32.ofNat (128 + mg_ct (mg_k M) (mg_P M))))], [], A8) _
          refine wp_st 2 (f' := (93, [some (.ref (b)), some (.int (Int32.ofNat (128 + mg_ct (mg_k M) (mg_P M))))], [.int (Int32.ofNat (128 + mg_ct (mg_k M) (mg_P M))), .ref (b)], A8)) rfl ?_
          have k151 := rd_sk_gt (cs := cs) (n := n) (a := e8)
          obtain ⟨A152, g153, h154, f155⟩ := (show rf_go _ _ _ _ _ _ (rf_c (rf_u t 10 (128 + mg_ct (mg_k M) (mg_P M)) (.int (Int32.ofNat N9))) (rd_sk cs n e8) (Int32.ofNat e8) r8 g9) from mb_bof (d := d - 1) (by omega) (by omega) (by omega) (show rf_tx (rf_u t 10 (128 + mg_ct (mg_k M) (mg_P M)) (.int (Int32.ofNat N9))) cs n from hx) p1)
          have f156 := hF8.trans f155
          refine wp_cv (A' := A152) (v := none) rfl rfl rfl rfl rfl (show _ from p1.1) (by omega) (g153) rfl ?_
          show am_wp d 133 (96, [some (.ref (b)), some (.int (Int32.ofNat (128 + mg_ct (mg_k M) (mg_P M))))], [], A152) _
          refine wp_rt rfl rfl rfl ?_
          rw [show rd_tb cs n L x (rd_sk cs n a) M = .error e8 from by unfold rd_tb; rw [if_neg (by omega), if_neg (by omega), if_pos c139, rd_tr, if_neg (show ¬ rd_kind cs (rd_sk cs n a) (sb_re 97 122 cs n (rd_sk cs n a)) = 6 by omega), hoo]]
          exact ⟨rfl, _, _, _, _, _, _, h154, h22, by omega, by omega, Or.inl ⟨rfl, by omega⟩, ((rm_X.refl t).u (by unfold rm_sc; omega)), f156⟩
        · skip
          rw [ho2] at q8 hoo
          dsimp only at hoo
          obtain ⟨p0, r8, g9, p1, p5⟩ := q8
          dsimp only at p0 p1
          subst p0
          have hF8 := f150.trans p5
          have hobd := rd_o2_le (by omega) ho2
          have hx8 : rf_tx (rf_u (rf_u t 10 (128 + mg_ct (mg_k M) (mg_P M)) (.int (Int32.ofNat N9))) 11 (128 + mg_ct (mg_k M) (mg_P M)) (.int (Int32.ofNat v8))) cs n := hx
          refine wp_cv (A' := A8) (v := none) rfl rfl rfl rfl rfl (show _ from h148.1) (by omega) (g8) rfl ?_
          show am_wp d 133 (91, [some (.ref (b)), some (.int (Int32.ofNat (128 + mg_ct (mg_k M) (mg_P M))))], [], A8) _
          refine wp_st 2 (f' := (93, [some (.ref (b)), some (.int (Int32.ofNat (128 + mg_ct (mg_k M) (mg_P M))))], [.int (Int32.ofNat (128 + mg_ct (mg_k M) (mg_P M))), .ref (b)], A8)) rfl ?_
          have hI2 := hTk.1
          rw [decide_eq_true (show 6 ≤ rd_kind cs (rd_sk cs n a) (sb_re 97 122 cs n (rd_sk cs n a)) by omega)] at hI2
          have hk2 : mg_k (mg_add M (rd_kind cs (rd_sk cs n a) (sb_re 97 122 cs n (rd_sk cs n a))) x) (mg_P M) = rd_kind cs (rd_sk cs n a) (sb_re 97 122 cs n (rd_sk cs n a)) := up_eq ..
          have hc2 : mg_ct (mg_k (mg_add M (rd_kind cs (rd_sk cs n a) (sb_re 97 122 cs n (rd_sk cs n a))) x)) (mg_P M) = mg_ct (mg_k M) (mg_P M) := mg_ct_up (Nat.le_refl _)
          have hc3 : mg_ct (mg_k (mg_add M (rd_kind cs (rd_sk cs n a) (sb_re 97 122 cs n (rd_sk cs n a))) x)) (mg_P (mg_add M (rd_kind cs (rd_sk cs n a) (sb_re 97 122 cs n (rd_sk cs n a))) x)) = mg_ct (mg_k M) (mg_P M) + 1 := by rw [show mg_P (mg_add M (rd_kind cs (rd_sk cs n a) (sb_re 97 122 cs n (rd_sk cs n a))) x) = mg_P M + 1 from rfl, mg_ct, hc2, hk2, if_pos (by omega)]
          have hI3 := hI2.off (i := mg_P M) (v := v8) (t := rf_u (rf_u t 10 (128 + mg_ct (mg_k M) (mg_P M)) (.int (Int32.ofNat N9))) 11 (128 + mg_ct (mg_k M) (mg_P M)) (.int (Int32.ofNat v8))) (show mg_P M < mg_P M + 1 by omega) (by omega) (by rw [hc2, rf_u_eq]) (fun j q z => by rw [hc2] at z; exact rf_u_ne (by omega))
          obtain ⟨⟨o9, A9⟩, g9c, q9⟩ := mb_bo (d := d - 1) (M := mg_off (mg_add M (rd_kind cs (rd_sk cs n a) (sb_re 97 122 cs n (rd_sk cs n a))) x) (mg_P M) v8) (i := mg_P M) (by omega) (by omega) (show 3 * mg_B M ≤ _ by omega) (show 3 * mg_ct (mg_k (mg_add M (rd_kind cs (rd_sk cs n a) (sb_re 97 122 cs n (rd_sk cs n a))) x)) (mg_P (mg_add M (rd_kind cs (rd_sk cs n a) (sb_re 97 122 cs n (rd_sk cs n a))) x)) ≤ _ by omega) hlp (show 6 ≤ mg_k (mg_add M (rd_kind cs (rd_sk cs n a) (sb_re 97 122 cs n (rd_sk cs n a))) x) (mg_P M) by omega) hc128 (show rf_tx (rf_u (rf_u t 10 (128 + mg_ct (mg_k M) (mg_P M)) (.int (Int32.ofNat N9))) 11 (128 + mg_ct (mg_k M) (mg_P M)) (.int (Int32.ofNat v8))) cs n from hx8) hI3 p1
          have q9r : o9 = .inl none := q9.ret
          subst q9r
          rw [show mg_k (mg_off (mg_add M (rd_kind cs (rd_sk cs n a) (sb_re 97 122 cs n (rd_sk cs n a))) x) (mg_P M) v8) (mg_P M) = rd_kind cs (rd_sk cs n a) (sb_re 97 122 cs n (rd_sk cs n a)) from hk2] at q9
          replace q9 := mb_Q.B (M := M) rfl q9
          rw [show mg_ct (mg_k (mg_off (mg_add M (rd_kind cs (rd_sk cs n a) (sb_re 97 122 cs n (rd_sk cs n a))) x) (mg_P M) v8)) (mg_P M) = mg_ct (mg_k M) (mg_P M) from hc2] at g9c
          refine wp_cv (A' := A9) (v := none) rfl rfl rfl rfl rfl (show _ from p1.1) (by omega) (g9c) rfl ?_
          show am_wp d 133 (96, [some (.ref (b)), some (.int (Int32.ofNat (128 + mg_ct (mg_k M) (mg_P M))))], [], A9) _
          refine wp_rt rfl rfl rfl ?_
          by_cases hdg : sb_re 48 57 cs n a8 = a8
          · rw [if_pos hdg] at hoo
            rw [show rd_tb cs n L x (rd_sk cs n a) M = rd_bo cs n L (mg_P M) (decide (rd_kind cs (rd_sk cs n a) (sb_re 97 122 cs n (rd_sk cs n a)) ≠ 6)) a8 (mg_off (mg_add M (rd_kind cs (rd_sk cs n a) (sb_re 97 122 cs n (rd_sk cs n a))) x) (mg_P M) v8) from by unfold rd_tb; rw [if_neg (by omega), if_neg (by omega), if_pos c139, rd_tr, if_neg (show ¬ rd_kind cs (rd_sk cs n a) (sb_re 97 122 cs n (rd_sk cs n a)) = 6 by omega), hoo]]
            exact q9.tr (((rm_X.refl t).u (by unfold rm_sc; omega)).u (by unfold rm_sc; omega)) hF8
          · rw [if_neg hdg] at hoo
            rw [show rd_tb cs n L x (rd_sk cs n a) M = .error a8 from by unfold rd_tb; rw [if_neg (by omega), if_neg (by omega), if_pos c139, rd_tr, if_neg (show ¬ rd_kind cs (rd_sk cs n a) (sb_re 97 122 cs n (rd_sk cs n a)) = 6 by omega), hoo]]
            rw [rd_bo_dig hdg] at q9
            exact q9.tr (((rm_X.refl t).u (by unfold rm_sc; omega)).u (by unfold rm_sc; omega)) hF8
      · skip
        obtain ⟨A157, g158, h159, f160⟩ := (show rf_go _ _ _ _ _ _ (rf_c (rf_u t 10 (128 + mg_ct (mg_k M) (mg_P M)) (.int (Int32.ofNat N9))) (rd_sk cs n (sb_re 97 122 cs n (rd_sk cs n a)) + 1) (Int32.ofNat (rd_sk cs n (sb_re 97 122 cs n (rd_sk cs n a)))) (rf_rw cs (rd_sk cs n a) (sb_re 97 122 cs n (rd_sk cs n a) - (rd_sk cs n a))) (rd_sk cs n a)) from by have e := rr_need (d := d - 1) (c := 44) (by omega) (by omega) (by omega) (show rf_tx (rf_u t 10 (128 + mg_ct (mg_k M) (mg_P M)) (.int (Int32.ofNat N9))) cs n from hx) h136; rw [if_neg c139, rf_w_m] at e; exact e)
        have f161 := f138.trans f160
        refine wp_cv (A' := A157) (v := none) rfl rfl rfl rfl rfl (show _ from h136.1) (by omega) (g158) rfl ?_
        show am_wp d 133 (64, [some (.ref (b)), some (.int (Int32.ofNat (128 + mg_ct (mg_k M) (mg_P M))))], [], A157) _
        refine wp_st 1 (f' := (65, [some (.ref (b)), some (.int (Int32.ofNat (128 + mg_ct (mg_k M) (mg_P M))))], [.ref (b)], A157)) rfl ?_
        have k162 := rd_sk_gt (cs := cs) (n := n) (a := rd_sk cs n (sb_re 97 122 cs n (rd_sk cs n a)) + 1)
        obtain ⟨A163, g164, h165, f166⟩ := (show rf_go (d - 1) 129 [.ref b] A157 b none (rf_c (rf_u t 10 (128 + mg_ct (mg_k M) (mg_P M)) (.int (Int32.ofNat N9))) (rd_sk cs n (rd_sk cs n (sb_re 97 122 cs n (rd_sk cs n a)) + 1)) (Int32.ofNat (rd_sk cs n (sb_re 97 122 cs n (rd_sk cs n a)))) (rf_rw cs (rd_sk cs n a) (sb_re 97 122 cs n (rd_sk cs n a) - (rd_sk cs n a))) (rd_sk cs n a)) from rr_spaces (d := d - 1) (by omega) (by omega) (show rf_tx (rf_u t 10 (128 + mg_ct (mg_k M) (mg_P M)) (.int (Int32.ofNat N9))) cs n from hx) h159)
        have f167 := f161.trans f166
        refine wp_cv (A' := A163) (v := none) rfl rfl rfl rfl rfl (show _ from h159.1) (by omega) (g164) rfl ?_
        show am_wp d 133 (68, [some (.ref (b)), some (.int (Int32.ofNat (128 + mg_ct (mg_k M) (mg_P M))))], [], A163) _
        refine wp_st 1 (f' := (69, [some (.ref (b)), some (.int (Int32.ofNat (128 + mg_ct (mg_k M) (mg_P M))))], [.ref (b)], A163)) rfl ?_
        refine rw_gr h165 rfl rfl rfl rfl rfl rfl ?_
        refine wp_st 1 (f' := (73, [some (.ref (b)), some (.int (Int32.ofNat (128 + mg_ct (mg_k M) (mg_P M))))], [.int (Int32.ofNat (128 + mg_ct (mg_k M) (mg_P M))), .ref (b + 8)], A163)) rfl ?_
        refine rw_al (j := 10) (n := 128 + mg_ct (mg_k M) (mg_P M)) (v := .int (Int32.ofNat N9)) h165 rfl rfl rfl (Or.inl ⟨rfl, rfl⟩) rfl (show _ < 192 from by omega) (by rw [rf_c_ne (by decide), rf_u_eq]) rfl ?_
        refine wp_st 1 (f' := (76, [some (.ref (b)), some (.int (Int32.ofNat (128 + mg_ct (mg_k M) (mg_P M))))], [.int (Int32.ofNat 6), .int (Int32.ofNat N9)], A163)) rfl ?_
        refine wp_ifF rfl rfl (fun q => absurd ((i32_eq (a := N9) (b := 6) (by omega) (by omega)).mp q) (by omega)) ?_
        refine wp_st 1 (f' := (80, [some (.ref (b)), some (.int (Int32.ofNat (128 + mg_ct (mg_k M) (mg_P M))))], [.ref (b)], A163)) rfl ?_
        refine rw_gf (v := .int (Int32.ofNat (rd_sk cs n (sb_re 97 122 cs n (rd_sk cs n a))))) h165 rfl rfl rfl rfl (rfl) rfl ?_
        refine wp_izT rfl rfl (show Int32.ofNat 0 ≤ (Int32.ofNat (rd_sk cs n (sb_re 97 122 cs n (rd_sk cs n a)))) from Int32.not_lt.mp (Int32.ofNat_not_neg (by omega))) ?_
        refine wp_st 2 (f' := (93, [some (.ref (b)), some (.int (Int32.ofNat (128 + mg_ct (mg_k M) (mg_P M))))], [.int (Int32.ofNat (128 + mg_ct (mg_k M) (mg_P M))), .ref (b)], A163)) rfl ?_
        have k168 := rd_sk_gt (cs := cs) (n := n) (a := rd_sk cs n (rd_sk cs n (sb_re 97 122 cs n (rd_sk cs n a)) + 1))
        obtain ⟨A169, g170, h171, f172⟩ := (show rf_go _ _ _ _ _ _ (rf_c (rf_u t 10 (128 + mg_ct (mg_k M) (mg_P M)) (.int (Int32.ofNat N9))) (rd_sk cs n (rd_sk cs n (rd_sk cs n (sb_re 97 122 cs n (rd_sk cs n a)) + 1))) (Int32.ofNat (rd_sk cs n (sb_re 97 122 cs n (rd_sk cs n a)))) (rf_rw cs (rd_sk cs n a) (sb_re 97 122 cs n (rd_sk cs n a) - (rd_sk cs n a))) (rd_sk cs n a)) from mb_bof (d := d - 1) (by omega) (by omega) (by omega) (show rf_tx (rf_u t 10 (128 + mg_ct (mg_k M) (mg_P M)) (.int (Int32.ofNat N9))) cs n from hx) h165)
        have f173 := f167.trans f172
        refine wp_cv (A' := A169) (v := none) rfl rfl rfl rfl rfl (show _ from h165.1) (by omega) (g170) rfl ?_
        show am_wp d 133 (96, [some (.ref (b)), some (.int (Int32.ofNat (128 + mg_ct (mg_k M) (mg_P M))))], [], A169) _
        refine wp_rt rfl rfl rfl ?_
        rw [show rd_tb cs n L x (rd_sk cs n a) M = .error (rd_sk cs n (sb_re 97 122 cs n (rd_sk cs n a))) from by unfold rd_tb; rw [if_neg (by omega), if_neg (by omega), if_neg c139]]
        exact ⟨rfl, _, _, _, _, _, _, h171, h22, by omega, by omega, Or.inl ⟨rfl, by omega⟩, ((rm_X.refl t).u (by unfold rm_sc; omega)), f173⟩
