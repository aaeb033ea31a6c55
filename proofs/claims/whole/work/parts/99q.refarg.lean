/-! The reference: beginArgument. -/
theorem ma_arg {d b n a g L : Nat} {r : Int64} {cs : List Nat} {M : mg} {E dp ob : Nat → Nat} {lp : Nat → Option Nat} {s : rf_S} {A : am_H} (hd : 7 ≤ d) (ha : a < n) (hP : mg_P M ≤ a) (hB3 : 3 * mg_B M ≤ a) (hA : 3 * mg_ct (mg_k M) (mg_P M) ≤ a) (hc128 : ∀ j, cs.getD j 0 < 128) (hx : rf_tx s cs n) (hI : rm_I s M L E dp lp ob false) (hr : rm_rd M L lp) (h : rf A b (rf_c s a (-1) r g)) : am_wp d 128 (0, am_ent 128 [.ref b], [], A) (mb_Q A s b n M L (up_ E (mg_P M) (1000 + L)) (up_ dp (mg_P M) L) (up_ lp L (some (mg_P M))) ob (rd_ab cs n L (a + 1) M)) := by
  have hn1 := hx.2.2.1
  have hlk : ∀ k, sb_lk cs n k < 128 := by
    intro k
    unfold sb_lk
    split
    · have := hx.2.2.2 k (by omega)
      omega
    · omega
  refine wp_st 2 (f' := (4, [some (.ref (b)), none], [.ref (b), .int (Int32.ofNat 128)], A)) rfl ?_
  refine rw_gf (v := .int (Int32.ofNat (mg_ct (mg_k M) (mg_P M)))) h rfl rfl rfl rfl (hI.s20) rfl ?_
  refine wp_st 1 (f' := (8, [some (.ref (b)), none], [.int ((Int32.ofNat 128) + (Int32.ofNat (mg_ct (mg_k M) (mg_P M))))], A)) rfl ?_
  rw [i32_add (128) (mg_ct (mg_k M) (mg_P M))]
  refine wp_st 3 (f' := (11, [some (.ref (b)), some (.int (Int32.ofNat (128 + (mg_ct (mg_k M) (mg_P M)))))], [.ref (b), .ref (b)], A)) rfl ?_
  refine rw_gf (v := .int (Int32.ofNat (mg_ct (mg_k M) (mg_P M)))) h rfl rfl rfl rfl (hI.s20) rfl ?_
  refine wp_st 2 (f' := (16, [some (.ref (b)), some (.int (Int32.ofNat (128 + (mg_ct (mg_k M) (mg_P M)))))], [.int ((Int32.ofNat (mg_ct (mg_k M) (mg_P M))) + (Int32.ofNat 1)), .ref (b)], A)) rfl ?_
  rw [i32_add (mg_ct (mg_k M) (mg_P M)) (1)]
  refine rw_pf (v := .int (Int32.ofNat (mg_ct (mg_k M) (mg_P M) + 1))) h rfl rfl rfl rfl rfl rfl (fun A1 h2 f3 => ?_)
  have f4 := (sb_fr.refl A b (b + 38)).trans f3
  rw [rf_c_u (by decide)] at h2
  refine wp_st 2 (f' := (21, [some (.ref (b)), some (.int (Int32.ofNat (128 + (mg_ct (mg_k M) (mg_P M)))))], [.ref (b), .ref (b)], A1)) rfl ?_
  refine rw_gf (v := .int (Int32.ofNat a)) h2 rfl rfl rfl rfl (rfl) rfl ?_
  refine wp_st 2 (f' := (26, [some (.ref (b)), some (.int (Int32.ofNat (128 + (mg_ct (mg_k M) (mg_P M)))))], [.int ((Int32.ofNat a) + (Int32.ofNat 1)), .ref (b)], A1)) rfl ?_
  rw [i32_add (a) (1)]
  refine rw_pf (v := .int (Int32.ofNat (a + 1))) h2 rfl rfl rfl rfl rfl rfl (fun A5 h6 f7 => ?_)
  have f8 := f4.trans f7
  rw [rf_c17] at h6
  refine wp_st 1 (f' := (30, [some (.ref (b)), some (.int (Int32.ofNat (128 + (mg_ct (mg_k M) (mg_P M)))))], [.ref (b)], A5)) rfl ?_
  have k9 := rd_sk_gt (cs := cs) (n := n) (a := a + 1)
  obtain ⟨A10, g11, h12, f13⟩ := (show rf_go (d - 1) 129 [.ref b] A5 b none (rf_c (rf_u s 20 0 (.int (Int32.ofNat (mg_ct (mg_k M) (mg_P M) + 1)))) (rd_sk cs n (a + 1)) (-1) r g) from rr_spaces (d := d - 1) (by omega) (by omega) (show rf_tx (rf_u s 20 0 (.int (Int32.ofNat (mg_ct (mg_k M) (mg_P M) + 1)))) cs n from hx) h6)
  have f14 := f8.trans f13
  refine wp_cv (A' := A10) (v := none) rfl rfl rfl rfl rfl (show _ from h6.1) (by omega) (g11) rfl ?_
  show am_wp d 128 (33, [some (.ref (b)), some (.int (Int32.ofNat (128 + (mg_ct (mg_k M) (mg_P M)))))], [], A10) _
  refine wp_st 2 (f' := (35, [some (.ref (b)), some (.int (Int32.ofNat (128 + (mg_ct (mg_k M) (mg_P M)))))], [.int (Int32.ofNat 4), .ref (b)], A10)) rfl ?_
  have huk := sb_re_le (lo := 97) (hi := 122) (cs := cs) (n := n) (a := rd_sk cs n (a + 1))
  have huj := huk.2.1 (by omega)
  rcases (show sb_re 97 122 cs n (rd_sk cs n (a + 1)) = rd_sk cs n (a + 1) ∨ (¬ sb_re 97 122 cs n (rd_sk cs n (a + 1)) = rd_sk cs n (a + 1) ∧ 4 < sb_re 97 122 cs n (rd_sk cs n (a + 1)) - (rd_sk cs n (a + 1))) ∨ (¬ sb_re 97 122 cs n (rd_sk cs n (a + 1)) = rd_sk cs n (a + 1) ∧ ¬ 4 < sb_re 97 122 cs n (rd_sk cs n (a + 1)) - (rd_sk cs n (a + 1))) by omega) with hu | ⟨hu, hu6⟩ | ⟨hu, hu6⟩
  · skip
    have hnam : rd_name cs n (rd_sk cs n (a + 1)) = .error (rd_sk cs n (a + 1)) := by unfold rd_name; rw [if_pos hu]
    obtain ⟨A15, g16, h17, f18⟩ := (show rf_go _ _ _ _ _ _ (rf_c (rf_u s 20 0 (.int (Int32.ofNat (mg_ct (mg_k M) (mg_P M) + 1)))) (sb_re 97 122 cs n (rd_sk cs n (a + 1))) (Int32.ofNat (rd_sk cs n (a + 1))) (rf_rw cs (rd_sk cs n (a + 1)) (sb_re 97 122 cs n (rd_sk cs n (a + 1)) - (rd_sk cs n (a + 1)))) (rd_sk cs n (a + 1))) from by have q := rr_let (d := d - 1) (many := 4) (by omega) (by omega) (by omega) (show rf_tx (rf_u s 20 0 (.int (Int32.ofNat (mg_ct (mg_k M) (mg_P M) + 1)))) cs n from hx) h12; rw [rf_lt_er hu] at q; exact q)
    have f19 := f14.trans f18
    refine wp_cv (A' := A15) (v := none) rfl rfl rfl rfl rfl (show _ from h12.1) (by omega) (g16) rfl ?_
    show am_wp d 128 (38, [some (.ref (b)), some (.int (Int32.ofNat (128 + (mg_ct (mg_k M) (mg_P M)))))], [], A15) _
    refine wp_st 1 (f' := (39, [some (.ref (b)), some (.int (Int32.ofNat (128 + (mg_ct (mg_k M) (mg_P M)))))], [.ref (b)], A15)) rfl ?_
    refine rw_gr h17 rfl rfl rfl rfl rfl rfl ?_
    refine wp_st 2 (f' := (44, [some (.ref (b)), some (.int (Int32.ofNat (128 + (mg_ct (mg_k M) (mg_P M)))))], [.ref (b), .int (Int32.ofNat (128 + (mg_ct (mg_k M) (mg_P M)))), .ref (b + 7)], A15)) rfl ?_
    refine rw_gf (v := .long (rf_rw cs (rd_sk cs n (a + 1)) (sb_re 97 122 cs n (rd_sk cs n (a + 1)) - (rd_sk cs n (a + 1))))) h17 rfl rfl rfl rfl (rfl) rfl ?_
    refine wp_st 1 (f' := (48, [some (.ref (b)), some (.int (Int32.ofNat (128 + (mg_ct (mg_k M) (mg_P M)))))], [.int ((rf_rw cs (rd_sk cs n (a + 1)) (sb_re 97 122 cs n (rd_sk cs n (a + 1)) - (rd_sk cs n (a + 1)))).toInt32), .int (Int32.ofNat (128 + (mg_ct (mg_k M) (mg_P M)))), .ref (b + 7)], A15)) rfl ?_
    refine rw_as (j := 9) (n := 128 + (mg_ct (mg_k M) (mg_P M))) (v := .int ((rf_rw cs (rd_sk cs n (a + 1)) (sb_re 97 122 cs n (rd_sk cs n (a + 1)) - (rd_sk cs n (a + 1)))).toInt32)) h17 rfl rfl rfl (Or.inl ⟨rfl, rfl, rfl⟩) (show _ < 192 from by omega) rfl rfl (fun A20 h21 f22 => ?_)
    have f23 := f19.trans f22
    rw [rf_c_u (by decide)] at h21
    refine wp_st 1 (f' := (50, [some (.ref (b)), some (.int (Int32.ofNat (128 + (mg_ct (mg_k M) (mg_P M)))))], [.ref (b)], A20)) rfl ?_
    refine rw_gr h21 rfl rfl rfl rfl rfl rfl ?_
    refine wp_st 2 (f' := (55, [some (.ref (b)), some (.int (Int32.ofNat (128 + (mg_ct (mg_k M) (mg_P M)))))], [.int (Int32.ofNat 0), .int (Int32.ofNat (128 + (mg_ct (mg_k M) (mg_P M)))), .ref (b + 8)], A20)) rfl ?_
    refine rw_as (j := 10) (n := 128 + (mg_ct (mg_k M) (mg_P M))) (v := .int (Int32.ofNat 0)) h21 rfl rfl rfl (Or.inl ⟨rfl, rfl, rfl⟩) (show _ < 192 from by omega) rfl rfl (fun A24 h25 f26 => ?_)
    have f27 := f23.trans f26
    rw [rf_c_u (by decide)] at h25
    refine wp_st 1 (f' := (57, [some (.ref (b)), some (.int (Int32.ofNat (128 + (mg_ct (mg_k M) (mg_P M)))))], [.ref (b)], A24)) rfl ?_
    refine rw_gr h25 rfl rfl rfl rfl rfl rfl ?_
    refine wp_st 2 (f' := (62, [some (.ref (b)), some (.int (Int32.ofNat (128 + (mg_ct (mg_k M) (mg_P M)))))], [.int (Int32.ofNat 0), .int (Int32.ofNat (128 + (mg_ct (mg_k M) (mg_P M)))), .ref (b + 9)], A24)) rfl ?_
    refine rw_as (j := 11) (n := 128 + (mg_ct (mg_k M) (mg_P M))) (v := .int (Int32.ofNat 0)) h25 rfl rfl rfl (Or.inl ⟨rfl, rfl, rfl⟩) (show _ < 192 from by omega) rfl rfl (fun A28 h29 f30 => ?_)
    have f31 := f27.trans f30
    rw [rf_c_u (by decide)] at h29
    refine wp_st 1 (f' := (64, [some (.ref (b)), some (.int (Int32.ofNat (128 + (mg_ct (mg_k M) (mg_P M)))))], [.ref (b)], A28)) rfl ?_
    refine rw_gr h29 rfl rfl rfl rfl rfl rfl ?_
    refine wp_st 2 (f' := (69, [some (.ref (b)), some (.int (Int32.ofNat (128 + (mg_ct (mg_k M) (mg_P M)))))], [.int ((-1)), .int (Int32.ofNat (128 + (mg_ct (mg_k M) (mg_P M)))), .ref (b + 10)], A28)) rfl ?_
    refine rw_as (j := 12) (n := 128 + (mg_ct (mg_k M) (mg_P M))) (v := .int ((-1))) h29 rfl rfl rfl (Or.inl ⟨rfl, rfl, rfl⟩) (show _ < 192 from by omega) rfl rfl (fun A32 h33 f34 => ?_)
    have f35 := f31.trans f34
    rw [rf_c_u (by decide)] at h33
    refine wp_st 1 (f' := (71, [some (.ref (b)), some (.int (Int32.ofNat (128 + (mg_ct (mg_k M) (mg_P M)))))], [.ref (b)], A32)) rfl ?_
    have k36 := rd_sk_gt (cs := cs) (n := n) (a := sb_re 97 122 cs n (rd_sk cs n (a + 1)))
    obtain ⟨A37, g38, h39, f40⟩ := (show rf_go (d - 1) 129 [.ref b] A32 b none (rf_c (rf_u (rf_u (rf_u (rf_u (rf_u s 20 0 (.int (Int32.ofNat (mg_ct (mg_k M) (mg_P M) + 1)))) 9 (128 + (mg_ct (mg_k M) (mg_P M))) (.int ((rf_rw cs (rd_sk cs n (a + 1)) (sb_re 97 122 cs n (rd_sk cs n (a + 1)) - (rd_sk cs n (a + 1)))).toInt32))) 10 (128 + (mg_ct (mg_k M) (mg_P M))) (.int (Int32.ofNat 0))) 11 (128 + (mg_ct (mg_k M) (mg_P M))) (.int (Int32.ofNat 0))) 12 (128 + (mg_ct (mg_k M) (mg_P M))) (.int ((-1)))) (rd_sk cs n (sb_re 97 122 cs n (rd_sk cs n (a + 1)))) (Int32.ofNat (rd_sk cs n (a + 1))) (rf_rw cs (rd_sk cs n (a + 1)) (sb_re 97 122 cs n (rd_sk cs n (a + 1)) - (rd_sk cs n (a + 1)))) (rd_sk cs n (a + 1))) from rr_spaces (d := d - 1) (by omega) (by omega) (show rf_tx (rf_u (rf_u (rf_u (rf_u (rf_u s 20 0 (.int (Int32.ofNat (mg_ct (mg_k M) (mg_P M) + 1)))) 9 (128 + (mg_ct (mg_k M) (mg_P M))) (.int ((rf_rw cs (rd_sk cs n (a + 1)) (sb_re 97 122 cs n (rd_sk cs n (a + 1)) - (rd_sk cs n (a + 1)))).toInt32))) 10 (128 + (mg_ct (mg_k M) (mg_P M))) (.int (Int32.ofNat 0))) 11 (128 + (mg_ct (mg_k M) (mg_P M))) (.int (Int32.ofNat 0))) 12 (128 + (mg_ct (mg_k M) (mg_P M))) (.int ((-1)))) cs n from hx) h33)
    have f41 := f35.trans f40
    refine wp_cv (A' := A37) (v := none) rfl rfl rfl rfl rfl (show _ from h33.1) (by omega) (g38) rfl ?_
    show am_wp d 128 (74, [some (.ref (b)), some (.int (Int32.ofNat (128 + (mg_ct (mg_k M) (mg_P M)))))], [], A37) _
    refine wp_st 3 (f' := (77, [some (.ref (b)), some (.int (Int32.ofNat (128 + (mg_ct (mg_k M) (mg_P M)))))], [.int (Int32.ofNat (128 + (mg_ct (mg_k M) (mg_P M)))), .int (Int32.ofNat 2), .ref (b)], A37)) rfl ?_
    obtain ⟨s1, hs1⟩ : ∃ t, t = rf_u (rf_u (rf_u (rf_u (rf_u s 20 0 (.int (Int32.ofNat (mg_ct (mg_k M) (mg_P M) + 1)))) 9 (128 + (mg_ct (mg_k M) (mg_P M))) (.int ((rf_rw cs (rd_sk cs n (a + 1)) (sb_re 97 122 cs n (rd_sk cs n (a + 1)) - (rd_sk cs n (a + 1)))).toInt32))) 10 (128 + (mg_ct (mg_k M) (mg_P M))) (.int (Int32.ofNat 0))) 11 (128 + (mg_ct (mg_k M) (mg_P M))) (.int (Int32.ofNat 0))) 12 (128 + (mg_ct (mg_k M) (mg_P M))) (.int ((-1))) := ⟨_, rfl⟩
    rw [← hs1] at h39
    obtain ⟨⟨o9, A9⟩, g9, q0, t9, q1, q2, q5⟩ := rn_add (d := d - 1) (kc := Int32.ofNat 2) (x := Int32.ofNat (128 + mg_ct (mg_k M) (mg_P M))) hI (fun j i z => by rw [hs1, rf_u_ne (by omega), rf_u_ne (by omega), rf_u_ne (by omega), rf_u_ne (by omega), rf_u_ne (by omega)]) (by omega) h39
    dsimp only at q0 q1 q5
    subst q0
    have hX1 : rm_X s s1 := by rw [hs1]; exact ((((((rm_X.refl s).u (by unfold rm_sc; omega)).u (by unfold rm_sc; omega)).u (by unfold rm_sc; omega)).u (by unfold rm_sc; omega)).u (by unfold rm_sc; omega))
    have hX9 := hX1.trans q2.X
    have hx9 := hX9.tx hx
    have hF9 := f41.trans q5
    have h22 : t9 22 0 = .int (Int32.ofNat L) := by rw [q2.2.2.2.2.2.2 22 0 (by omega) (by omega) (by omega) (fun z => by unfold rm_hk at z; split at z <;> omega), hs1, rf_u_ne (by omega), rf_u_ne (by omega), rf_u_ne (by omega), rf_u_ne (by omega), rf_u_ne (by omega)]; exact hI.s22
    refine wp_cv (A' := A9) (v := none) rfl rfl rfl rfl rfl (show _ from h39.1) (by omega) (g9) rfl ?_
    show am_wp d 128 (80, [some (.ref (b)), some (.int (Int32.ofNat (128 + (mg_ct (mg_k M) (mg_P M)))))], [], A9) _
    refine wp_st 2 (f' := (82, [some (.ref (b)), some (.int (Int32.ofNat (128 + (mg_ct (mg_k M) (mg_P M)))))], [.ref (b), .ref (b)], A9)) rfl ?_
    refine rw_gf (v := .int (Int32.ofNat (rd_sk cs n (sb_re 97 122 cs n (rd_sk cs n (a + 1)))))) q1 rfl rfl rfl rfl (rfl) rfl ?_
    have l42 := hlk (rd_sk cs n (sb_re 97 122 cs n (rd_sk cs n (a + 1))))
    refine wp_cv (A' := A9) (v := some (.int (Int32.ofNat (sb_lk cs n (rd_sk cs n (sb_re 97 122 cs n (rd_sk cs n (a + 1)))))))) rfl rfl rfl rfl rfl (show _ from q1.1) (by omega) (rr_look (by omega) (show rf_tx (t9) cs n from hx9) q1) rfl ?_
    show am_wp d 128 (88, [some (.ref (b)), some (.int (Int32.ofNat (128 + (mg_ct (mg_k M) (mg_P M)))))], [.int (Int32.ofNat (sb_lk cs n (rd_sk cs n (sb_re 97 122 cs n (rd_sk cs n (a + 1))))))], A9) _
    refine wp_st 1 (f' := (90, [some (.ref (b)), some (.int (Int32.ofNat (128 + (mg_ct (mg_k M) (mg_P M)))))], [.int (Int32.ofNat 44), .int (Int32.ofNat (sb_lk cs n (rd_sk cs n (sb_re 97 122 cs n (rd_sk cs n (a + 1))))))], A9)) rfl ?_
    refine wp_if rfl rfl rfl (fun (h43 : (Int32.ofNat (sb_lk cs n (rd_sk cs n (sb_re 97 122 cs n (rd_sk cs n (a + 1)))))) ≠ (Int32.ofNat 44)) => ?_) (fun (h43 : ¬ ((Int32.ofNat (sb_lk cs n (rd_sk cs n (sb_re 97 122 cs n (rd_sk cs n (a + 1)))))) ≠ (Int32.ofNat 44))) => ?_)
    · skip
      rw [ne_eq, i32_eq (by omega) (by omega)] at h43
      refine wp_st 2 (f' := (121, [some (.ref (b)), some (.int (Int32.ofNat (128 + (mg_ct (mg_k M) (mg_P M)))))], [.int (Int32.ofNat 125), .ref (b)], A9)) rfl ?_
      by_cases c44 : sb_lk cs n (rd_sk cs n (sb_re 97 122 cs n (rd_sk cs n (a + 1)))) = 125
      · skip
        have c44p : rd_sk cs n (sb_re 97 122 cs n (rd_sk cs n (a + 1))) < n := sb_lk_pos (cs := cs) (by omega)
        obtain ⟨A45, g46, h47, f48⟩ := (show rf_go _ _ _ _ _ _ (rf_c t9 (rd_sk cs n (sb_re 97 122 cs n (rd_sk cs n (a + 1))) + 1) (Int32.ofNat (rd_sk cs n (a + 1))) (rf_rw cs (rd_sk cs n (a + 1)) (sb_re 97 122 cs n (rd_sk cs n (a + 1)) - (rd_sk cs n (a + 1)))) (rd_sk cs n (a + 1))) from by have e := rr_need (d := d - 1) (c := 125) (by omega) (by omega) (by omega) (show rf_tx (t9) cs n from hx9) q1; rw [if_pos c44] at e; exact e)
        have f49 := hF9.trans f48
        refine wp_cv (A' := A45) (v := none) rfl rfl rfl rfl rfl (show _ from q1.1) (by omega) (g46) rfl ?_
        show am_wp d 128 (124, [some (.ref (b)), some (.int (Int32.ofNat (128 + (mg_ct (mg_k M) (mg_P M)))))], [], A45) _
        refine wp_rt rfl rfl rfl ?_
        rw [show rd_ab cs n L (a + 1) M = .error (rd_sk cs n (a + 1)) from by unfold rd_ab; rw [hnam]]
        exact ⟨rfl, _, _, _, _, _, _, h47, h22, by have := hI.L3; omega, by omega, Or.inl ⟨rfl, by omega⟩, hX9, f49⟩
      · skip
        obtain ⟨A50, g51, h52, f53⟩ := (show rf_go _ _ _ _ _ _ (rf_c t9 (rd_sk cs n (sb_re 97 122 cs n (rd_sk cs n (a + 1))) + 1) (Int32.ofNat (rd_sk cs n (a + 1))) (rf_rw cs (rd_sk cs n (a + 1)) (sb_re 97 122 cs n (rd_sk cs n (a + 1)) - (rd_sk cs n (a + 1)))) (rd_sk cs n (a + 1))) from by have e := rr_need (d := d - 1) (c := 125) (by omega) (by omega) (by omega) (show rf_tx (t9) cs n from hx9) q1; rw [if_neg c44, rf_w_n (by omega)] at e; exact e)
        have f54 := hF9.trans f53
        refine wp_cv (A' := A50) (v := none) rfl rfl rfl rfl rfl (show _ from q1.1) (by omega) (g51) rfl ?_
        show am_wp d 128 (124, [some (.ref (b)), some (.int (Int32.ofNat (128 + (mg_ct (mg_k M) (mg_P M)))))], [], A50) _
        refine wp_rt rfl rfl rfl ?_
        rw [show rd_ab cs n L (a + 1) M = .error (rd_sk cs n (a + 1)) from by unfold rd_ab; rw [hnam]]
        exact ⟨rfl, _, _, _, _, _, _, h52, h22, by have := hI.L3; omega, by omega, Or.inl ⟨rfl, by omega⟩, hX9, f54⟩
    · skip
      rw [ne_eq, i32_eq (by omega) (by omega)] at h43
      replace h43 := Decidable.not_not.mp h43
      have h43p : rd_sk cs n (sb_re 97 122 cs n (rd_sk cs n (a + 1))) < n := sb_lk_pos (cs := cs) (by omega)
      refine wp_st 1 (f' := (94, [some (.ref (b)), some (.int (Int32.ofNat (128 + (mg_ct (mg_k M) (mg_P M)))))], [.ref (b)], A9)) rfl ?_
      refine rw_gf (v := .int (Int32.ofNat (rd_sk cs n (a + 1)))) q1 rfl rfl rfl rfl (rfl) rfl ?_
      refine wp_izT rfl rfl (show Int32.ofNat 0 ≤ (Int32.ofNat (rd_sk cs n (a + 1))) from Int32.not_lt.mp (Int32.ofNat_not_neg (by omega))) ?_
      refine wp_st 2 (f' := (121, [some (.ref (b)), some (.int (Int32.ofNat (128 + (mg_ct (mg_k M) (mg_P M)))))], [.int (Int32.ofNat 125), .ref (b)], A9)) rfl ?_
      by_cases c55 : sb_lk cs n (rd_sk cs n (sb_re 97 122 cs n (rd_sk cs n (a + 1)))) = 125
      · skip
        have c55p : rd_sk cs n (sb_re 97 122 cs n (rd_sk cs n (a + 1))) < n := sb_lk_pos (cs := cs) (by omega)
        obtain ⟨A56, g57, h58, f59⟩ := (show rf_go _ _ _ _ _ _ (rf_c t9 (rd_sk cs n (sb_re 97 122 cs n (rd_sk cs n (a + 1))) + 1) (Int32.ofNat (rd_sk cs n (a + 1))) (rf_rw cs (rd_sk cs n (a + 1)) (sb_re 97 122 cs n (rd_sk cs n (a + 1)) - (rd_sk cs n (a + 1)))) (rd_sk cs n (a + 1))) from by have e := rr_need (d := d - 1) (c := 125) (by omega) (by omega) (by omega) (show rf_tx (t9) cs n from hx9) q1; rw [if_pos c55] at e; exact e)
        have f60 := hF9.trans f59
        refine wp_cv (A' := A56) (v := none) rfl rfl rfl rfl rfl (show _ from q1.1) (by omega) (g57) rfl ?_
        show am_wp d 128 (124, [some (.ref (b)), some (.int (Int32.ofNat (128 + (mg_ct (mg_k M) (mg_P M)))))], [], A56) _
        refine wp_rt rfl rfl rfl ?_
        rw [show rd_ab cs n L (a + 1) M = .error (rd_sk cs n (a + 1)) from by unfold rd_ab; rw [hnam]]
        exact ⟨rfl, _, _, _, _, _, _, h58, h22, by have := hI.L3; omega, by omega, Or.inl ⟨rfl, by omega⟩, hX9, f60⟩
      · skip
        obtain ⟨A61, g62, h63, f64⟩ := (show rf_go _ _ _ _ _ _ (rf_c t9 (rd_sk cs n (sb_re 97 122 cs n (rd_sk cs n (a + 1))) + 1) (Int32.ofNat (rd_sk cs n (a + 1))) (rf_rw cs (rd_sk cs n (a + 1)) (sb_re 97 122 cs n (rd_sk cs n (a + 1)) - (rd_sk cs n (a + 1)))) (rd_sk cs n (a + 1))) from by have e := rr_need (d := d - 1) (c := 125) (by omega) (by omega) (by omega) (show rf_tx (t9) cs n from hx9) q1; rw [if_neg c55, rf_w_n (by omega)] at e; exact e)
        have f65 := hF9.trans f64
        refine wp_cv (A' := A61) (v := none) rfl rfl rfl rfl rfl (show _ from q1.1) (by omega) (g62) rfl ?_
        show am_wp d 128 (124, [some (.ref (b)), some (.int (Int32.ofNat (128 + (mg_ct (mg_k M) (mg_P M)))))], [], A61) _
        refine wp_rt rfl rfl rfl ?_
        rw [show rd_ab cs n L (a + 1) M = .error (rd_sk cs n (a + 1)) from by unfold rd_ab; rw [hnam]]
        exact ⟨rfl, _, _, _, _, _, _, h63, h22, by have := hI.L3; omega, by omega, Or.inl ⟨rfl, by omega⟩, hX9, f65⟩
  · skip
    have hnam : rd_name cs n (rd_sk cs n (a + 1)) = .error (rd_sk cs n (a + 1) + 4) := by unfold rd_name; rw [if_neg hu, if_pos hu6]
    obtain ⟨A66, g67, h68, f69⟩ := (show rf_go _ _ _ _ _ _ (rf_c (rf_u s 20 0 (.int (Int32.ofNat (mg_ct (mg_k M) (mg_P M) + 1)))) (sb_re 97 122 cs n (rd_sk cs n (a + 1))) (Int32.ofNat (rd_sk cs n (a + 1) + 4)) (rf_rw cs (rd_sk cs n (a + 1)) (sb_re 97 122 cs n (rd_sk cs n (a + 1)) - (rd_sk cs n (a + 1)))) (rd_sk cs n (a + 1))) from by have q := rr_let (d := d - 1) (many := 4) (by omega) (by omega) (by omega) (show rf_tx (rf_u s 20 0 (.int (Int32.ofNat (mg_ct (mg_k M) (mg_P M) + 1)))) cs n from hx) h12; rw [rf_lt_many hu6] at q; exact q)
    have f70 := f14.trans f69
    refine wp_cv (A' := A66) (v := none) rfl rfl rfl rfl rfl (show _ from h12.1) (by omega) (g67) rfl ?_
    show am_wp d 128 (38, [some (.ref (b)), some (.int (Int32.ofNat (128 + (mg_ct (mg_k M) (mg_P M)))))], [], A66) _
    refine wp_st 1 (f' := (39, [some (.ref (b)), some (.int (Int32.ofNat (128 + (mg_ct (mg_k M) (mg_P M)))))], [.ref (b)], A66)) rfl ?_
    refine rw_gr h68 rfl rfl rfl rfl rfl rfl ?_
    refine wp_st 2 (f' := (44, [some (.ref (b)), some (.int (Int32.ofNat (128 + (mg_ct (mg_k M) (mg_P M)))))], [.ref (b), .int (Int32.ofNat (128 + (mg_ct (mg_k M) (mg_P M)))), .ref (b + 7)], A66)) rfl ?_
    refine rw_gf (v := .long (rf_rw cs (rd_sk cs n (a + 1)) (sb_re 97 122 cs n (rd_sk cs n (a + 1)) - (rd_sk cs n (a + 1))))) h68 rfl rfl rfl rfl (rfl) rfl ?_
    refine wp_st 1 (f' := (48, [some (.ref (b)), some (.int (Int32.ofNat (128 + (mg_ct (mg_k M) (mg_P M)))))], [.int ((rf_rw cs (rd_sk cs n (a + 1)) (sb_re 97 122 cs n (rd_sk cs n (a + 1)) - (rd_sk cs n (a + 1)))).toInt32), .int (Int32.ofNat (128 + (mg_ct (mg_k M) (mg_P M)))), .ref (b + 7)], A66)) rfl ?_
    refine rw_as (j := 9) (n := 128 + (mg_ct (mg_k M) (mg_P M))) (v := .int ((rf_rw cs (rd_sk cs n (a + 1)) (sb_re 97 122 cs n (rd_sk cs n (a + 1)) - (rd_sk cs n (a + 1)))).toInt32)) h68 rfl rfl rfl (Or.inl ⟨rfl, rfl, rfl⟩) (show _ < 192 from by omega) rfl rfl (fun A71 h72 f73 => ?_)
    have f74 := f70.trans f73
    rw [rf_c_u (by decide)] at h72
    refine wp_st 1 (f' := (50, [some (.ref (b)), some (.int (Int32.ofNat (128 + (mg_ct (mg_k M) (mg_P M)))))], [.ref (b)], A71)) rfl ?_
    refine rw_gr h72 rfl rfl rfl rfl rfl rfl ?_
    refine wp_st 2 (f' := (55, [some (.ref (b)), some (.int (Int32.ofNat (128 + (mg_ct (mg_k M) (mg_P M)))))], [.int (Int32.ofNat 0), .int (Int32.ofNat (128 + (mg_ct (mg_k M) (mg_P M)))), .ref (b + 8)], A71)) rfl ?_
    refine rw_as (j := 10) (n := 128 + (mg_ct (mg_k M) (mg_P M))) (v := .int (Int32.ofNat 0)) h72 rfl rfl rfl (Or.inl ⟨rfl, rfl, rfl⟩) (show _ < 192 from by omega) rfl rfl (fun A75 h76 f77 => ?_)
    have f78 := f74.trans f77
    rw [rf_c_u (by decide)] at h76
    refine wp_st 1 (f' := (57, [some (.ref (b)), some (.int (Int32.ofNat (128 + (mg_ct (mg_k M) (mg_P M)))))], [.ref (b)], A75)) rfl ?_
    refine rw_gr h76 rfl rfl rfl rfl rfl rfl ?_
    refine wp_st 2 (f' := (62, [some (.ref (b)), some (.int (Int32.ofNat (128 + (mg_ct (mg_k M) (mg_P M)))))], [.int (Int32.ofNat 0), .int (Int32.ofNat (128 + (mg_ct (mg_k M) (mg_P M)))), .ref (b + 9)], A75)) rfl ?_
    refine rw_as (j := 11) (n := 128 + (mg_ct (mg_k M) (mg_P M))) (v := .int (Int32.ofNat 0)) h76 rfl rfl rfl (Or.inl ⟨rfl, rfl, rfl⟩) (show _ < 192 from by omega) rfl rfl (fun A79 h80 f81 => ?_)
    have f82 := f78.trans f81
    rw [rf_c_u (by decide)] at h80
    refine wp_st 1 (f' := (64, [some (.ref (b)), some (.int (Int32.ofNat (128 + (mg_ct (mg_k M) (mg_P M)))))], [.ref (b)], A79)) rfl ?_
    refine rw_gr h80 rfl rfl rfl rfl rfl rfl ?_
    refine wp_st 2 (f' := (69, [some (.ref (b)), some (.int (Int32.ofNat (128 + (mg_ct (mg_k M) (mg_P M)))))], [.int ((-1)), .int (Int32.ofNat (128 + (mg_ct (mg_k M) (mg_P M)))), .ref (b + 10)], A79)) rfl ?_
    refine rw_as (j := 12) (n := 128 + (mg_ct (mg_k M) (mg_P M))) (v := .int ((-1))) h80 rfl rfl rfl (Or.inl ⟨rfl, rfl, rfl⟩) (show _ < 192 from by omega) rfl rfl (fun A83 h84 f85 => ?_)
    have f86 := f82.trans f85
    rw [rf_c_u (by decide)] at h84
    refine wp_st 1 (f' := (71, [some (.ref (b)), some (.int (Int32.ofNat (128 + (mg_ct (mg_k M) (mg_P M)))))], [.ref (b)], A83)) rfl ?_
    have k87 := rd_sk_gt (cs := cs) (n := n) (a := sb_re 97 122 cs n (rd_sk cs n (a + 1)))
    obtain ⟨A88, g89, h90, f91⟩ := (show rf_go (d - 1) 129 [.ref b] A83 b none (rf_c (rf_u (rf_u (rf_u (rf_u (rf_u s 20 0 (.int (Int32.ofNat (mg_ct (mg_k M) (mg_P M) + 1)))) 9 (128 + (mg_ct (mg_k M) (mg_P M))) (.int ((rf_rw cs (rd_sk cs n (a + 1)) (sb_re 97 122 cs n (rd_sk cs n (a + 1)) - (rd_sk cs n (a + 1)))).toInt32))) 10 (128 + (mg_ct (mg_k M) (mg_P M))) (.int (Int32.ofNat 0))) 11 (128 + (mg_ct (mg_k M) (mg_P M))) (.int (Int32.ofNat 0))) 12 (128 + (mg_ct (mg_k M) (mg_P M))) (.int ((-1)))) (rd_sk cs n (sb_re 97 122 cs n (rd_sk cs n (a + 1)))) (Int32.ofNat (rd_sk cs n (a + 1) + 4)) (rf_rw cs (rd_sk cs n (a + 1)) (sb_re 97 122 cs n (rd_sk cs n (a + 1)) - (rd_sk cs n (a + 1)))) (rd_sk cs n (a + 1))) from rr_spaces (d := d - 1) (by omega) (by omega) (show rf_tx (rf_u (rf_u (rf_u (rf_u (rf_u s 20 0 (.int (Int32.ofNat (mg_ct (mg_k M) (mg_P M) + 1)))) 9 (128 + (mg_ct (mg_k M) (mg_P M))) (.int ((rf_rw cs (rd_sk cs n (a + 1)) (sb_re 97 122 cs n (rd_sk cs n (a + 1)) - (rd_sk cs n (a + 1)))).toInt32))) 10 (128 + (mg_ct (mg_k M) (mg_P M))) (.int (Int32.ofNat 0))) 11 (128 + (mg_ct (mg_k M) (mg_P M))) (.int (Int32.ofNat 0))) 12 (128 + (mg_ct (mg_k M) (mg_P M))) (.int ((-1)))) cs n from hx) h84)
    have f92 := f86.trans f91
    refine wp_cv (A' := A88) (v := none) rfl rfl rfl rfl rfl (show _ from h84.1) (by omega) (g89) rfl ?_
    show am_wp d 128 (74, [some (.ref (b)), some (.int (Int32.ofNat (128 + (mg_ct (mg_k M) (mg_P M)))))], [], A88) _
    refine wp_st 3 (f' := (77, [some (.ref (b)), some (.int (Int32.ofNat (128 + (mg_ct (mg_k M) (mg_P M)))))], [.int (Int32.ofNat (128 + (mg_ct (mg_k M) (mg_P M)))), .int (Int32.ofNat 2), .ref (b)], A88)) rfl ?_
    obtain ⟨s1, hs1⟩ : ∃ t, t = rf_u (rf_u (rf_u (rf_u (rf_u s 20 0 (.int (Int32.ofNat (mg_ct (mg_k M) (mg_P M) + 1)))) 9 (128 + (mg_ct (mg_k M) (mg_P M))) (.int ((rf_rw cs (rd_sk cs n (a + 1)) (sb_re 97 122 cs n (rd_sk cs n (a + 1)) - (rd_sk cs n (a + 1)))).toInt32))) 10 (128 + (mg_ct (mg_k M) (mg_P M))) (.int (Int32.ofNat 0))) 11 (128 + (mg_ct (mg_k M) (mg_P M))) (.int (Int32.ofNat 0))) 12 (128 + (mg_ct (mg_k M) (mg_P M))) (.int ((-1))) := ⟨_, rfl⟩
    rw [← hs1] at h90
    obtain ⟨⟨o9, A9⟩, g9, q0, t9, q1, q2, q5⟩ := rn_add (d := d - 1) (kc := Int32.ofNat 2) (x := Int32.ofNat (128 + mg_ct (mg_k M) (mg_P M))) hI (fun j i z => by rw [hs1, rf_u_ne (by omega), rf_u_ne (by omega), rf_u_ne (by omega), rf_u_ne (by omega), rf_u_ne (by omega)]) (by omega) h90
    dsimp only at q0 q1 q5
    subst q0
    have hX1 : rm_X s s1 := by rw [hs1]; exact ((((((rm_X.refl s).u (by unfold rm_sc; omega)).u (by unfold rm_sc; omega)).u (by unfold rm_sc; omega)).u (by unfold rm_sc; omega)).u (by unfold rm_sc; omega))
    have hX9 := hX1.trans q2.X
    have hx9 := hX9.tx hx
    have hF9 := f92.trans q5
    have h22 : t9 22 0 = .int (Int32.ofNat L) := by rw [q2.2.2.2.2.2.2 22 0 (by omega) (by omega) (by omega) (fun z => by unfold rm_hk at z; split at z <;> omega), hs1, rf_u_ne (by omega), rf_u_ne (by omega), rf_u_ne (by omega), rf_u_ne (by omega), rf_u_ne (by omega)]; exact hI.s22
    refine wp_cv (A' := A9) (v := none) rfl rfl rfl rfl rfl (show _ from h90.1) (by omega) (g9) rfl ?_
    show am_wp d 128 (80, [some (.ref (b)), some (.int (Int32.ofNat (128 + (mg_ct (mg_k M) (mg_P M)))))], [], A9) _
    refine wp_st 2 (f' := (82, [some (.ref (b)), some (.int (Int32.ofNat (128 + (mg_ct (mg_k M) (mg_P M)))))], [.ref (b), .ref (b)], A9)) rfl ?_
    refine rw_gf (v := .int (Int32.ofNat (rd_sk cs n (sb_re 97 122 cs n (rd_sk cs n (a + 1)))))) q1 rfl rfl rfl rfl (rfl) rfl ?_
    have l93 := hlk (rd_sk cs n (sb_re 97 122 cs n (rd_sk cs n (a + 1))))
    refine wp_cv (A' := A9) (v := some (.int (Int32.ofNat (sb_lk cs n (rd_sk cs n (sb_re 97 122 cs n (rd_sk cs n (a + 1)))))))) rfl rfl rfl rfl rfl (show _ from q1.1) (by omega) (rr_look (by omega) (show rf_tx (t9) cs n from hx9) q1) rfl ?_
    show am_wp d 128 (88, [some (.ref (b)), some (.int (Int32.ofNat (128 + (mg_ct (mg_k M) (mg_P M)))))], [.int (Int32.ofNat (sb_lk cs n (rd_sk cs n (sb_re 97 122 cs n (rd_sk cs n (a + 1))))))], A9) _
    refine wp_st 1 (f' := (90, [some (.ref (b)), some (.int (Int32.ofNat (128 + (mg_ct (mg_k M) (mg_P M)))))], [.int (Int32.ofNat 44), .int (Int32.ofNat (sb_lk cs n (rd_sk cs n (sb_re 97 122 cs n (rd_sk cs n (a + 1))))))], A9)) rfl ?_
    refine wp_if rfl rfl rfl (fun (h94 : (Int32.ofNat (sb_lk cs n (rd_sk cs n (sb_re 97 122 cs n (rd_sk cs n (a + 1)))))) ≠ (Int32.ofNat 44)) => ?_) (fun (h94 : ¬ ((Int32.ofNat (sb_lk cs n (rd_sk cs n (sb_re 97 122 cs n (rd_sk cs n (a + 1)))))) ≠ (Int32.ofNat 44))) => ?_)
    · skip
      rw [ne_eq, i32_eq (by omega) (by omega)] at h94
      refine wp_st 2 (f' := (121, [some (.ref (b)), some (.int (Int32.ofNat (128 + (mg_ct (mg_k M) (mg_P M)))))], [.int (Int32.ofNat 125), .ref (b)], A9)) rfl ?_
      by_cases c95 : sb_lk cs n (rd_sk cs n (sb_re 97 122 cs n (rd_sk cs n (a + 1)))) = 125
      · skip
        have c95p : rd_sk cs n (sb_re 97 122 cs n (rd_sk cs n (a + 1))) < n := sb_lk_pos (cs := cs) (by omega)
        obtain ⟨A96, g97, h98, f99⟩ := (show rf_go _ _ _ _ _ _ (rf_c t9 (rd_sk cs n (sb_re 97 122 cs n (rd_sk cs n (a + 1))) + 1) (Int32.ofNat (rd_sk cs n (a + 1) + 4)) (rf_rw cs (rd_sk cs n (a + 1)) (sb_re 97 122 cs n (rd_sk cs n (a + 1)) - (rd_sk cs n (a + 1)))) (rd_sk cs n (a + 1))) from by have e := rr_need (d := d - 1) (c := 125) (by omega) (by omega) (by omega) (show rf_tx (t9) cs n from hx9) q1; rw [if_pos c95] at e; exact e)
        have f100 := hF9.trans f99
        refine wp_cv (A' := A96) (v := none) rfl rfl rfl rfl rfl (show _ from q1.1) (by omega) (g97) rfl ?_
        show am_wp d 128 (124, [some (.ref (b)), some (.int (Int32.ofNat (128 + (mg_ct (mg_k M) (mg_P M)))))], [], A96) _
        refine wp_rt rfl rfl rfl ?_
        rw [show rd_ab cs n L (a + 1) M = .error (rd_sk cs n (a + 1) + 4) from by unfold rd_ab; rw [hnam]]
        exact ⟨rfl, _, _, _, _, _, _, h98, h22, by have := hI.L3; omega, by omega, Or.inl ⟨rfl, by omega⟩, hX9, f100⟩
      · skip
        obtain ⟨A101, g102, h103, f104⟩ := (show rf_go _ _ _ _ _ _ (rf_c t9 (rd_sk cs n (sb_re 97 122 cs n (rd_sk cs n (a + 1))) + 1) (Int32.ofNat (rd_sk cs n (a + 1) + 4)) (rf_rw cs (rd_sk cs n (a + 1)) (sb_re 97 122 cs n (rd_sk cs n (a + 1)) - (rd_sk cs n (a + 1)))) (rd_sk cs n (a + 1))) from by have e := rr_need (d := d - 1) (c := 125) (by omega) (by omega) (by omega) (show rf_tx (t9) cs n from hx9) q1; rw [if_neg c95, rf_w_n (by omega)] at e; exact e)
        have f105 := hF9.trans f104
        refine wp_cv (A' := A101) (v := none) rfl rfl rfl rfl rfl (show _ from q1.1) (by omega) (g102) rfl ?_
        show am_wp d 128 (124, [some (.ref (b)), some (.int (Int32.ofNat (128 + (mg_ct (mg_k M) (mg_P M)))))], [], A101) _
        refine wp_rt rfl rfl rfl ?_
        rw [show rd_ab cs n L (a + 1) M = .error (rd_sk cs n (a + 1) + 4) from by unfold rd_ab; rw [hnam]]
        exact ⟨rfl, _, _, _, _, _, _, h103, h22, by have := hI.L3; omega, by omega, Or.inl ⟨rfl, by omega⟩, hX9, f105⟩
    · skip
      rw [ne_eq, i32_eq (by omega) (by omega)] at h94
      replace h94 := Decidable.not_not.mp h94
      have h94p : rd_sk cs n (sb_re 97 122 cs n (rd_sk cs n (a + 1))) < n := sb_lk_pos (cs := cs) (by omega)
      refine wp_st 1 (f' := (94, [some (.ref (b)), some (.int (Int32.ofNat (128 + (mg_ct (mg_k M) (mg_P M)))))], [.ref (b)], A9)) rfl ?_
      refine rw_gf (v := .int (Int32.ofNat (rd_sk cs n (a + 1) + 4))) q1 rfl rfl rfl rfl (rfl) rfl ?_
      refine wp_izT rfl rfl (show Int32.ofNat 0 ≤ (Int32.ofNat (rd_sk cs n (a + 1) + 4)) from Int32.not_lt.mp (Int32.ofNat_not_neg (by omega))) ?_
      refine wp_st 2 (f' := (121, [some (.ref (b)), some (.int (Int32.ofNat (128 + (mg_ct (mg_k M) (mg_P M)))))], [.int (Int32.ofNat 125), .ref (b)], A9)) rfl ?_
      by_cases c106 : sb_lk cs n (rd_sk cs n (sb_re 97 122 cs n (rd_sk cs n (a + 1)))) = 125
      · skip
        have c106p : rd_sk cs n (sb_re 97 122 cs n (rd_sk cs n (a + 1))) < n := sb_lk_pos (cs := cs) (by omega)
        obtain ⟨A107, g108, h109, f110⟩ := (show rf_go _ _ _ _ _ _ (rf_c t9 (rd_sk cs n (sb_re 97 122 cs n (rd_sk cs n (a + 1))) + 1) (Int32.ofNat (rd_sk cs n (a + 1) + 4)) (rf_rw cs (rd_sk cs n (a + 1)) (sb_re 97 122 cs n (rd_sk cs n (a + 1)) - (rd_sk cs n (a + 1)))) (rd_sk cs n (a + 1))) from by have e := rr_need (d := d - 1) (c := 125) (by omega) (by omega) (by omega) (show rf_tx (t9) cs n from hx9) q1; rw [if_pos c106] at e; exact e)
        have f111 := hF9.trans f110
        refine wp_cv (A' := A107) (v := none) rfl rfl rfl rfl rfl (show _ from q1.1) (by omega) (g108) rfl ?_
        show am_wp d 128 (124, [some (.ref (b)), some (.int (Int32.ofNat (128 + (mg_ct (mg_k M) (mg_P M)))))], [], A107) _
        refine wp_rt rfl rfl rfl ?_
        rw [show rd_ab cs n L (a + 1) M = .error (rd_sk cs n (a + 1) + 4) from by unfold rd_ab; rw [hnam]]
        exact ⟨rfl, _, _, _, _, _, _, h109, h22, by have := hI.L3; omega, by omega, Or.inl ⟨rfl, by omega⟩, hX9, f111⟩
      · skip
        obtain ⟨A112, g113, h114, f115⟩ := (show rf_go _ _ _ _ _ _ (rf_c t9 (rd_sk cs n (sb_re 97 122 cs n (rd_sk cs n (a + 1))) + 1) (Int32.ofNat (rd_sk cs n (a + 1) + 4)) (rf_rw cs (rd_sk cs n (a + 1)) (sb_re 97 122 cs n (rd_sk cs n (a + 1)) - (rd_sk cs n (a + 1)))) (rd_sk cs n (a + 1))) from by have e := rr_need (d := d - 1) (c := 125) (by omega) (by omega) (by omega) (show rf_tx (t9) cs n from hx9) q1; rw [if_neg c106, rf_w_n (by omega)] at e; exact e)
        have f116 := hF9.trans f115
        refine wp_cv (A' := A112) (v := none) rfl rfl rfl rfl rfl (show _ from q1.1) (by omega) (g113) rfl ?_
        show am_wp d 128 (124, [some (.ref (b)), some (.int (Int32.ofNat (128 + (mg_ct (mg_k M) (mg_P M)))))], [], A112) _
        refine wp_rt rfl rfl rfl ?_
        rw [show rd_ab cs n L (a + 1) M = .error (rd_sk cs n (a + 1) + 4) from by unfold rd_ab; rw [hnam]]
        exact ⟨rfl, _, _, _, _, _, _, h114, h22, by have := hI.L3; omega, by omega, Or.inl ⟨rfl, by omega⟩, hX9, f116⟩
  · skip
    have hnam : rd_name cs n (rd_sk cs n (a + 1)) = .ok (sb_re 97 122 cs n (rd_sk cs n (a + 1)), (sb_pk cs (sb_re 97 122 cs n (rd_sk cs n (a + 1)) - (rd_sk cs n (a + 1))) (rd_sk cs n (a + 1)) 0).toInt32) := by unfold rd_name; rw [if_neg hu, if_neg hu6]
    have hrw : rf_rw cs (rd_sk cs n (a + 1)) (sb_re 97 122 cs n (rd_sk cs n (a + 1)) - (rd_sk cs n (a + 1))) = Int64.ofNat (rf_b32 cs (sb_re 97 122 cs n (rd_sk cs n (a + 1)) - (rd_sk cs n (a + 1))) (rd_sk cs n (a + 1)) 0) := by unfold rf_rw; rw [if_pos (by omega)]
    have hsw : rm_w 4 (sb_pkn cs (sb_re 97 122 cs n (rd_sk cs n (a + 1)) - (rd_sk cs n (a + 1))) (rd_sk cs n (a + 1)) 0) (rf_b32 cs (sb_re 97 122 cs n (rd_sk cs n (a + 1)) - (rd_sk cs n (a + 1))) (rd_sk cs n (a + 1)) 0) := rm_w_cl (sb_ltr_re cs n (rd_sk cs n (a + 1))) (by omega) (by omega)
    have hsx := (rd_name_n hc128 (by omega) hnam).1
    obtain ⟨A117, g118, h119, f120⟩ := (show rf_go _ _ _ _ _ _ (rf_c (rf_u s 20 0 (.int (Int32.ofNat (mg_ct (mg_k M) (mg_P M) + 1)))) (sb_re 97 122 cs n (rd_sk cs n (a + 1))) (-1) (Int64.ofNat (rf_b32 cs (sb_re 97 122 cs n (rd_sk cs n (a + 1)) - (rd_sk cs n (a + 1))) (rd_sk cs n (a + 1)) 0)) (rd_sk cs n (a + 1))) from by have q := rr_let (d := d - 1) (many := 4) (by omega) (by omega) (by omega) (show rf_tx (rf_u s 20 0 (.int (Int32.ofNat (mg_ct (mg_k M) (mg_P M) + 1)))) cs n from hx) h12; rw [rf_lt_ok (by omega) hu (by omega), hrw] at q; exact q)
    have f121 := f14.trans f120
    refine wp_cv (A' := A117) (v := none) rfl rfl rfl rfl rfl (show _ from h12.1) (by omega) (g118) rfl ?_
    show am_wp d 128 (38, [some (.ref (b)), some (.int (Int32.ofNat (128 + (mg_ct (mg_k M) (mg_P M)))))], [], A117) _
    refine wp_st 1 (f' := (39, [some (.ref (b)), some (.int (Int32.ofNat (128 + (mg_ct (mg_k M) (mg_P M)))))], [.ref (b)], A117)) rfl ?_
    refine rw_gr h119 rfl rfl rfl rfl rfl rfl ?_
    refine wp_st 2 (f' := (44, [some (.ref (b)), some (.int (Int32.ofNat (128 + (mg_ct (mg_k M) (mg_P M)))))], [.ref (b), .int (Int32.ofNat (128 + (mg_ct (mg_k M) (mg_P M)))), .ref (b + 7)], A117)) rfl ?_
    refine rw_gf (v := .long (Int64.ofNat (rf_b32 cs (sb_re 97 122 cs n (rd_sk cs n (a + 1)) - (rd_sk cs n (a + 1))) (rd_sk cs n (a + 1)) 0))) h119 rfl rfl rfl rfl (rfl) rfl ?_
    refine wp_st 1 (f' := (48, [some (.ref (b)), some (.int (Int32.ofNat (128 + (mg_ct (mg_k M) (mg_P M)))))], [.int ((Int64.ofNat (rf_b32 cs (sb_re 97 122 cs n (rd_sk cs n (a + 1)) - (rd_sk cs n (a + 1))) (rd_sk cs n (a + 1)) 0)).toInt32), .int (Int32.ofNat (128 + (mg_ct (mg_k M) (mg_P M)))), .ref (b + 7)], A117)) rfl ?_
    rw [i64_i32 (a := (rf_b32 cs (sb_re 97 122 cs n (rd_sk cs n (a + 1)) - (rd_sk cs n (a + 1))) (rd_sk cs n (a + 1)) 0))]
    refine rw_as (j := 9) (n := 128 + (mg_ct (mg_k M) (mg_P M))) (v := .int (Int32.ofNat ((rf_b32 cs (sb_re 97 122 cs n (rd_sk cs n (a + 1)) - (rd_sk cs n (a + 1))) (rd_sk cs n (a + 1)) 0)))) h119 rfl rfl rfl (Or.inl ⟨rfl, rfl, rfl⟩) (show _ < 192 from by omega) rfl rfl (fun A122 h123 f124 => ?_)
    have f125 := f121.trans f124
    rw [rf_c_u (by decide)] at h123
    refine wp_st 1 (f' := (50, [some (.ref (b)), some (.int (Int32.ofNat (128 + (mg_ct (mg_k M) (mg_P M)))))], [.ref (b)], A122)) rfl ?_
    refine rw_gr h123 rfl rfl rfl rfl rfl rfl ?_
    refine wp_st 2 (f' := (55, [some (.ref (b)), some (.int (Int32.ofNat (128 + (mg_ct (mg_k M) (mg_P M)))))], [.int (Int32.ofNat 0), .int (Int32.ofNat (128 + (mg_ct (mg_k M) (mg_P M)))), .ref (b + 8)], A122)) rfl ?_
    refine rw_as (j := 10) (n := 128 + (mg_ct (mg_k M) (mg_P M))) (v := .int (Int32.ofNat 0)) h123 rfl rfl rfl (Or.inl ⟨rfl, rfl, rfl⟩) (show _ < 192 from by omega) rfl rfl (fun A126 h127 f128 => ?_)
    have f129 := f125.trans f128
    rw [rf_c_u (by decide)] at h127
    refine wp_st 1 (f' := (57, [some (.ref (b)), some (.int (Int32.ofNat (128 + (mg_ct (mg_k M) (mg_P M)))))], [.ref (b)], A126)) rfl ?_
    refine rw_gr h127 rfl rfl rfl rfl rfl rfl ?_
    refine wp_st 2 (f' := (62, [some (.ref (b)), some (.int (Int32.ofNat (128 + (mg_ct (mg_k M) (mg_P M)))))], [.int (Int32.ofNat 0), .int (Int32.ofNat (128 + (mg_ct (mg_k M) (mg_P M)))), .ref (b + 9)], A126)) rfl ?_
    refine rw_as (j := 11) (n := 128 + (mg_ct (mg_k M) (mg_P M))) (v := .int (Int32.ofNat 0)) h127 rfl rfl rfl (Or.inl ⟨rfl, rfl, rfl⟩) (show _ < 192 from by omega) rfl rfl (fun A130 h131 f132 => ?_)
    have f133 := f129.trans f132
    rw [rf_c_u (by decide)] at h131
    refine wp_st 1 (f' := (64, [some (.ref (b)), some (.int (Int32.ofNat (128 + (mg_ct (mg_k M) (mg_P M)))))], [.ref (b)], A130)) rfl ?_
    refine rw_gr h131 rfl rfl rfl rfl rfl rfl ?_
    refine wp_st 2 (f' := (69, [some (.ref (b)), some (.int (Int32.ofNat (128 + (mg_ct (mg_k M) (mg_P M)))))], [.int ((-1)), .int (Int32.ofNat (128 + (mg_ct (mg_k M) (mg_P M)))), .ref (b + 10)], A130)) rfl ?_
    refine rw_as (j := 12) (n := 128 + (mg_ct (mg_k M) (mg_P M))) (v := .int ((-1))) h131 rfl rfl rfl (Or.inl ⟨rfl, rfl, rfl⟩) (show _ < 192 from by omega) rfl rfl (fun A134 h135 f136 => ?_)
    have f137 := f133.trans f136
    rw [rf_c_u (by decide)] at h135
    refine wp_st 1 (f' := (71, [some (.ref (b)), some (.int (Int32.ofNat (128 + (mg_ct (mg_k M) (mg_P M)))))], [.ref (b)], A134)) rfl ?_
    have k138 := rd_sk_gt (cs := cs) (n := n) (a := sb_re 97 122 cs n (rd_sk cs n (a + 1)))
    obtain ⟨A139, g140, h141, f142⟩ := (show rf_go (d - 1) 129 [.ref b] A134 b none (rf_c (rf_u (rf_u (rf_u (rf_u (rf_u s 20 0 (.int (Int32.ofNat (mg_ct (mg_k M) (mg_P M) + 1)))) 9 (128 + (mg_ct (mg_k M) (mg_P M))) (.int (Int32.ofNat ((rf_b32 cs (sb_re 97 122 cs n (rd_sk cs n (a + 1)) - (rd_sk cs n (a + 1))) (rd_sk cs n (a + 1)) 0))))) 10 (128 + (mg_ct (mg_k M) (mg_P M))) (.int (Int32.ofNat 0))) 11 (128 + (mg_ct (mg_k M) (mg_P M))) (.int (Int32.ofNat 0))) 12 (128 + (mg_ct (mg_k M) (mg_P M))) (.int ((-1)))) (rd_sk cs n (sb_re 97 122 cs n (rd_sk cs n (a + 1)))) (-1) (Int64.ofNat (rf_b32 cs (sb_re 97 122 cs n (rd_sk cs n (a + 1)) - (rd_sk cs n (a + 1))) (rd_sk cs n (a + 1)) 0)) (rd_sk cs n (a + 1))) from rr_spaces (d := d - 1) (by omega) (by omega) (show rf_tx (rf_u (rf_u (rf_u (rf_u (rf_u s 20 0 (.int (Int32.ofNat (mg_ct (mg_k M) (mg_P M) + 1)))) 9 (128 + (mg_ct (mg_k M) (mg_P M))) (.int (Int32.ofNat ((rf_b32 cs (sb_re 97 122 cs n (rd_sk cs n (a + 1)) - (rd_sk cs n (a + 1))) (rd_sk cs n (a + 1)) 0))))) 10 (128 + (mg_ct (mg_k M) (mg_P M))) (.int (Int32.ofNat 0))) 11 (128 + (mg_ct (mg_k M) (mg_P M))) (.int (Int32.ofNat 0))) 12 (128 + (mg_ct (mg_k M) (mg_P M))) (.int ((-1)))) cs n from hx) h135)
    have f143 := f137.trans f142
    refine wp_cv (A' := A139) (v := none) rfl rfl rfl rfl rfl (show _ from h135.1) (by omega) (g140) rfl ?_
    show am_wp d 128 (74, [some (.ref (b)), some (.int (Int32.ofNat (128 + (mg_ct (mg_k M) (mg_P M)))))], [], A139) _
    refine wp_st 3 (f' := (77, [some (.ref (b)), some (.int (Int32.ofNat (128 + (mg_ct (mg_k M) (mg_P M)))))], [.int (Int32.ofNat (128 + (mg_ct (mg_k M) (mg_P M)))), .int (Int32.ofNat 2), .ref (b)], A139)) rfl ?_
    obtain ⟨s1, hs1⟩ : ∃ t, t = rf_u (rf_u (rf_u (rf_u (rf_u s 20 0 (.int (Int32.ofNat (mg_ct (mg_k M) (mg_P M) + 1)))) 9 (128 + (mg_ct (mg_k M) (mg_P M))) (.int (Int32.ofNat ((rf_b32 cs (sb_re 97 122 cs n (rd_sk cs n (a + 1)) - (rd_sk cs n (a + 1))) (rd_sk cs n (a + 1)) 0))))) 10 (128 + (mg_ct (mg_k M) (mg_P M))) (.int (Int32.ofNat 0))) 11 (128 + (mg_ct (mg_k M) (mg_P M))) (.int (Int32.ofNat 0))) 12 (128 + (mg_ct (mg_k M) (mg_P M))) (.int ((-1))) := ⟨_, rfl⟩
    rw [← hs1] at h141
    obtain ⟨⟨o9, A9⟩, g9, q0, t9, q1, q2, q5⟩ := rn_add (d := d - 1) (kc := Int32.ofNat 2) (x := Int32.ofNat (128 + mg_ct (mg_k M) (mg_P M))) hI (fun j i z => by rw [hs1, rf_u_ne (by omega), rf_u_ne (by omega), rf_u_ne (by omega), rf_u_ne (by omega), rf_u_ne (by omega)]) (by omega) h141
    dsimp only at q0 q1 q5
    subst q0
    have hX1 : rm_X s s1 := by rw [hs1]; exact ((((((rm_X.refl s).u (by unfold rm_sc; omega)).u (by unfold rm_sc; omega)).u (by unfold rm_sc; omega)).u (by unfold rm_sc; omega)).u (by unfold rm_sc; omega))
    have hX9 := hX1.trans q2.X
    have hx9 := hX9.tx hx
    have hF9 := f143.trans q5
    have h22 : t9 22 0 = .int (Int32.ofNat L) := by rw [q2.2.2.2.2.2.2 22 0 (by omega) (by omega) (by omega) (fun z => by unfold rm_hk at z; split at z <;> omega), hs1, rf_u_ne (by omega), rf_u_ne (by omega), rf_u_ne (by omega), rf_u_ne (by omega), rf_u_ne (by omega)]; exact hI.s22
    have hT : ∀ k, 2 ≤ k → k ≤ 8 → rm_I (rf_u t9 10 (128 + mg_ct (mg_k M) (mg_P M)) (.int (rf_so k))) (mg_add M k ((sb_pk cs (sb_re 97 122 cs n (rd_sk cs n (a + 1)) - (rd_sk cs n (a + 1))) (rd_sk cs n (a + 1)) 0).toInt32)) L (up_ E (mg_P M) (1000 + L)) (up_ dp (mg_P M) L) (up_ lp L (some (mg_P M))) ob (decide (6 ≤ k)) ∧ rm_rd (mg_add M k ((sb_pk cs (sb_re 97 122 cs n (rd_sk cs n (a + 1)) - (rd_sk cs n (a + 1))) (rd_sk cs n (a + 1)) 0).toInt32)) L (up_ lp L (some (mg_P M))) := fun k z1 z2 => hI.adda (s1 := s1) hr (by omega) z1 z2 (fun j i y1 y2 => by rw [hs1, rf_u_ne (by omega), rf_u_ne (by omega), rf_u_ne (by omega), rf_u_ne (by omega), rf_u_ne (by omega)]) (by rw [hs1]; simp only [rf_u_if]; simp) (by rw [hs1]; simp only [rf_u_if]; simp) (by rw [hs1]; simp only [rf_u_if]; simp) (by rw [hs1]; simp only [rf_u_if]; simp) q2 hsw hsx
    have h10 : t9 10 (128 + mg_ct (mg_k M) (mg_P M)) = .int (rf_so 2) := by rw [q2.2.2.2.2.2.2 10 _ (by omega) (by omega) (by omega) (fun z => by unfold rm_hk at z; split at z <;> omega), hs1]; simp only [rf_u_if]; simp; rfl
    refine wp_cv (A' := A9) (v := none) rfl rfl rfl rfl rfl (show _ from h141.1) (by omega) (g9) rfl ?_
    show am_wp d 128 (80, [some (.ref (b)), some (.int (Int32.ofNat (128 + (mg_ct (mg_k M) (mg_P M)))))], [], A9) _
    refine wp_st 2 (f' := (82, [some (.ref (b)), some (.int (Int32.ofNat (128 + (mg_ct (mg_k M) (mg_P M)))))], [.ref (b), .ref (b)], A9)) rfl ?_
    refine rw_gf (v := .int (Int32.ofNat (rd_sk cs n (sb_re 97 122 cs n (rd_sk cs n (a + 1)))))) q1 rfl rfl rfl rfl (rfl) rfl ?_
    have l144 := hlk (rd_sk cs n (sb_re 97 122 cs n (rd_sk cs n (a + 1))))
    refine wp_cv (A' := A9) (v := some (.int (Int32.ofNat (sb_lk cs n (rd_sk cs n (sb_re 97 122 cs n (rd_sk cs n (a + 1)))))))) rfl rfl rfl rfl rfl (show _ from q1.1) (by omega) (rr_look (by omega) (show rf_tx (t9) cs n from hx9) q1) rfl ?_
    show am_wp d 128 (88, [some (.ref (b)), some (.int (Int32.ofNat (128 + (mg_ct (mg_k M) (mg_P M)))))], [.int (Int32.ofNat (sb_lk cs n (rd_sk cs n (sb_re 97 122 cs n (rd_sk cs n (a + 1))))))], A9) _
    refine wp_st 1 (f' := (90, [some (.ref (b)), some (.int (Int32.ofNat (128 + (mg_ct (mg_k M) (mg_P M)))))], [.int (Int32.ofNat 44), .int (Int32.ofNat (sb_lk cs n (rd_sk cs n (sb_re 97 122 cs n (rd_sk cs n (a + 1))))))], A9)) rfl ?_
    refine wp_if rfl rfl rfl (fun (h145 : (Int32.ofNat (sb_lk cs n (rd_sk cs n (sb_re 97 122 cs n (rd_sk cs n (a + 1)))))) ≠ (Int32.ofNat 44)) => ?_) (fun (h145 : ¬ ((Int32.ofNat (sb_lk cs n (rd_sk cs n (sb_re 97 122 cs n (rd_sk cs n (a + 1)))))) ≠ (Int32.ofNat 44))) => ?_)
    · skip
      rw [ne_eq, i32_eq (by omega) (by omega)] at h145
      refine wp_st 2 (f' := (121, [some (.ref (b)), some (.int (Int32.ofNat (128 + (mg_ct (mg_k M) (mg_P M)))))], [.int (Int32.ofNat 125), .ref (b)], A9)) rfl ?_
      by_cases c146 : sb_lk cs n (rd_sk cs n (sb_re 97 122 cs n (rd_sk cs n (a + 1)))) = 125
      · skip
        have c146p : rd_sk cs n (sb_re 97 122 cs n (rd_sk cs n (a + 1))) < n := sb_lk_pos (cs := cs) (by omega)
        obtain ⟨A147, g148, h149, f150⟩ := (show rf_go _ _ _ _ _ _ (rf_c t9 (rd_sk cs n (sb_re 97 122 cs n (rd_sk cs n (a + 1))) + 1) (-1) (Int64.ofNat (rf_b32 cs (sb_re 97 122 cs n (rd_sk cs n (a + 1)) - (rd_sk cs n (a + 1))) (rd_sk cs n (a + 1)) 0)) (rd_sk cs n (a + 1))) from by have e := rr_need (d := d - 1) (c := 125) (by omega) (by omega) (by omega) (show rf_tx (t9) cs n from hx9) q1; rw [if_pos c146] at e; exact e)
        have f151 := hF9.trans f150
        refine wp_cv (A' := A147) (v := none) rfl rfl rfl rfl rfl (show _ from q1.1) (by omega) (g148) rfl ?_
        show am_wp d 128 (124, [some (.ref (b)), some (.int (Int32.ofNat (128 + (mg_ct (mg_k M) (mg_P M)))))], [], A147) _
        refine wp_rt rfl rfl rfl ?_
        rw [show rd_ab cs n L (a + 1) M = .ok (.inl (rd_sk cs n (sb_re 97 122 cs n (rd_sk cs n (a + 1))) + 1, mg_add M 2 ((sb_pk cs (sb_re 97 122 cs n (rd_sk cs n (a + 1)) - (rd_sk cs n (a + 1))) (rd_sk cs n (a + 1)) 0).toInt32))) from by unfold rd_ab; rw [hnam]; dsimp only; rw [if_pos (by omega)]]
        have hT2 := hT 2 (by omega) (by omega)
        rw [rf_u_self h10] at hT2
        exact ⟨rfl, _, _, _, h149, hT2.1, hT2.2, hX9, f151⟩
      · skip
        obtain ⟨A152, g153, h154, f155⟩ := (show rf_go _ _ _ _ _ _ (rf_c t9 (rd_sk cs n (sb_re 97 122 cs n (rd_sk cs n (a + 1))) + 1) (Int32.ofNat (rd_sk cs n (sb_re 97 122 cs n (rd_sk cs n (a + 1))))) (Int64.ofNat (rf_b32 cs (sb_re 97 122 cs n (rd_sk cs n (a + 1)) - (rd_sk cs n (a + 1))) (rd_sk cs n (a + 1)) 0)) (rd_sk cs n (a + 1))) from by have e := rr_need (d := d - 1) (c := 125) (by omega) (by omega) (by omega) (show rf_tx (t9) cs n from hx9) q1; rw [if_neg c146, rf_w_m] at e; exact e)
        have f156 := hF9.trans f155
        refine wp_cv (A' := A152) (v := none) rfl rfl rfl rfl rfl (show _ from q1.1) (by omega) (g153) rfl ?_
        show am_wp d 128 (124, [some (.ref (b)), some (.int (Int32.ofNat (128 + (mg_ct (mg_k M) (mg_P M)))))], [], A152) _
        refine wp_rt rfl rfl rfl ?_
        rw [show rd_ab cs n L (a + 1) M = .error (rd_sk cs n (sb_re 97 122 cs n (rd_sk cs n (a + 1)))) from by unfold rd_ab; rw [hnam]; dsimp only; rw [if_neg (by omega), if_neg (by omega)]]
        exact ⟨rfl, _, _, _, _, _, _, h154, h22, by have := hI.L3; omega, by omega, Or.inl ⟨rfl, by omega⟩, hX9, f156⟩
    · skip
      rw [ne_eq, i32_eq (by omega) (by omega)] at h145
      replace h145 := Decidable.not_not.mp h145
      have h145p : rd_sk cs n (sb_re 97 122 cs n (rd_sk cs n (a + 1))) < n := sb_lk_pos (cs := cs) (by omega)
      refine wp_st 1 (f' := (94, [some (.ref (b)), some (.int (Int32.ofNat (128 + (mg_ct (mg_k M) (mg_P M)))))], [.ref (b)], A9)) rfl ?_
      refine rw_gf (v := .int ((-1))) q1 rfl rfl rfl rfl (rfl) rfl ?_
      refine wp_izF rfl rfl (show ¬ ((Int32.ofNat 0) ≤ (-1 : Int32)) from by decide) ?_
      refine wp_st 2 (f' := (102, [some (.ref (b)), some (.int (Int32.ofNat (128 + (mg_ct (mg_k M) (mg_P M)))))], [.ref (b), .ref (b)], A9)) rfl ?_
      refine rw_gf (v := .int (Int32.ofNat (rd_sk cs n (sb_re 97 122 cs n (rd_sk cs n (a + 1)))))) q1 rfl rfl rfl rfl (rfl) rfl ?_
      refine wp_st 2 (f' := (107, [some (.ref (b)), some (.int (Int32.ofNat (128 + (mg_ct (mg_k M) (mg_P M)))))], [.int ((Int32.ofNat (rd_sk cs n (sb_re 97 122 cs n (rd_sk cs n (a + 1))))) + (Int32.ofNat 1)), .ref (b)], A9)) rfl ?_
      rw [i32_add (rd_sk cs n (sb_re 97 122 cs n (rd_sk cs n (a + 1)))) (1)]
      refine rw_pf (v := .int (Int32.ofNat (rd_sk cs n (sb_re 97 122 cs n (rd_sk cs n (a + 1))) + 1))) q1 rfl rfl rfl rfl rfl rfl (fun A157 h158 f159 => ?_)
      have f160 := hF9.trans f159
      rw [rf_c17] at h158
      refine wp_st 2 (f' := (112, [some (.ref (b)), some (.int (Int32.ofNat (128 + (mg_ct (mg_k M) (mg_P M)))))], [.int (Int32.ofNat (128 + (mg_ct (mg_k M) (mg_P M)))), .ref (b)], A157)) rfl ?_
      obtain ⟨⟨o7, A7⟩, g7, q7⟩ := mt_typed (d := d - 1) (M := M) (x := (sb_pk cs (sb_re 97 122 cs n (rd_sk cs n (a + 1)) - (rd_sk cs n (a + 1))) (rd_sk cs n (a + 1)) 0).toInt32) (by omega) (by omega) (by omega) (by omega) (up_eq ..) hT hc128 hx9 h22 hI.L3 h158
      have q7r : o7 = .inl none := q7.ret
      subst q7r
      refine wp_cv (A' := A7) (v := none) rfl rfl rfl rfl rfl (show _ from h158.1) (by omega) (g7) rfl ?_
      show am_wp d 128 (115, [some (.ref (b)), some (.int (Int32.ofNat (128 + (mg_ct (mg_k M) (mg_P M)))))], [], A7) _
      refine wp_st 1 (f' := (124, [some (.ref (b)), some (.int (Int32.ofNat (128 + (mg_ct (mg_k M) (mg_P M)))))], [], A7)) rfl ?_
      refine wp_rt rfl rfl rfl ?_
      rw [show rd_ab cs n L (a + 1) M = rd_tb cs n L ((sb_pk cs (sb_re 97 122 cs n (rd_sk cs n (a + 1)) - (rd_sk cs n (a + 1))) (rd_sk cs n (a + 1)) 0).toInt32) (rd_sk cs n (rd_sk cs n (sb_re 97 122 cs n (rd_sk cs n (a + 1))) + 1)) M from by unfold rd_ab; rw [hnam]; dsimp only; rw [if_neg (by omega), if_pos (by omega)]]
      exact q7.tr hX9 f160
