/-! The reference: readOffset. -/
theorem mo_off {d b n p g ci : Nat} {r : Int64} {cs : List Nat} {s : rf_S} {A : am_H} (hd : 3 ≤ d) (hp : p ≤ n) (hci : ci ≤ 63) (hx : rf_tx s cs n) (h : rf A b (rf_c s p (-1) r g)) : am_wp d 139 (0, am_ent 139 [.ref b, .int (Int32.ofNat (128 + ci))], [], A) (mo_Q A b s ci p (rd_o2 cs n p)) := by
  have hn1 := hx.2.2.1
  have hlk : ∀ k, sb_lk cs n k < 128 := by
    intro k
    unfold sb_lk
    split
    · have := hx.2.2.2 k (by omega)
      omega
    · omega
  refine wp_st 1 (f' := (1, [some (.ref (b)), some (.int (Int32.ofNat (128 + ci))), none], [.ref (b)], A)) rfl ?_
  refine rw_gf (v := .int (Int32.ofNat p)) h rfl rfl rfl rfl (rfl) rfl ?_
  refine wp_st 3 (f' := (7, [some (.ref (b)), some (.int (Int32.ofNat (128 + ci))), some (.int (Int32.ofNat p))], [.ref (b), .ref (b)], A)) rfl ?_
  refine rw_gf (v := .int (Int32.ofNat p)) h rfl rfl rfl rfl (rfl) rfl ?_
  have l1 := hlk (p)
  refine wp_cv (A' := A) (v := some (.int (Int32.ofNat (sb_lk cs n p)))) rfl rfl rfl rfl rfl (show _ from h.1) (by omega) (rr_look (by omega) (show rf_tx (s) cs n from hx) h) rfl ?_
  show am_wp d 139 (13, [some (.ref (b)), some (.int (Int32.ofNat (128 + ci))), some (.int (Int32.ofNat p))], [.int (Int32.ofNat (sb_lk cs n p))], A) _
  by_cases q2 : sb_re 97 122 cs n p = p
  · skip
    refine wp_cs (n := 0) (A' := A) (v := some (.int (Int32.ofNat 0))) rfl rfl rfl (by omega) ((show am_go (d - 1) 131 [.int (Int32.ofNat (sb_lk cs n p))] A (.inl (some (.int (Int32.ofNat 0))), A) from by have e := lt_go (d := d - 1) (x := Int32.ofNat (sb_lk cs n p)) (A := A); rw [sb_lt_f (by omega) (by omega) (by omega) q2 (hlk _)] at e; exact e)) rfl ?_
    show am_wp d 139 (16, [some (.ref (b)), some (.int (Int32.ofNat (128 + ci))), some (.int (Int32.ofNat p))], [.int (Int32.ofNat 0)], A) _
    refine wp_izT rfl rfl (show (Int32.ofNat 0) = (Int32.ofNat 0) from by decide) ?_
    refine wp_st 1 (f' := (26, [some (.ref (b)), some (.int (Int32.ofNat (128 + ci))), some (.int (Int32.ofNat p))], [.ref (b)], A)) rfl ?_
    refine rw_gf (v := .int (Int32.ofNat p)) h rfl rfl rfl rfl (rfl) rfl ?_
    refine wp_st 1 (f' := (30, [some (.ref (b)), some (.int (Int32.ofNat (128 + ci))), some (.int (Int32.ofNat p))], [.int (Int32.ofNat p), .int (Int32.ofNat p)], A)) rfl ?_
    refine wp_ifT rfl rfl (rfl) ?_
    refine wp_st 2 (f' := (71, [some (.ref (b)), some (.int (Int32.ofNat (128 + ci))), some (.int (Int32.ofNat p))], [.int (Int32.ofNat p), .ref (b)], A)) rfl ?_
    refine rw_pf (v := .int (Int32.ofNat p)) h rfl rfl rfl rfl rfl rfl (fun A3 h4 f5 => ?_)
    have f6 := (sb_fr.refl A b (b + 38)).trans f5
    rw [rf_c17] at h4
    refine wp_rt rfl rfl rfl ?_
    rw [show rd_o2 cs n p = none from by unfold rd_o2; rw [if_neg (fun z => by rw [q2, rd_is, if_neg (by simp [rd_W9])] at z; exact Bool.noConfusion z.1)]]
    exact ⟨rfl, _, _, h4, f6⟩
  · skip
    refine wp_cs (n := 0) (A' := A) (v := some (.int (Int32.ofNat 1))) rfl rfl rfl (by omega) ((show am_go (d - 1) 131 [.int (Int32.ofNat (sb_lk cs n p))] A (.inl (some (.int (Int32.ofNat 1))), A) from by have e := lt_go (d := d - 1) (x := Int32.ofNat (sb_lk cs n p)) (A := A); rw [sb_lt_t (by omega) q2] at e; exact e)) rfl ?_
    show am_wp d 139 (16, [some (.ref (b)), some (.int (Int32.ofNat (128 + ci))), some (.int (Int32.ofNat p))], [.int (Int32.ofNat 1)], A) _
    refine wp_izF rfl rfl (show ¬ ((Int32.ofNat 1) = (Int32.ofNat 0)) from by decide) ?_
    refine wp_st 2 (f' := (22, [some (.ref (b)), some (.int (Int32.ofNat (128 + ci))), some (.int (Int32.ofNat p))], [.int (Int32.ofNat 120), .ref (b)], A)) rfl ?_
    have huk := sb_re_le (lo := 97) (hi := 122) (cs := cs) (n := n) (a := p)
    have huj := huk.2.1 (by omega)
    have hao := rf_offw (sb_ltr_re cs n p) (by omega)
    rw [show p + (sb_re 97 122 cs n p - p) = sb_re 97 122 cs n p by omega] at hao
    obtain ⟨A7, g8, h9, f10⟩ := (show rf_go _ _ _ _ _ _ (rf_c s (sb_re 97 122 cs n p) (-1) (rf_rw cs p (sb_re 97 122 cs n p - p)) p) from by have q := rr_let (d := d - 1) (many := 120) (by omega) (by omega) (by omega) (show rf_tx (s) cs n from hx) h; rw [rf_let_ok (by omega) (by omega) q2] at q; exact q)
    have f11 := (sb_fr.refl A b (b + 38)).trans f10
    refine wp_cv (A' := A7) (v := none) rfl rfl rfl rfl rfl (show _ from h.1) (by omega) (g8) rfl ?_
    show am_wp d 139 (25, [some (.ref (b)), some (.int (Int32.ofNat (128 + ci))), some (.int (Int32.ofNat p))], [], A7) _
    refine wp_st 1 (f' := (26, [some (.ref (b)), some (.int (Int32.ofNat (128 + ci))), some (.int (Int32.ofNat p))], [.ref (b)], A7)) rfl ?_
    refine rw_gf (v := .int (Int32.ofNat (sb_re 97 122 cs n p))) h9 rfl rfl rfl rfl (rfl) rfl ?_
    refine wp_st 1 (f' := (30, [some (.ref (b)), some (.int (Int32.ofNat (128 + ci))), some (.int (Int32.ofNat p))], [.int (Int32.ofNat p), .int (Int32.ofNat (sb_re 97 122 cs n p))], A7)) rfl ?_
    refine wp_ifF rfl rfl (fun q => absurd ((i32_eq (a := sb_re 97 122 cs n p) (b := p) (by omega) (by omega)).mp q) (by omega)) ?_
    refine wp_st 1 (f' := (34, [some (.ref (b)), some (.int (Int32.ofNat (128 + ci))), some (.int (Int32.ofNat p))], [.ref (b)], A7)) rfl ?_
    refine rw_gf (v := .long (rf_rw cs p (sb_re 97 122 cs n p - p))) h9 rfl rfl rfl rfl (rfl) rfl ?_
    refine wp_st 6 (f' := (49, [some (.ref (b)), some (.int (Int32.ofNat (128 + ci))), some (.int (Int32.ofNat p))], [.int (Int32.ofNat 116), .int (Int32.ofNat 101), .int (Int32.ofNat 115), .int (Int32.ofNat 102), .int (Int32.ofNat 102), .int (Int32.ofNat 111), .long (rf_rw cs p (sb_re 97 122 cs n p - p))], A7)) rfl ?_
    refine wp_cs (n := 0) (A' := A7) (v := some (.long (Int64.ofNat 509824180))) rfl rfl rfl (by omega) ((show am_go (d - 1) 136 [.int (Int32.ofNat 111), .int (Int32.ofNat 102), .int (Int32.ofNat 102), .int (Int32.ofNat 115), .int (Int32.ofNat 101), .int (Int32.ofNat 116)] A7 (.inl (some (.long (Int64.ofNat 509824180))), A7) from rn_six (by omega) (by omega) (by omega) (by omega) (by omega) (by omega) (by omega))) rfl ?_
    show am_wp d 139 (52, [some (.ref (b)), some (.int (Int32.ofNat (128 + ci))), some (.int (Int32.ofNat p))], [.long (Int64.ofNat 509824180), .long (rf_rw cs p (sb_re 97 122 cs n p - p))], A7) _
    refine wp_st 1 (f' := (53, [some (.ref (b)), some (.int (Int32.ofNat (128 + ci))), some (.int (Int32.ofNat p))], [.int (lg_cmp (rf_rw cs p (sb_re 97 122 cs n p - p)) (Int64.ofNat 509824180))], A7)) rfl ?_
    refine wp_iz rfl rfl rfl (fun (h12 : (lg_cmp (rf_rw cs p (sb_re 97 122 cs n p - p)) (Int64.ofNat 509824180)) ≠ (Int32.ofNat 0)) => ?_) (fun (h12 : ¬ ((lg_cmp (rf_rw cs p (sb_re 97 122 cs n p - p)) (Int64.ofNat 509824180)) ≠ (Int32.ofNat 0))) => ?_)
    · skip
      have h12e : ¬ rd_is cs rd_W9 p (sb_re 97 122 cs n p) = true := fun e => h12 ((lg_cmp_eq _ _).mpr (hao.mpr e))
      refine wp_st 2 (f' := (71, [some (.ref (b)), some (.int (Int32.ofNat (128 + ci))), some (.int (Int32.ofNat p))], [.int (Int32.ofNat p), .ref (b)], A7)) rfl ?_
      refine rw_pf (v := .int (Int32.ofNat p)) h9 rfl rfl rfl rfl rfl rfl (fun A13 h14 f15 => ?_)
      have f16 := f11.trans f15
      rw [rf_c17] at h14
      refine wp_rt rfl rfl rfl ?_
      rw [show rd_o2 cs n p = none from by unfold rd_o2; rw [if_neg (fun z => h12e z.1)]]
      exact ⟨rfl, _, _, h14, f16⟩
    · skip
      replace h12 := Decidable.not_not.mp h12
      have h12e : rd_is cs rd_W9 p (sb_re 97 122 cs n p) = true := hao.mp ((lg_cmp_eq _ _).mp h12)
      refine wp_st 2 (f' := (58, [some (.ref (b)), some (.int (Int32.ofNat (128 + ci))), some (.int (Int32.ofNat p))], [.ref (b), .ref (b)], A7)) rfl ?_
      refine rw_gf (v := .int (Int32.ofNat (sb_re 97 122 cs n p))) h9 rfl rfl rfl rfl (rfl) rfl ?_
      have l17 := hlk (sb_re 97 122 cs n p)
      refine wp_cv (A' := A7) (v := some (.int (Int32.ofNat (sb_lk cs n (sb_re 97 122 cs n p))))) rfl rfl rfl rfl rfl (show _ from h9.1) (by omega) (rr_look (by omega) (show rf_tx (s) cs n from hx) h9) rfl ?_
      show am_wp d 139 (64, [some (.ref (b)), some (.int (Int32.ofNat (128 + ci))), some (.int (Int32.ofNat p))], [.int (Int32.ofNat (sb_lk cs n (sb_re 97 122 cs n p)))], A7) _
      refine wp_st 1 (f' := (66, [some (.ref (b)), some (.int (Int32.ofNat (128 + ci))), some (.int (Int32.ofNat p))], [.int (Int32.ofNat 58), .int (Int32.ofNat (sb_lk cs n (sb_re 97 122 cs n p)))], A7)) rfl ?_
      refine wp_if rfl rfl rfl (fun (h18 : (Int32.ofNat (sb_lk cs n (sb_re 97 122 cs n p))) = (Int32.ofNat 58)) => ?_) (fun (h18 : ¬ ((Int32.ofNat (sb_lk cs n (sb_re 97 122 cs n p))) = (Int32.ofNat 58))) => ?_)
      · skip
        rw [i32_eq (by omega) (by omega)] at h18
        have h18p : sb_re 97 122 cs n p < n := sb_lk_pos (cs := cs) (by omega)
        refine wp_st 2 (f' := (77, [some (.ref (b)), some (.int (Int32.ofNat (128 + ci))), some (.int (Int32.ofNat p))], [.ref (b), .ref (b)], A7)) rfl ?_
        refine rw_gf (v := .int (Int32.ofNat (sb_re 97 122 cs n p))) h9 rfl rfl rfl rfl (rfl) rfl ?_
        refine wp_st 2 (f' := (82, [some (.ref (b)), some (.int (Int32.ofNat (128 + ci))), some (.int (Int32.ofNat p))], [.int ((Int32.ofNat (sb_re 97 122 cs n p)) + (Int32.ofNat 1)), .ref (b)], A7)) rfl ?_
        rw [i32_add (sb_re 97 122 cs n p) (1)]
        refine rw_pf (v := .int (Int32.ofNat (sb_re 97 122 cs n p + 1))) h9 rfl rfl rfl rfl rfl rfl (fun A19 h20 f21 => ?_)
        have f22 := f11.trans f21
        rw [rf_c17] at h20
        refine wp_st 2 (f' := (87, [some (.ref (b)), some (.int (Int32.ofNat (128 + ci))), some (.int (Int32.ofNat p))], [.ref (b), .ref (b)], A19)) rfl ?_
        refine rw_gf (v := .int (Int32.ofNat (sb_re 97 122 cs n p + 1))) h20 rfl rfl rfl rfl (rfl) rfl ?_
        have l23 := hlk (sb_re 97 122 cs n p + 1)
        refine wp_cv (A' := A19) (v := some (.int (Int32.ofNat (sb_lk cs n (sb_re 97 122 cs n p + 1))))) rfl rfl rfl rfl rfl (show _ from h20.1) (by omega) (rr_look (by omega) (show rf_tx (s) cs n from hx) h20) rfl ?_
        show am_wp d 139 (93, [some (.ref (b)), some (.int (Int32.ofNat (128 + ci))), some (.int (Int32.ofNat p))], [.int (Int32.ofNat (sb_lk cs n (sb_re 97 122 cs n p + 1)))], A19) _
        by_cases q24 : sb_re 48 57 cs n (sb_re 97 122 cs n p + 1) = sb_re 97 122 cs n p + 1
        · skip
          refine wp_cs (n := 0) (A' := A19) (v := some (.int (Int32.ofNat 0))) rfl rfl rfl (by omega) ((show am_go (d - 1) 140 [.int (Int32.ofNat (sb_lk cs n (sb_re 97 122 cs n p + 1)))] A19 (.inl (some (.int (Int32.ofNat 0))), A19) from by have e := dg_go (d := d - 1) (x := Int32.ofNat (sb_lk cs n (sb_re 97 122 cs n p + 1))) (A := A19); rw [sb_lt_f (by omega) (by omega) (by omega) q24 (hlk _)] at e; exact e)) rfl ?_
          show am_wp d 139 (96, [some (.ref (b)), some (.int (Int32.ofNat (128 + ci))), some (.int (Int32.ofNat p))], [.int (Int32.ofNat 0)], A19) _
          refine wp_izF rfl rfl (show ¬ ((Int32.ofNat 0) ≠ (Int32.ofNat 0)) from by decide) ?_
          refine wp_st 2 (f' := (101, [some (.ref (b)), some (.int (Int32.ofNat (128 + ci))), some (.int (Int32.ofNat p))], [.ref (b), .ref (b)], A19)) rfl ?_
          refine rw_gf (v := .int (Int32.ofNat (sb_re 97 122 cs n p + 1))) h20 rfl rfl rfl rfl (rfl) rfl ?_
          obtain ⟨A25, g26, h27, f28⟩ := (show rf_go _ _ _ _ _ _ (rf_c s (sb_re 97 122 cs n p + 1) (Int32.ofNat (sb_re 97 122 cs n p + 1)) (rf_rw cs p (sb_re 97 122 cs n p - p)) p) from by have e := rr_fail (d := d - 1) (x := sb_re 97 122 cs n p + 1) h20; rw [rf_w_m] at e; exact e)
          have f29 := f22.trans f28
          refine wp_cv (A' := A25) (v := none) rfl rfl rfl rfl rfl (show _ from h20.1) (by omega) (g26) rfl ?_
          show am_wp d 139 (107, [some (.ref (b)), some (.int (Int32.ofNat (128 + ci))), some (.int (Int32.ofNat p))], [], A25) _
          refine wp_rt rfl rfl rfl ?_
          rw [show rd_o2 cs n p = some (.error (sb_re 97 122 cs n p + 1)) from by unfold rd_o2; rw [if_pos ⟨h12e, h18⟩, if_pos q24]]
          exact ⟨rfl, _, _, h27, f29⟩
        · skip
          have q24n := sb_re_nx q24
          refine wp_cs (n := 0) (A' := A19) (v := some (.int (Int32.ofNat 1))) rfl rfl rfl (by omega) ((show am_go (d - 1) 140 [.int (Int32.ofNat (sb_lk cs n (sb_re 97 122 cs n p + 1)))] A19 (.inl (some (.int (Int32.ofNat 1))), A19) from by have e := dg_go (d := d - 1) (x := Int32.ofNat (sb_lk cs n (sb_re 97 122 cs n p + 1))) (A := A19); rw [sb_lt_t (by omega) q24] at e; exact e)) rfl ?_
          show am_wp d 139 (96, [some (.ref (b)), some (.int (Int32.ofNat (128 + ci))), some (.int (Int32.ofNat p))], [.int (Int32.ofNat 1)], A19) _
          refine wp_izT rfl rfl (show (Int32.ofNat 1) ≠ (Int32.ofNat 0) from by decide) ?_
          refine wp_st 1 (f' := (109, [some (.ref (b)), some (.int (Int32.ofNat (128 + ci))), some (.int (Int32.ofNat p))], [.ref (b)], A19)) rfl ?_
          refine rw_gr h20 rfl rfl rfl rfl rfl rfl ?_
          refine wp_st 3 (f' := (115, [some (.ref (b)), some (.int (Int32.ofNat (128 + ci))), some (.int (Int32.ofNat p))], [.ref (b), .ref (b), .int (Int32.ofNat (128 + ci)), .ref (b + 9)], A19)) rfl ?_
          refine rw_gf (v := .int (Int32.ofNat (sb_re 97 122 cs n p + 1))) h20 rfl rfl rfl rfl (rfl) rfl ?_
          have l30 := hlk (sb_re 97 122 cs n p + 1)
          refine wp_cv (A' := A19) (v := some (.int (Int32.ofNat (sb_lk cs n (sb_re 97 122 cs n p + 1))))) rfl rfl rfl rfl rfl (show _ from h20.1) (by omega) (rr_look (by omega) (show rf_tx (s) cs n from hx) h20) rfl ?_
          show am_wp d 139 (121, [some (.ref (b)), some (.int (Int32.ofNat (128 + ci))), some (.int (Int32.ofNat p))], [.int (Int32.ofNat (sb_lk cs n (sb_re 97 122 cs n p + 1))), .int (Int32.ofNat (128 + ci)), .ref (b + 9)], A19) _
          refine wp_st 2 (f' := (124, [some (.ref (b)), some (.int (Int32.ofNat (128 + ci))), some (.int (Int32.ofNat p))], [.int ((Int32.ofNat (sb_lk cs n (sb_re 97 122 cs n p + 1))) - (Int32.ofNat 48)), .int (Int32.ofNat (128 + ci)), .ref (b + 9)], A19)) rfl ?_
          rw [i32_sub (a := sb_lk cs n (sb_re 97 122 cs n p + 1)) (b := 48) (by omega)]
          refine rw_as (j := 11) (n := 128 + ci) (v := .int (Int32.ofNat ((sb_lk cs n (sb_re 97 122 cs n p + 1)) - 48))) h20 rfl rfl rfl (Or.inl ⟨rfl, rfl, rfl⟩) (show _ < 192 from by omega) rfl rfl (fun A31 h32 f33 => ?_)
          have f34 := f22.trans f33
          rw [rf_c_u (by decide)] at h32
          refine wp_st 2 (f' := (127, [some (.ref (b)), some (.int (Int32.ofNat (128 + ci))), some (.int (Int32.ofNat p))], [.ref (b), .ref (b)], A31)) rfl ?_
          refine rw_gf (v := .int (Int32.ofNat (sb_re 97 122 cs n p + 1))) h32 rfl rfl rfl rfl (rfl) rfl ?_
          refine wp_st 2 (f' := (132, [some (.ref (b)), some (.int (Int32.ofNat (128 + ci))), some (.int (Int32.ofNat p))], [.int ((Int32.ofNat (sb_re 97 122 cs n p + 1)) + (Int32.ofNat 1)), .ref (b)], A31)) rfl ?_
          rw [i32_add (sb_re 97 122 cs n p + 1) (1)]
          refine rw_pf (v := .int (Int32.ofNat (sb_re 97 122 cs n p + 1 + 1))) h32 rfl rfl rfl rfl rfl rfl (fun A35 h36 f37 => ?_)
          have f38 := f34.trans f37
          rw [rf_c17] at h36
          refine wp_st 2 (f' := (137, [some (.ref (b)), some (.int (Int32.ofNat (128 + ci))), some (.int (Int32.ofNat p))], [.ref (b), .ref (b)], A35)) rfl ?_
          refine rw_gf (v := .int (Int32.ofNat (sb_re 97 122 cs n p + 1 + 1))) h36 rfl rfl rfl rfl (rfl) rfl ?_
          have l39 := hlk (sb_re 97 122 cs n p + 1 + 1)
          refine wp_cv (A' := A35) (v := some (.int (Int32.ofNat (sb_lk cs n (sb_re 97 122 cs n p + 1 + 1))))) rfl rfl rfl rfl rfl (show _ from h36.1) (by omega) (rr_look (by omega) (show rf_tx (rf_u s 11 (128 + ci) (.int (Int32.ofNat ((sb_lk cs n (sb_re 97 122 cs n p + 1)) - 48)))) cs n from hx) h36) rfl ?_
          show am_wp d 139 (143, [some (.ref (b)), some (.int (Int32.ofNat (128 + ci))), some (.int (Int32.ofNat p))], [.int (Int32.ofNat (sb_lk cs n (sb_re 97 122 cs n p + 1 + 1)))], A35) _
          by_cases q40 : sb_re 48 57 cs n (sb_re 97 122 cs n p + 1 + 1) = sb_re 97 122 cs n p + 1 + 1
          · skip
            refine wp_cs (n := 0) (A' := A35) (v := some (.int (Int32.ofNat 0))) rfl rfl rfl (by omega) ((show am_go (d - 1) 140 [.int (Int32.ofNat (sb_lk cs n (sb_re 97 122 cs n p + 1 + 1)))] A35 (.inl (some (.int (Int32.ofNat 0))), A35) from by have e := dg_go (d := d - 1) (x := Int32.ofNat (sb_lk cs n (sb_re 97 122 cs n p + 1 + 1))) (A := A35); rw [sb_lt_f (by omega) (by omega) (by omega) q40 (hlk _)] at e; exact e)) rfl ?_
            show am_wp d 139 (146, [some (.ref (b)), some (.int (Int32.ofNat (128 + ci))), some (.int (Int32.ofNat p))], [.int (Int32.ofNat 0)], A35) _
            refine wp_izT rfl rfl (show (Int32.ofNat 0) = (Int32.ofNat 0) from by decide) ?_
            refine wp_rt rfl rfl rfl ?_
            rw [show rd_o2 cs n p = some (.ok (sb_re 97 122 cs n p + 1 + 1, sb_lk cs n (sb_re 97 122 cs n p + 1) - 48)) from by unfold rd_o2; rw [if_pos ⟨h12e, h18⟩, if_neg q24, if_pos q40]]
            exact ⟨rfl, _, _, h36, f38⟩
          · skip
            have q40n := sb_re_nx q40
            refine wp_cs (n := 0) (A' := A35) (v := some (.int (Int32.ofNat 1))) rfl rfl rfl (by omega) ((show am_go (d - 1) 140 [.int (Int32.ofNat (sb_lk cs n (sb_re 97 122 cs n p + 1 + 1)))] A35 (.inl (some (.int (Int32.ofNat 1))), A35) from by have e := dg_go (d := d - 1) (x := Int32.ofNat (sb_lk cs n (sb_re 97 122 cs n p + 1 + 1))) (A := A35); rw [sb_lt_t (by omega) q40] at e; exact e)) rfl ?_
            show am_wp d 139 (146, [some (.ref (b)), some (.int (Int32.ofNat (128 + ci))), some (.int (Int32.ofNat p))], [.int (Int32.ofNat 1)], A35) _
            refine wp_izF rfl rfl (show ¬ ((Int32.ofNat 1) = (Int32.ofNat 0)) from by decide) ?_
            refine wp_st 1 (f' := (150, [some (.ref (b)), some (.int (Int32.ofNat (128 + ci))), some (.int (Int32.ofNat p))], [.ref (b)], A35)) rfl ?_
            refine rw_gr h36 rfl rfl rfl rfl rfl rfl ?_
            refine wp_st 3 (f' := (157, [some (.ref (b)), some (.int (Int32.ofNat (128 + ci))), some (.int (Int32.ofNat p))], [.ref (b), .int (Int32.ofNat 10), .int (Int32.ofNat (128 + ci)), .ref (b + 9)], A35)) rfl ?_
            refine rw_gr h36 rfl rfl rfl rfl rfl rfl ?_
            refine wp_st 1 (f' := (161, [some (.ref (b)), some (.int (Int32.ofNat (128 + ci))), some (.int (Int32.ofNat p))], [.int (Int32.ofNat (128 + ci)), .ref (b + 9), .int (Int32.ofNat 10), .int (Int32.ofNat (128 + ci)), .ref (b + 9)], A35)) rfl ?_
            refine rw_al (j := 11) (n := 128 + ci) (v := .int (Int32.ofNat (sb_lk cs n (sb_re 97 122 cs n p + 1) - 48))) h36 rfl rfl rfl (Or.inl ⟨rfl, rfl⟩) rfl (show _ < 192 from by omega) (by rw [rf_c_ne (by decide), rf_u_eq]) rfl ?_
            refine wp_st 1 (f' := (163, [some (.ref (b)), some (.int (Int32.ofNat (128 + ci))), some (.int (Int32.ofNat p))], [.int ((Int32.ofNat 10) * (Int32.ofNat (sb_lk cs n (sb_re 97 122 cs n p + 1) - 48))), .int (Int32.ofNat (128 + ci)), .ref (b + 9)], A35)) rfl ?_
            rw [i32_mul (10) (sb_lk cs n (sb_re 97 122 cs n p + 1) - 48)]
            refine wp_st 2 (f' := (165, [some (.ref (b)), some (.int (Int32.ofNat (128 + ci))), some (.int (Int32.ofNat p))], [.ref (b), .ref (b), .int (Int32.ofNat (10 * (sb_lk cs n (sb_re 97 122 cs n p + 1) - 48))), .int (Int32.ofNat (128 + ci)), .ref (b + 9)], A35)) rfl ?_
            refine rw_gf (v := .int (Int32.ofNat (sb_re 97 122 cs n p + 1 + 1))) h36 rfl rfl rfl rfl (rfl) rfl ?_
            have l41 := hlk (sb_re 97 122 cs n p + 1 + 1)
            refine wp_cv (A' := A35) (v := some (.int (Int32.ofNat (sb_lk cs n (sb_re 97 122 cs n p + 1 + 1))))) rfl rfl rfl rfl rfl (show _ from h36.1) (by omega) (rr_look (by omega) (show rf_tx (rf_u s 11 (128 + ci) (.int (Int32.ofNat ((sb_lk cs n (sb_re 97 122 cs n p + 1)) - 48)))) cs n from hx) h36) rfl ?_
            show am_wp d 139 (171, [some (.ref (b)), some (.int (Int32.ofNat (128 + ci))), some (.int (Int32.ofNat p))], [.int (Int32.ofNat (sb_lk cs n (sb_re 97 122 cs n p + 1 + 1))), .int (Int32.ofNat (10 * (sb_lk cs n (sb_re 97 122 cs n p + 1) - 48))), .int (Int32.ofNat (128 + ci)), .ref (b + 9)], A35) _
            refine wp_st 1 (f' := (172, [some (.ref (b)), some (.int (Int32.ofNat (128 + ci))), some (.int (Int32.ofNat p))], [.int ((Int32.ofNat (10 * (sb_lk cs n (sb_re 97 122 cs n p + 1) - 48))) + (Int32.ofNat (sb_lk cs n (sb_re 97 122 cs n p + 1 + 1)))), .int (Int32.ofNat (128 + ci)), .ref (b + 9)], A35)) rfl ?_
            rw [i32_add (10 * (sb_lk cs n (sb_re 97 122 cs n p + 1) - 48)) (sb_lk cs n (sb_re 97 122 cs n p + 1 + 1))]
            refine wp_st 2 (f' := (175, [some (.ref (b)), some (.int (Int32.ofNat (128 + ci))), some (.int (Int32.ofNat p))], [.int ((Int32.ofNat (10 * (sb_lk cs n (sb_re 97 122 cs n p + 1) - 48) + (sb_lk cs n (sb_re 97 122 cs n p + 1 + 1)))) - (Int32.ofNat 48)), .int (Int32.ofNat (128 + ci)), .ref (b + 9)], A35)) rfl ?_
            rw [i32_sub (a := 10 * (sb_lk cs n (sb_re 97 122 cs n p + 1) - 48) + (sb_lk cs n (sb_re 97 122 cs n p + 1 + 1))) (b := 48) (by omega)]
            refine rw_as (j := 11) (n := 128 + ci) (v := .int (Int32.ofNat ((10 * (sb_lk cs n (sb_re 97 122 cs n p + 1) - 48) + (sb_lk cs n (sb_re 97 122 cs n p + 1 + 1))) - 48))) h36 rfl rfl rfl (Or.inl ⟨rfl, rfl, rfl⟩) (show _ < 192 from by omega) rfl rfl (fun A42 h43 f44 => ?_)
            have f45 := f38.trans f44
            rw [rf_c_u (by decide)] at h43
            refine wp_st 2 (f' := (178, [some (.ref (b)), some (.int (Int32.ofNat (128 + ci))), some (.int (Int32.ofNat p))], [.ref (b), .ref (b)], A42)) rfl ?_
            refine rw_gf (v := .int (Int32.ofNat (sb_re 97 122 cs n p + 1 + 1))) h43 rfl rfl rfl rfl (rfl) rfl ?_
            refine wp_st 2 (f' := (183, [some (.ref (b)), some (.int (Int32.ofNat (128 + ci))), some (.int (Int32.ofNat p))], [.int ((Int32.ofNat (sb_re 97 122 cs n p + 1 + 1)) + (Int32.ofNat 1)), .ref (b)], A42)) rfl ?_
            rw [i32_add (sb_re 97 122 cs n p + 1 + 1) (1)]
            refine rw_pf (v := .int (Int32.ofNat (sb_re 97 122 cs n p + 1 + 1 + 1))) h43 rfl rfl rfl rfl rfl rfl (fun A46 h47 f48 => ?_)
            have f49 := f45.trans f48
            rw [rf_c17] at h47
            refine wp_rt rfl rfl rfl ?_
            rw [show rd_o2 cs n p = some (.ok (sb_re 97 122 cs n p + 1 + 1 + 1, 10 * (sb_lk cs n (sb_re 97 122 cs n p + 1) - 48) + sb_lk cs n (sb_re 97 122 cs n p + 1 + 1) - 48)) from by unfold rd_o2; rw [if_pos ⟨h12e, h18⟩, if_neg q24, if_neg q40]]
            rw [rf_u_u] at h47
            exact ⟨rfl, _, _, h47, f49⟩
      · skip
        rw [i32_eq (by omega) (by omega)] at h18
        refine wp_st 2 (f' := (71, [some (.ref (b)), some (.int (Int32.ofNat (128 + ci))), some (.int (Int32.ofNat p))], [.int (Int32.ofNat p), .ref (b)], A7)) rfl ?_
        refine rw_pf (v := .int (Int32.ofNat p)) h9 rfl rfl rfl rfl rfl rfl (fun A50 h51 f52 => ?_)
        have f53 := f11.trans f52
        rw [rf_c17] at h51
        refine wp_rt rfl rfl rfl ?_
        rw [show rd_o2 cs n p = none from by unfold rd_o2; rw [if_neg (fun z => h18 z.2)]]
        exact ⟨rfl, _, _, h51, f53⟩
