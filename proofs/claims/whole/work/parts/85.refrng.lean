/-! The reference: readRange. -/
theorem rq_range {d b n p g : Nat} {r : Int64} {cs : List Nat} {s : rf_S} {A : am_H} {G : Nat} (hd : 2 ≤ d) (hp : p ≤ n) (hG : s 41 0 = .int (Int32.ofNat G)) (hG2 : G < 64) (hx : rf_tx s cs n) (h : rf A b (rf_c s p (-1) r g)) : am_wp d 153 (0, am_ent 153 [.ref b], [], A) (rq_Rg A b s n G (ru_rg cs n p)) := by
  have hn1 := hx.2.2.1
  have hlk : ∀ k, sb_lk cs n k < 128 := by
    intro k
    unfold sb_lk
    split
    · have := hx.2.2.2 k (by omega)
      omega
    · omega
  refine wp_st 1 (f' := (1, [some (.ref (b)), none], [.ref (b)], A)) rfl ?_
  have k1 := rd_sk_gt (cs := cs) (n := n) (a := p)
  obtain ⟨A2, g3, h4, f5⟩ := (show rf_go (d - 1) 129 [.ref b] A b none (rf_c s (rd_sk cs n p) (-1) r g) from rr_spaces (d := d - 1) (by omega) (by omega) (show rf_tx (s) cs n from hx) h)
  have f6 := (sb_fr.refl A b (b + 38)).trans f5
  refine wp_cv (A' := A2) (v := none) rfl rfl rfl rfl rfl (show _ from h.1) (by omega) (g3) rfl ?_
  show am_wp d 153 (4, [some (.ref (b)), none], [], A2) _
  refine wp_st 1 (f' := (5, [some (.ref (b)), none], [.ref (b)], A2)) rfl ?_
  rcases u7 : rd_num cs n 4 (rd_sk cs n p) with e8 | ⟨x9, v10⟩
  · skip
    have u7l := rd_num_er (by omega) u7
    have u7k := sb_re_le (lo := 48) (hi := 57) (cs := cs) (n := n) (a := rd_sk cs n p)
    have u7j := u7k.2.1 (by omega)
    obtain ⟨A11, g12, h13, f14⟩ := (show rf_go _ _ _ _ _ _ (rf_c s (sb_re 48 57 cs n (rd_sk cs n p)) (Int32.ofNat e8) (rf_nr cs (rd_sk cs n p) (sb_re 48 57 cs n (rd_sk cs n p) - (rd_sk cs n p))) (rd_sk cs n p)) from by have q := rr_dig (d := d - 1) (by omega) (by omega) (show rf_tx (s) cs n from hx) h4; rw [rf_dig_er u7] at q; exact q)
    have f15 := f6.trans f14
    refine wp_cv (A' := A11) (v := none) rfl rfl rfl rfl rfl (show _ from h4.1) (by omega) (g12) rfl ?_
    show am_wp d 153 (8, [some (.ref (b)), none], [], A11) _
    refine wp_st 2 (f' := (12, [some (.ref (b)), none], [.ref (b), .int (Int32.ofNat 128)], A11)) rfl ?_
    refine rw_gf (v := .int (Int32.ofNat G)) h13 rfl rfl rfl rfl (hG) rfl ?_
    refine wp_st 1 (f' := (16, [some (.ref (b)), none], [.int ((Int32.ofNat 128) + (Int32.ofNat G))], A11)) rfl ?_
    rw [i32_add (128) (G)]
    refine wp_st 3 (f' := (19, [some (.ref (b)), some (.int (Int32.ofNat (128 + G)))], [.ref (b), .ref (b)], A11)) rfl ?_
    refine rw_gf (v := .int (Int32.ofNat G)) h13 rfl rfl rfl rfl (hG) rfl ?_
    refine wp_st 2 (f' := (24, [some (.ref (b)), some (.int (Int32.ofNat (128 + G)))], [.int ((Int32.ofNat G) + (Int32.ofNat 1)), .ref (b)], A11)) rfl ?_
    rw [i32_add (G) (1)]
    refine rw_pf (v := .int (Int32.ofNat (G + 1))) h13 rfl rfl rfl rfl rfl rfl (fun A16 h17 f18 => ?_)
    have f19 := f15.trans f18
    rw [rf_c_u (by decide)] at h17
    refine wp_st 1 (f' := (28, [some (.ref (b)), some (.int (Int32.ofNat (128 + G)))], [.ref (b)], A16)) rfl ?_
    refine rw_gr h17 rfl rfl rfl rfl rfl rfl ?_
    refine wp_st 2 (f' := (33, [some (.ref (b)), some (.int (Int32.ofNat (128 + G)))], [.ref (b), .int (Int32.ofNat (128 + G)), .ref (b + 27)], A16)) rfl ?_
    refine rw_gf (v := .long (rf_nr cs (rd_sk cs n p) (sb_re 48 57 cs n (rd_sk cs n p) - (rd_sk cs n p)))) h17 rfl rfl rfl rfl (rfl) rfl ?_
    refine wp_st 1 (f' := (37, [some (.ref (b)), some (.int (Int32.ofNat (128 + G)))], [.int ((rf_nr cs (rd_sk cs n p) (sb_re 48 57 cs n (rd_sk cs n p) - (rd_sk cs n p))).toInt32), .int (Int32.ofNat (128 + G)), .ref (b + 27)], A16)) rfl ?_
    refine rw_as (j := 38) (n := 128 + G) (v := .int ((rf_nr cs (rd_sk cs n p) (sb_re 48 57 cs n (rd_sk cs n p) - (rd_sk cs n p))).toInt32)) h17 rfl rfl rfl (Or.inl ⟨rfl, rfl, rfl⟩) (show _ < 192 from by omega) rfl rfl (fun A20 h21 f22 => ?_)
    have f23 := f19.trans f22
    rw [rf_c_u (by decide)] at h21
    refine wp_st 1 (f' := (39, [some (.ref (b)), some (.int (Int32.ofNat (128 + G)))], [.ref (b)], A20)) rfl ?_
    refine rw_gr h21 rfl rfl rfl rfl rfl rfl ?_
    refine wp_st 2 (f' := (44, [some (.ref (b)), some (.int (Int32.ofNat (128 + G)))], [.ref (b), .int (Int32.ofNat (128 + G)), .ref (b + 28)], A20)) rfl ?_
    refine rw_gf (v := .long (rf_nr cs (rd_sk cs n p) (sb_re 48 57 cs n (rd_sk cs n p) - (rd_sk cs n p)))) h21 rfl rfl rfl rfl (rfl) rfl ?_
    refine wp_st 1 (f' := (48, [some (.ref (b)), some (.int (Int32.ofNat (128 + G)))], [.int ((rf_nr cs (rd_sk cs n p) (sb_re 48 57 cs n (rd_sk cs n p) - (rd_sk cs n p))).toInt32), .int (Int32.ofNat (128 + G)), .ref (b + 28)], A20)) rfl ?_
    refine rw_as (j := 39) (n := 128 + G) (v := .int ((rf_nr cs (rd_sk cs n p) (sb_re 48 57 cs n (rd_sk cs n p) - (rd_sk cs n p))).toInt32)) h21 rfl rfl rfl (Or.inl ⟨rfl, rfl, rfl⟩) (show _ < 192 from by omega) rfl rfl (fun A24 h25 f26 => ?_)
    have f27 := f23.trans f26
    rw [rf_c_u (by decide)] at h25
    refine wp_st 1 (f' := (50, [some (.ref (b)), some (.int (Int32.ofNat (128 + G)))], [.ref (b)], A24)) rfl ?_
    have k28 := rd_sk_gt (cs := cs) (n := n) (a := sb_re 48 57 cs n (rd_sk cs n p))
    obtain ⟨A29, g30, h31, f32⟩ := (show rf_go (d - 1) 129 [.ref b] A24 b none (rf_c (rf_u (rf_u (rf_u s 41 0 (.int (Int32.ofNat (G + 1)))) 38 (128 + G) (.int ((rf_nr cs (rd_sk cs n p) (sb_re 48 57 cs n (rd_sk cs n p) - (rd_sk cs n p))).toInt32))) 39 (128 + G) (.int ((rf_nr cs (rd_sk cs n p) (sb_re 48 57 cs n (rd_sk cs n p) - (rd_sk cs n p))).toInt32))) (rd_sk cs n (sb_re 48 57 cs n (rd_sk cs n p))) (Int32.ofNat e8) (rf_nr cs (rd_sk cs n p) (sb_re 48 57 cs n (rd_sk cs n p) - (rd_sk cs n p))) (rd_sk cs n p)) from rr_spaces (d := d - 1) (by omega) (by omega) (show rf_tx (rf_u (rf_u (rf_u s 41 0 (.int (Int32.ofNat (G + 1)))) 38 (128 + G) (.int ((rf_nr cs (rd_sk cs n p) (sb_re 48 57 cs n (rd_sk cs n p) - (rd_sk cs n p))).toInt32))) 39 (128 + G) (.int ((rf_nr cs (rd_sk cs n p) (sb_re 48 57 cs n (rd_sk cs n p) - (rd_sk cs n p))).toInt32))) cs n from hx) h25)
    have f33 := f27.trans f32
    refine wp_cv (A' := A29) (v := none) rfl rfl rfl rfl rfl (show _ from h25.1) (by omega) (g30) rfl ?_
    show am_wp d 153 (53, [some (.ref (b)), some (.int (Int32.ofNat (128 + G)))], [], A29) _
    refine wp_st 2 (f' := (55, [some (.ref (b)), some (.int (Int32.ofNat (128 + G)))], [.ref (b), .ref (b)], A29)) rfl ?_
    refine rw_gf (v := .int (Int32.ofNat (rd_sk cs n (sb_re 48 57 cs n (rd_sk cs n p))))) h31 rfl rfl rfl rfl (rfl) rfl ?_
    have l34 := hlk (rd_sk cs n (sb_re 48 57 cs n (rd_sk cs n p)))
    refine wp_cv (A' := A29) (v := some (.int (Int32.ofNat (sb_lk cs n (rd_sk cs n (sb_re 48 57 cs n (rd_sk cs n p))))))) rfl rfl rfl rfl rfl (show _ from h31.1) (by omega) (rr_look (by omega) (show rf_tx (rf_u (rf_u (rf_u s 41 0 (.int (Int32.ofNat (G + 1)))) 38 (128 + G) (.int ((rf_nr cs (rd_sk cs n p) (sb_re 48 57 cs n (rd_sk cs n p) - (rd_sk cs n p))).toInt32))) 39 (128 + G) (.int ((rf_nr cs (rd_sk cs n p) (sb_re 48 57 cs n (rd_sk cs n p) - (rd_sk cs n p))).toInt32))) cs n from hx) h31) rfl ?_
    show am_wp d 153 (61, [some (.ref (b)), some (.int (Int32.ofNat (128 + G)))], [.int (Int32.ofNat (sb_lk cs n (rd_sk cs n (sb_re 48 57 cs n (rd_sk cs n p)))))], A29) _
    refine wp_st 1 (f' := (63, [some (.ref (b)), some (.int (Int32.ofNat (128 + G)))], [.int (Int32.ofNat 46), .int (Int32.ofNat (sb_lk cs n (rd_sk cs n (sb_re 48 57 cs n (rd_sk cs n p)))))], A29)) rfl ?_
    refine wp_if rfl (show am_tgt 63 (82) = 145 by decide +kernel) rfl (fun (h35 : (Int32.ofNat (sb_lk cs n (rd_sk cs n (sb_re 48 57 cs n (rd_sk cs n p))))) ≠ (Int32.ofNat 46)) => ?_) (fun (h35 : ¬ ((Int32.ofNat (sb_lk cs n (rd_sk cs n (sb_re 48 57 cs n (rd_sk cs n p))))) ≠ (Int32.ofNat 46))) => ?_)
    · skip
      rw [ne_eq, i32_eq (by omega) (by omega)] at h35
      refine wp_st 1 (f' := (146, [some (.ref (b)), some (.int (Int32.ofNat (128 + G)))], [.ref (b)], A29)) rfl ?_
      have k36 := rd_sk_gt (cs := cs) (n := n) (a := rd_sk cs n (sb_re 48 57 cs n (rd_sk cs n p)))
      obtain ⟨A37, g38, h39, f40⟩ := (show rf_go (d - 1) 129 [.ref b] A29 b none (rf_c (rf_u (rf_u (rf_u s 41 0 (.int (Int32.ofNat (G + 1)))) 38 (128 + G) (.int ((rf_nr cs (rd_sk cs n p) (sb_re 48 57 cs n (rd_sk cs n p) - (rd_sk cs n p))).toInt32))) 39 (128 + G) (.int ((rf_nr cs (rd_sk cs n p) (sb_re 48 57 cs n (rd_sk cs n p) - (rd_sk cs n p))).toInt32))) (rd_sk cs n (rd_sk cs n (sb_re 48 57 cs n (rd_sk cs n p)))) (Int32.ofNat e8) (rf_nr cs (rd_sk cs n p) (sb_re 48 57 cs n (rd_sk cs n p) - (rd_sk cs n p))) (rd_sk cs n p)) from rr_spaces (d := d - 1) (by omega) (by omega) (show rf_tx (rf_u (rf_u (rf_u s 41 0 (.int (Int32.ofNat (G + 1)))) 38 (128 + G) (.int ((rf_nr cs (rd_sk cs n p) (sb_re 48 57 cs n (rd_sk cs n p) - (rd_sk cs n p))).toInt32))) 39 (128 + G) (.int ((rf_nr cs (rd_sk cs n p) (sb_re 48 57 cs n (rd_sk cs n p) - (rd_sk cs n p))).toInt32))) cs n from hx) h31)
      have f41 := f33.trans f40
      refine wp_cv (A' := A37) (v := none) rfl rfl rfl rfl rfl (show _ from h31.1) (by omega) (g38) rfl ?_
      show am_wp d 153 (149, [some (.ref (b)), some (.int (Int32.ofNat (128 + G)))], [], A37) _
      refine wp_rt rfl rfl rfl ?_
      have hres : ru_rg cs n p = .error (e8) := by simp [ru_rg, u7, h35]
      rw [hres]
      exact rq_Rg_er h39 ⟨by simp only [rf_u_if]; simp, fun j i q1 q2 q3 => by simp only [rf_u_if]; repeat (rw [if_neg (by omega)])⟩ (by omega) f41
    · skip
      rw [ne_eq, i32_eq (by omega) (by omega)] at h35
      replace h35 := Decidable.not_not.mp h35
      refine wp_st 1 (f' := (67, [some (.ref (b)), some (.int (Int32.ofNat (128 + G)))], [.ref (b)], A29)) rfl ?_
      refine rw_gf (v := .int (Int32.ofNat e8)) h31 rfl rfl rfl rfl (rfl) rfl ?_
      refine wp_izT rfl rfl (show Int32.ofNat 0 ≤ (Int32.ofNat e8) from Int32.not_lt.mp (Int32.ofNat_not_neg (by omega))) ?_
      refine wp_st 1 (f' := (146, [some (.ref (b)), some (.int (Int32.ofNat (128 + G)))], [.ref (b)], A29)) rfl ?_
      have k42 := rd_sk_gt (cs := cs) (n := n) (a := rd_sk cs n (sb_re 48 57 cs n (rd_sk cs n p)))
      obtain ⟨A43, g44, h45, f46⟩ := (show rf_go (d - 1) 129 [.ref b] A29 b none (rf_c (rf_u (rf_u (rf_u s 41 0 (.int (Int32.ofNat (G + 1)))) 38 (128 + G) (.int ((rf_nr cs (rd_sk cs n p) (sb_re 48 57 cs n (rd_sk cs n p) - (rd_sk cs n p))).toInt32))) 39 (128 + G) (.int ((rf_nr cs (rd_sk cs n p) (sb_re 48 57 cs n (rd_sk cs n p) - (rd_sk cs n p))).toInt32))) (rd_sk cs n (rd_sk cs n (sb_re 48 57 cs n (rd_sk cs n p)))) (Int32.ofNat e8) (rf_nr cs (rd_sk cs n p) (sb_re 48 57 cs n (rd_sk cs n p) - (rd_sk cs n p))) (rd_sk cs n p)) from rr_spaces (d := d - 1) (by omega) (by omega) (show rf_tx (rf_u (rf_u (rf_u s 41 0 (.int (Int32.ofNat (G + 1)))) 38 (128 + G) (.int ((rf_nr cs (rd_sk cs n p) (sb_re 48 57 cs n (rd_sk cs n p) - (rd_sk cs n p))).toInt32))) 39 (128 + G) (.int ((rf_nr cs (rd_sk cs n p) (sb_re 48 57 cs n (rd_sk cs n p) - (rd_sk cs n p))).toInt32))) cs n from hx) h31)
      have f47 := f33.trans f46
      refine wp_cv (A' := A43) (v := none) rfl rfl rfl rfl rfl (show _ from h31.1) (by omega) (g44) rfl ?_
      show am_wp d 153 (149, [some (.ref (b)), some (.int (Int32.ofNat (128 + G)))], [], A43) _
      refine wp_rt rfl rfl rfl ?_
      have hres : ru_rg cs n p = .error (e8) := by simp [ru_rg, u7, h35]
      rw [hres]
      exact rq_Rg_er h45 ⟨by simp only [rf_u_if]; simp, fun j i q1 q2 q3 => by simp only [rf_u_if]; repeat (rw [if_neg (by omega)])⟩ (by omega) f47
  · skip
    have u7l := rd_num_le (by omega) u7
    have u7v := rd_num_v (by omega) (by omega) u7
    obtain ⟨u71, u72, u73⟩ := rf_dig_ok (by omega) u7
    obtain ⟨A48, g49, h50, f51⟩ := (show rf_go _ _ _ _ _ _ (rf_c s x9 (-1) (Int64.ofNat v10) (rd_sk cs n p)) from by have q := rr_dig (d := d - 1) (by omega) (by omega) (show rf_tx (s) cs n from hx) h4; rw [u72, u73, u71] at q; exact q)
    have f52 := f6.trans f51
    refine wp_cv (A' := A48) (v := none) rfl rfl rfl rfl rfl (show _ from h4.1) (by omega) (g49) rfl ?_
    show am_wp d 153 (8, [some (.ref (b)), none], [], A48) _
    refine wp_st 2 (f' := (12, [some (.ref (b)), none], [.ref (b), .int (Int32.ofNat 128)], A48)) rfl ?_
    refine rw_gf (v := .int (Int32.ofNat G)) h50 rfl rfl rfl rfl (hG) rfl ?_
    refine wp_st 1 (f' := (16, [some (.ref (b)), none], [.int ((Int32.ofNat 128) + (Int32.ofNat G))], A48)) rfl ?_
    rw [i32_add (128) (G)]
    refine wp_st 3 (f' := (19, [some (.ref (b)), some (.int (Int32.ofNat (128 + G)))], [.ref (b), .ref (b)], A48)) rfl ?_
    refine rw_gf (v := .int (Int32.ofNat G)) h50 rfl rfl rfl rfl (hG) rfl ?_
    refine wp_st 2 (f' := (24, [some (.ref (b)), some (.int (Int32.ofNat (128 + G)))], [.int ((Int32.ofNat G) + (Int32.ofNat 1)), .ref (b)], A48)) rfl ?_
    rw [i32_add (G) (1)]
    refine rw_pf (v := .int (Int32.ofNat (G + 1))) h50 rfl rfl rfl rfl rfl rfl (fun A53 h54 f55 => ?_)
    have f56 := f52.trans f55
    rw [rf_c_u (by decide)] at h54
    refine wp_st 1 (f' := (28, [some (.ref (b)), some (.int (Int32.ofNat (128 + G)))], [.ref (b)], A53)) rfl ?_
    refine rw_gr h54 rfl rfl rfl rfl rfl rfl ?_
    refine wp_st 2 (f' := (33, [some (.ref (b)), some (.int (Int32.ofNat (128 + G)))], [.ref (b), .int (Int32.ofNat (128 + G)), .ref (b + 27)], A53)) rfl ?_
    refine rw_gf (v := .long (Int64.ofNat v10)) h54 rfl rfl rfl rfl (rfl) rfl ?_
    refine wp_st 1 (f' := (37, [some (.ref (b)), some (.int (Int32.ofNat (128 + G)))], [.int ((Int64.ofNat v10).toInt32), .int (Int32.ofNat (128 + G)), .ref (b + 27)], A53)) rfl ?_
    rw [i64_i32 (a := v10)]
    refine rw_as (j := 38) (n := 128 + G) (v := .int (Int32.ofNat v10)) h54 rfl rfl rfl (Or.inl ⟨rfl, rfl, rfl⟩) (show _ < 192 from by omega) rfl rfl (fun A57 h58 f59 => ?_)
    have f60 := f56.trans f59
    rw [rf_c_u (by decide)] at h58
    refine wp_st 1 (f' := (39, [some (.ref (b)), some (.int (Int32.ofNat (128 + G)))], [.ref (b)], A57)) rfl ?_
    refine rw_gr h58 rfl rfl rfl rfl rfl rfl ?_
    refine wp_st 2 (f' := (44, [some (.ref (b)), some (.int (Int32.ofNat (128 + G)))], [.ref (b), .int (Int32.ofNat (128 + G)), .ref (b + 28)], A57)) rfl ?_
    refine rw_gf (v := .long (Int64.ofNat v10)) h58 rfl rfl rfl rfl (rfl) rfl ?_
    refine wp_st 1 (f' := (48, [some (.ref (b)), some (.int (Int32.ofNat (128 + G)))], [.int ((Int64.ofNat v10).toInt32), .int (Int32.ofNat (128 + G)), .ref (b + 28)], A57)) rfl ?_
    rw [i64_i32 (a := v10)]
    refine rw_as (j := 39) (n := 128 + G) (v := .int (Int32.ofNat v10)) h58 rfl rfl rfl (Or.inl ⟨rfl, rfl, rfl⟩) (show _ < 192 from by omega) rfl rfl (fun A61 h62 f63 => ?_)
    have f64 := f60.trans f63
    rw [rf_c_u (by decide)] at h62
    refine wp_st 1 (f' := (50, [some (.ref (b)), some (.int (Int32.ofNat (128 + G)))], [.ref (b)], A61)) rfl ?_
    have k65 := rd_sk_gt (cs := cs) (n := n) (a := x9)
    obtain ⟨A66, g67, h68, f69⟩ := (show rf_go (d - 1) 129 [.ref b] A61 b none (rf_c (rf_u (rf_u (rf_u s 41 0 (.int (Int32.ofNat (G + 1)))) 38 (128 + G) (.int (Int32.ofNat v10))) 39 (128 + G) (.int (Int32.ofNat v10))) (rd_sk cs n x9) (-1) (Int64.ofNat v10) (rd_sk cs n p)) from rr_spaces (d := d - 1) (by omega) (by omega) (show rf_tx (rf_u (rf_u (rf_u s 41 0 (.int (Int32.ofNat (G + 1)))) 38 (128 + G) (.int (Int32.ofNat v10))) 39 (128 + G) (.int (Int32.ofNat v10))) cs n from hx) h62)
    have f70 := f64.trans f69
    refine wp_cv (A' := A66) (v := none) rfl rfl rfl rfl rfl (show _ from h62.1) (by omega) (g67) rfl ?_
    show am_wp d 153 (53, [some (.ref (b)), some (.int (Int32.ofNat (128 + G)))], [], A66) _
    refine wp_st 2 (f' := (55, [some (.ref (b)), some (.int (Int32.ofNat (128 + G)))], [.ref (b), .ref (b)], A66)) rfl ?_
    refine rw_gf (v := .int (Int32.ofNat (rd_sk cs n x9))) h68 rfl rfl rfl rfl (rfl) rfl ?_
    have l71 := hlk (rd_sk cs n x9)
    refine wp_cv (A' := A66) (v := some (.int (Int32.ofNat (sb_lk cs n (rd_sk cs n x9))))) rfl rfl rfl rfl rfl (show _ from h68.1) (by omega) (rr_look (by omega) (show rf_tx (rf_u (rf_u (rf_u s 41 0 (.int (Int32.ofNat (G + 1)))) 38 (128 + G) (.int (Int32.ofNat v10))) 39 (128 + G) (.int (Int32.ofNat v10))) cs n from hx) h68) rfl ?_
    show am_wp d 153 (61, [some (.ref (b)), some (.int (Int32.ofNat (128 + G)))], [.int (Int32.ofNat (sb_lk cs n (rd_sk cs n x9)))], A66) _
    refine wp_st 1 (f' := (63, [some (.ref (b)), some (.int (Int32.ofNat (128 + G)))], [.int (Int32.ofNat 46), .int (Int32.ofNat (sb_lk cs n (rd_sk cs n x9)))], A66)) rfl ?_
    refine wp_if rfl (show am_tgt 63 (82) = 145 by decide +kernel) rfl (fun (h72 : (Int32.ofNat (sb_lk cs n (rd_sk cs n x9))) ≠ (Int32.ofNat 46)) => ?_) (fun (h72 : ¬ ((Int32.ofNat (sb_lk cs n (rd_sk cs n x9))) ≠ (Int32.ofNat 46))) => ?_)
    · skip
      rw [ne_eq, i32_eq (by omega) (by omega)] at h72
      refine wp_st 1 (f' := (146, [some (.ref (b)), some (.int (Int32.ofNat (128 + G)))], [.ref (b)], A66)) rfl ?_
      have k73 := rd_sk_gt (cs := cs) (n := n) (a := rd_sk cs n x9)
      obtain ⟨A74, g75, h76, f77⟩ := (show rf_go (d - 1) 129 [.ref b] A66 b none (rf_c (rf_u (rf_u (rf_u s 41 0 (.int (Int32.ofNat (G + 1)))) 38 (128 + G) (.int (Int32.ofNat v10))) 39 (128 + G) (.int (Int32.ofNat v10))) (rd_sk cs n (rd_sk cs n x9)) (-1) (Int64.ofNat v10) (rd_sk cs n p)) from rr_spaces (d := d - 1) (by omega) (by omega) (show rf_tx (rf_u (rf_u (rf_u s 41 0 (.int (Int32.ofNat (G + 1)))) 38 (128 + G) (.int (Int32.ofNat v10))) 39 (128 + G) (.int (Int32.ofNat v10))) cs n from hx) h68)
      have f78 := f70.trans f77
      refine wp_cv (A' := A74) (v := none) rfl rfl rfl rfl rfl (show _ from h68.1) (by omega) (g75) rfl ?_
      show am_wp d 153 (149, [some (.ref (b)), some (.int (Int32.ofNat (128 + G)))], [], A74) _
      refine wp_rt rfl rfl rfl ?_
      have hres : ru_rg cs n p = .ok (rd_sk cs n (rd_sk cs n x9), v10, v10) := by simp [ru_rg, rd_sk_sk, u7, h72]
      rw [hres]
      exact rq_Rg_ok h76 ⟨⟨by simp only [rf_u_if]; simp, fun j i q1 q2 q3 => by simp only [rf_u_if]; repeat (rw [if_neg (by omega)])⟩, by simp only [rf_u_if]; simp, by simp only [rf_u_if]; simp⟩ f78
    · skip
      rw [ne_eq, i32_eq (by omega) (by omega)] at h72
      replace h72 := Decidable.not_not.mp h72
      refine wp_st 1 (f' := (67, [some (.ref (b)), some (.int (Int32.ofNat (128 + G)))], [.ref (b)], A66)) rfl ?_
      refine rw_gf (v := .int ((-1))) h68 rfl rfl rfl rfl (rfl) rfl ?_
      refine wp_izF rfl rfl (show ¬ ((Int32.ofNat 0) ≤ (-1 : Int32)) from by decide) ?_
      refine wp_st 2 (f' := (75, [some (.ref (b)), some (.int (Int32.ofNat (128 + G)))], [.ref (b), .ref (b)], A66)) rfl ?_
      refine rw_gf (v := .int (Int32.ofNat (rd_sk cs n x9))) h68 rfl rfl rfl rfl (rfl) rfl ?_
      refine wp_st 2 (f' := (80, [some (.ref (b)), some (.int (Int32.ofNat (128 + G)))], [.int ((Int32.ofNat (rd_sk cs n x9)) + (Int32.ofNat 1)), .ref (b)], A66)) rfl ?_
      rw [i32_add (rd_sk cs n x9) (1)]
      refine rw_pf (v := .int (Int32.ofNat (rd_sk cs n x9 + 1))) h68 rfl rfl rfl rfl rfl rfl (fun A79 h80 f81 => ?_)
      have f82 := f70.trans f81
      rw [rf_c17] at h80
      refine wp_st 2 (f' := (86, [some (.ref (b)), some (.int (Int32.ofNat (128 + G)))], [.int (Int32.ofNat 46), .ref (b)], A79)) rfl ?_
      by_cases c83 : sb_lk cs n (rd_sk cs n x9 + 1) = 46
      · skip
        have c83p : rd_sk cs n x9 + 1 < n := sb_lk_pos (cs := cs) (by omega)
        obtain ⟨A84, g85, h86, f87⟩ := (show rf_go _ _ _ _ _ _ (rf_c (rf_u (rf_u (rf_u s 41 0 (.int (Int32.ofNat (G + 1)))) 38 (128 + G) (.int (Int32.ofNat v10))) 39 (128 + G) (.int (Int32.ofNat v10))) (rd_sk cs n x9 + 1 + 1) (-1) (Int64.ofNat v10) (rd_sk cs n p)) from by have e := rr_need (d := d - 1) (c := 46) (by omega) (by omega) (by omega) (show rf_tx (rf_u (rf_u (rf_u s 41 0 (.int (Int32.ofNat (G + 1)))) 38 (128 + G) (.int (Int32.ofNat v10))) 39 (128 + G) (.int (Int32.ofNat v10))) cs n from hx) h80; rw [if_pos c83] at e; exact e)
        have f88 := f82.trans f87
        refine wp_cv (A' := A84) (v := none) rfl rfl rfl rfl rfl (show _ from h80.1) (by omega) (g85) rfl ?_
        show am_wp d 153 (89, [some (.ref (b)), some (.int (Int32.ofNat (128 + G)))], [], A84) _
        refine wp_st 1 (f' := (90, [some (.ref (b)), some (.int (Int32.ofNat (128 + G)))], [.ref (b)], A84)) rfl ?_
        have k89 := rd_sk_gt (cs := cs) (n := n) (a := rd_sk cs n x9 + 1 + 1)
        obtain ⟨A90, g91, h92, f93⟩ := (show rf_go (d - 1) 129 [.ref b] A84 b none (rf_c (rf_u (rf_u (rf_u s 41 0 (.int (Int32.ofNat (G + 1)))) 38 (128 + G) (.int (Int32.ofNat v10))) 39 (128 + G) (.int (Int32.ofNat v10))) (rd_sk cs n (rd_sk cs n x9 + 1 + 1)) (-1) (Int64.ofNat v10) (rd_sk cs n p)) from rr_spaces (d := d - 1) (by omega) (by omega) (show rf_tx (rf_u (rf_u (rf_u s 41 0 (.int (Int32.ofNat (G + 1)))) 38 (128 + G) (.int (Int32.ofNat v10))) 39 (128 + G) (.int (Int32.ofNat v10))) cs n from hx) h86)
        have f94 := f88.trans f93
        refine wp_cv (A' := A90) (v := none) rfl rfl rfl rfl rfl (show _ from h86.1) (by omega) (g91) rfl ?_
        show am_wp d 153 (93, [some (.ref (b)), some (.int (Int32.ofNat (128 + G)))], [], A90) _
        refine wp_st 1 (f' := (94, [some (.ref (b)), some (.int (Int32.ofNat (128 + G)))], [.ref (b)], A90)) rfl ?_
        refine rw_gf (v := .int ((-1))) h92 rfl rfl rfl rfl (rfl) rfl ?_
        refine wp_izF rfl rfl (show ¬ ((Int32.ofNat 0) ≤ (-1 : Int32)) from by decide) ?_
        refine wp_st 1 (f' := (101, [some (.ref (b)), some (.int (Int32.ofNat (128 + G)))], [.ref (b)], A90)) rfl ?_
        rcases u95 : rd_num cs n 4 (rd_sk cs n (rd_sk cs n x9 + 1 + 1)) with e96 | ⟨x97, v98⟩
        · skip
          have u95l := rd_num_er (by omega) u95
          have u95k := sb_re_le (lo := 48) (hi := 57) (cs := cs) (n := n) (a := rd_sk cs n (rd_sk cs n x9 + 1 + 1))
          have u95j := u95k.2.1 (by omega)
          obtain ⟨A99, g100, h101, f102⟩ := (show rf_go _ _ _ _ _ _ (rf_c (rf_u (rf_u (rf_u s 41 0 (.int (Int32.ofNat (G + 1)))) 38 (128 + G) (.int (Int32.ofNat v10))) 39 (128 + G) (.int (Int32.ofNat v10))) (sb_re 48 57 cs n (rd_sk cs n (rd_sk cs n x9 + 1 + 1))) (Int32.ofNat e96) (rf_nr cs (rd_sk cs n (rd_sk cs n x9 + 1 + 1)) (sb_re 48 57 cs n (rd_sk cs n (rd_sk cs n x9 + 1 + 1)) - (rd_sk cs n (rd_sk cs n x9 + 1 + 1)))) (rd_sk cs n (rd_sk cs n x9 + 1 + 1))) from by have q := rr_dig (d := d - 1) (by omega) (by omega) (show rf_tx (rf_u (rf_u (rf_u s 41 0 (.int (Int32.ofNat (G + 1)))) 38 (128 + G) (.int (Int32.ofNat v10))) 39 (128 + G) (.int (Int32.ofNat v10))) cs n from hx) h92; rw [rf_dig_er u95] at q; exact q)
          have f103 := f94.trans f102
          refine wp_cv (A' := A99) (v := none) rfl rfl rfl rfl rfl (show _ from h92.1) (by omega) (g100) rfl ?_
          show am_wp d 153 (104, [some (.ref (b)), some (.int (Int32.ofNat (128 + G)))], [], A99) _
          refine wp_st 1 (f' := (105, [some (.ref (b)), some (.int (Int32.ofNat (128 + G)))], [.ref (b)], A99)) rfl ?_
          refine rw_gr h101 rfl rfl rfl rfl rfl rfl ?_
          refine wp_st 2 (f' := (110, [some (.ref (b)), some (.int (Int32.ofNat (128 + G)))], [.ref (b), .int (Int32.ofNat (128 + G)), .ref (b + 28)], A99)) rfl ?_
          refine rw_gf (v := .long (rf_nr cs (rd_sk cs n (rd_sk cs n x9 + 1 + 1)) (sb_re 48 57 cs n (rd_sk cs n (rd_sk cs n x9 + 1 + 1)) - (rd_sk cs n (rd_sk cs n x9 + 1 + 1))))) h101 rfl rfl rfl rfl (rfl) rfl ?_
          refine wp_st 1 (f' := (114, [some (.ref (b)), some (.int (Int32.ofNat (128 + G)))], [.int ((rf_nr cs (rd_sk cs n (rd_sk cs n x9 + 1 + 1)) (sb_re 48 57 cs n (rd_sk cs n (rd_sk cs n x9 + 1 + 1)) - (rd_sk cs n (rd_sk cs n x9 + 1 + 1)))).toInt32), .int (Int32.ofNat (128 + G)), .ref (b + 28)], A99)) rfl ?_
          refine rw_as (j := 39) (n := 128 + G) (v := .int ((rf_nr cs (rd_sk cs n (rd_sk cs n x9 + 1 + 1)) (sb_re 48 57 cs n (rd_sk cs n (rd_sk cs n x9 + 1 + 1)) - (rd_sk cs n (rd_sk cs n x9 + 1 + 1)))).toInt32)) h101 rfl rfl rfl (Or.inl ⟨rfl, rfl, rfl⟩) (show _ < 192 from by omega) rfl rfl (fun A104 h105 f106 => ?_)
          have f107 := f103.trans f106
          rw [rf_c_u (by decide)] at h105
          refine wp_st 1 (f' := (116, [some (.ref (b)), some (.int (Int32.ofNat (128 + G)))], [.ref (b)], A104)) rfl ?_
          refine rw_gf (v := .int (Int32.ofNat e96)) h105 rfl rfl rfl rfl (rfl) rfl ?_
          refine wp_izT rfl rfl (show Int32.ofNat 0 ≤ (Int32.ofNat e96) from Int32.not_lt.mp (Int32.ofNat_not_neg (by omega))) ?_
          refine wp_st 1 (f' := (146, [some (.ref (b)), some (.int (Int32.ofNat (128 + G)))], [.ref (b)], A104)) rfl ?_
          have k108 := rd_sk_gt (cs := cs) (n := n) (a := sb_re 48 57 cs n (rd_sk cs n (rd_sk cs n x9 + 1 + 1)))
          obtain ⟨A109, g110, h111, f112⟩ := (show rf_go (d - 1) 129 [.ref b] A104 b none (rf_c (rf_u (rf_u (rf_u (rf_u s 41 0 (.int (Int32.ofNat (G + 1)))) 38 (128 + G) (.int (Int32.ofNat v10))) 39 (128 + G) (.int (Int32.ofNat v10))) 39 (128 + G) (.int ((rf_nr cs (rd_sk cs n (rd_sk cs n x9 + 1 + 1)) (sb_re 48 57 cs n (rd_sk cs n (rd_sk cs n x9 + 1 + 1)) - (rd_sk cs n (rd_sk cs n x9 + 1 + 1)))).toInt32))) (rd_sk cs n (sb_re 48 57 cs n (rd_sk cs n (rd_sk cs n x9 + 1 + 1)))) (Int32.ofNat e96) (rf_nr cs (rd_sk cs n (rd_sk cs n x9 + 1 + 1)) (sb_re 48 57 cs n (rd_sk cs n (rd_sk cs n x9 + 1 + 1)) - (rd_sk cs n (rd_sk cs n x9 + 1 + 1)))) (rd_sk cs n (rd_sk cs n x9 + 1 + 1))) from rr_spaces (d := d - 1) (by omega) (by omega) (show rf_tx (rf_u (rf_u (rf_u (rf_u s 41 0 (.int (Int32.ofNat (G + 1)))) 38 (128 + G) (.int (Int32.ofNat v10))) 39 (128 + G) (.int (Int32.ofNat v10))) 39 (128 + G) (.int ((rf_nr cs (rd_sk cs n (rd_sk cs n x9 + 1 + 1)) (sb_re 48 57 cs n (rd_sk cs n (rd_sk cs n x9 + 1 + 1)) - (rd_sk cs n (rd_sk cs n x9 + 1 + 1)))).toInt32))) cs n from hx) h105)
          have f113 := f107.trans f112
          refine wp_cv (A' := A109) (v := none) rfl rfl rfl rfl rfl (show _ from h105.1) (by omega) (g110) rfl ?_
          show am_wp d 153 (149, [some (.ref (b)), some (.int (Int32.ofNat (128 + G)))], [], A109) _
          refine wp_rt rfl rfl rfl ?_
          have hres : ru_rg cs n p = .error (e96) := by simp [ru_rg, u7, h72, c83, u95]
          rw [hres]
          exact rq_Rg_er h111 ⟨by simp only [rf_u_if]; simp, fun j i q1 q2 q3 => by simp only [rf_u_if]; repeat (rw [if_neg (by omega)])⟩ (by omega) f113
        · skip
          have u95l := rd_num_le (by omega) u95
          have u95v := rd_num_v (by omega) (by omega) u95
          obtain ⟨u951, u952, u953⟩ := rf_dig_ok (by omega) u95
          obtain ⟨A114, g115, h116, f117⟩ := (show rf_go _ _ _ _ _ _ (rf_c (rf_u (rf_u (rf_u s 41 0 (.int (Int32.ofNat (G + 1)))) 38 (128 + G) (.int (Int32.ofNat v10))) 39 (128 + G) (.int (Int32.ofNat v10))) x97 (-1) (Int64.ofNat v98) (rd_sk cs n (rd_sk cs n x9 + 1 + 1))) from by have q := rr_dig (d := d - 1) (by omega) (by omega) (show rf_tx (rf_u (rf_u (rf_u s 41 0 (.int (Int32.ofNat (G + 1)))) 38 (128 + G) (.int (Int32.ofNat v10))) 39 (128 + G) (.int (Int32.ofNat v10))) cs n from hx) h92; rw [u952, u953, u951] at q; exact q)
          have f118 := f94.trans f117
          refine wp_cv (A' := A114) (v := none) rfl rfl rfl rfl rfl (show _ from h92.1) (by omega) (g115) rfl ?_
          show am_wp d 153 (104, [some (.ref (b)), some (.int (Int32.ofNat (128 + G)))], [], A114) _
          refine wp_st 1 (f' := (105, [some (.ref (b)), some (.int (Int32.ofNat (128 + G)))], [.ref (b)], A114)) rfl ?_
          refine rw_gr h116 rfl rfl rfl rfl rfl rfl ?_
          refine wp_st 2 (f' := (110, [some (.ref (b)), some (.int (Int32.ofNat (128 + G)))], [.ref (b), .int (Int32.ofNat (128 + G)), .ref (b + 28)], A114)) rfl ?_
          refine rw_gf (v := .long (Int64.ofNat v98)) h116 rfl rfl rfl rfl (rfl) rfl ?_
          refine wp_st 1 (f' := (114, [some (.ref (b)), some (.int (Int32.ofNat (128 + G)))], [.int ((Int64.ofNat v98).toInt32), .int (Int32.ofNat (128 + G)), .ref (b + 28)], A114)) rfl ?_
          rw [i64_i32 (a := v98)]
          refine rw_as (j := 39) (n := 128 + G) (v := .int (Int32.ofNat v98)) h116 rfl rfl rfl (Or.inl ⟨rfl, rfl, rfl⟩) (show _ < 192 from by omega) rfl rfl (fun A119 h120 f121 => ?_)
          have f122 := f118.trans f121
          rw [rf_c_u (by decide)] at h120
          refine wp_st 1 (f' := (116, [some (.ref (b)), some (.int (Int32.ofNat (128 + G)))], [.ref (b)], A119)) rfl ?_
          refine rw_gf (v := .int ((-1))) h120 rfl rfl rfl rfl (rfl) rfl ?_
          refine wp_izF rfl rfl (show ¬ ((Int32.ofNat 0) ≤ (-1 : Int32)) from by decide) ?_
          refine wp_st 1 (f' := (123, [some (.ref (b)), some (.int (Int32.ofNat (128 + G)))], [.ref (b)], A119)) rfl ?_
          refine rw_gr h120 rfl rfl rfl rfl rfl rfl ?_
          refine wp_st 1 (f' := (127, [some (.ref (b)), some (.int (Int32.ofNat (128 + G)))], [.int (Int32.ofNat (128 + G)), .ref (b + 28)], A119)) rfl ?_
          refine rw_al (j := 39) (n := 128 + G) (v := .int (Int32.ofNat v98)) h120 rfl rfl rfl (Or.inl ⟨rfl, rfl⟩) rfl (show _ < 192 from by omega) (by simp only [rf_c_ne (show 39 ≠ 17 ∧ 39 ≠ 18 ∧ 39 ≠ 28 ∧ 39 ≠ 29 by decide), rf_u_if]; simp) rfl ?_
          refine wp_st 1 (f' := (129, [some (.ref (b)), some (.int (Int32.ofNat (128 + G)))], [.ref (b), .int (Int32.ofNat v98)], A119)) rfl ?_
          refine rw_gr h120 rfl rfl rfl rfl rfl rfl ?_
          refine wp_st 1 (f' := (133, [some (.ref (b)), some (.int (Int32.ofNat (128 + G)))], [.int (Int32.ofNat (128 + G)), .ref (b + 27), .int (Int32.ofNat v98)], A119)) rfl ?_
          refine rw_al (j := 38) (n := 128 + G) (v := .int (Int32.ofNat v10)) h120 rfl rfl rfl (Or.inl ⟨rfl, rfl⟩) rfl (show _ < 192 from by omega) (by simp only [rf_c_ne (show 38 ≠ 17 ∧ 38 ≠ 18 ∧ 38 ≠ 28 ∧ 38 ≠ 29 by decide), rf_u_if]; simp) rfl ?_
          refine wp_if rfl rfl rfl (fun (h123 : (Int32.ofNat v10) ≤ (Int32.ofNat v98)) => ?_) (fun (h123 : ¬ ((Int32.ofNat v10) ≤ (Int32.ofNat v98))) => ?_)
          · skip
            rw [i32_le (by omega) (by omega)] at h123
            have h123n : ¬ v98 < v10 := by omega
            refine wp_st 1 (f' := (146, [some (.ref (b)), some (.int (Int32.ofNat (128 + G)))], [.ref (b)], A119)) rfl ?_
            have k124 := rd_sk_gt (cs := cs) (n := n) (a := x97)
            obtain ⟨A125, g126, h127, f128⟩ := (show rf_go (d - 1) 129 [.ref b] A119 b none (rf_c (rf_u (rf_u (rf_u (rf_u s 41 0 (.int (Int32.ofNat (G + 1)))) 38 (128 + G) (.int (Int32.ofNat v10))) 39 (128 + G) (.int (Int32.ofNat v10))) 39 (128 + G) (.int (Int32.ofNat v98))) (rd_sk cs n x97) (-1) (Int64.ofNat v98) (rd_sk cs n (rd_sk cs n x9 + 1 + 1))) from rr_spaces (d := d - 1) (by omega) (by omega) (show rf_tx (rf_u (rf_u (rf_u (rf_u s 41 0 (.int (Int32.ofNat (G + 1)))) 38 (128 + G) (.int (Int32.ofNat v10))) 39 (128 + G) (.int (Int32.ofNat v10))) 39 (128 + G) (.int (Int32.ofNat v98))) cs n from hx) h120)
            have f129 := f122.trans f128
            refine wp_cv (A' := A125) (v := none) rfl rfl rfl rfl rfl (show _ from h120.1) (by omega) (g126) rfl ?_
            show am_wp d 153 (149, [some (.ref (b)), some (.int (Int32.ofNat (128 + G)))], [], A125) _
            refine wp_rt rfl rfl rfl ?_
            have hres : ru_rg cs n p = .ok (rd_sk cs n x97, v10, v98) := by simp [ru_rg, rd_sk_sk, u7, h72, c83, u95, h123n]
            rw [hres]
            exact rq_Rg_ok h127 ⟨⟨by simp only [rf_u_if]; simp, fun j i q1 q2 q3 => by simp only [rf_u_if]; repeat (rw [if_neg (by omega)])⟩, by simp only [rf_u_if]; simp, by simp only [rf_u_if]; simp⟩ f129
          · skip
            rw [i32_le (by omega) (by omega)] at h123
            have h123n : v98 < v10 := by omega
            refine wp_st 2 (f' := (139, [some (.ref (b)), some (.int (Int32.ofNat (128 + G)))], [.ref (b), .ref (b)], A119)) rfl ?_
            refine rw_gf (v := .int (Int32.ofNat (rd_sk cs n (rd_sk cs n x9 + 1 + 1)))) h120 rfl rfl rfl rfl (rfl) rfl ?_
            obtain ⟨A130, g131, h132, f133⟩ := (show rf_go _ _ _ _ _ _ (rf_c (rf_u (rf_u (rf_u (rf_u s 41 0 (.int (Int32.ofNat (G + 1)))) 38 (128 + G) (.int (Int32.ofNat v10))) 39 (128 + G) (.int (Int32.ofNat v10))) 39 (128 + G) (.int (Int32.ofNat v98))) x97 (Int32.ofNat (rd_sk cs n (rd_sk cs n x9 + 1 + 1))) (Int64.ofNat v98) (rd_sk cs n (rd_sk cs n x9 + 1 + 1))) from by have e := rr_fail (d := d - 1) (x := rd_sk cs n (rd_sk cs n x9 + 1 + 1)) h120; rw [rf_w_m] at e; exact e)
            have f134 := f122.trans f133
            refine wp_cv (A' := A130) (v := none) rfl rfl rfl rfl rfl (show _ from h120.1) (by omega) (g131) rfl ?_
            show am_wp d 153 (145, [some (.ref (b)), some (.int (Int32.ofNat (128 + G)))], [], A130) _
            refine wp_st 1 (f' := (146, [some (.ref (b)), some (.int (Int32.ofNat (128 + G)))], [.ref (b)], A130)) rfl ?_
            have k135 := rd_sk_gt (cs := cs) (n := n) (a := x97)
            obtain ⟨A136, g137, h138, f139⟩ := (show rf_go (d - 1) 129 [.ref b] A130 b none (rf_c (rf_u (rf_u (rf_u (rf_u s 41 0 (.int (Int32.ofNat (G + 1)))) 38 (128 + G) (.int (Int32.ofNat v10))) 39 (128 + G) (.int (Int32.ofNat v10))) 39 (128 + G) (.int (Int32.ofNat v98))) (rd_sk cs n x97) (Int32.ofNat (rd_sk cs n (rd_sk cs n x9 + 1 + 1))) (Int64.ofNat v98) (rd_sk cs n (rd_sk cs n x9 + 1 + 1))) from rr_spaces (d := d - 1) (by omega) (by omega) (show rf_tx (rf_u (rf_u (rf_u (rf_u s 41 0 (.int (Int32.ofNat (G + 1)))) 38 (128 + G) (.int (Int32.ofNat v10))) 39 (128 + G) (.int (Int32.ofNat v10))) 39 (128 + G) (.int (Int32.ofNat v98))) cs n from hx) h132)
            have f140 := f134.trans f139
            refine wp_cv (A' := A136) (v := none) rfl rfl rfl rfl rfl (show _ from h132.1) (by omega) (g137) rfl ?_
            show am_wp d 153 (149, [some (.ref (b)), some (.int (Int32.ofNat (128 + G)))], [], A136) _
            refine wp_rt rfl rfl rfl ?_
            have hres : ru_rg cs n p = .error (rd_sk cs n (rd_sk cs n x9 + 1 + 1)) := by simp [ru_rg, u7, h72, c83, u95, h123n]
            rw [hres]
            exact rq_Rg_er h138 ⟨by simp only [rf_u_if]; simp, fun j i q1 q2 q3 => by simp only [rf_u_if]; repeat (rw [if_neg (by omega)])⟩ (by omega) f140
      · skip
        obtain ⟨A141, g142, h143, f144⟩ := (show rf_go _ _ _ _ _ _ (rf_c (rf_u (rf_u (rf_u s 41 0 (.int (Int32.ofNat (G + 1)))) 38 (128 + G) (.int (Int32.ofNat v10))) 39 (128 + G) (.int (Int32.ofNat v10))) (rd_sk cs n x9 + 1 + 1) (Int32.ofNat (rd_sk cs n x9 + 1)) (Int64.ofNat v10) (rd_sk cs n p)) from by have e := rr_need (d := d - 1) (c := 46) (by omega) (by omega) (by omega) (show rf_tx (rf_u (rf_u (rf_u s 41 0 (.int (Int32.ofNat (G + 1)))) 38 (128 + G) (.int (Int32.ofNat v10))) 39 (128 + G) (.int (Int32.ofNat v10))) cs n from hx) h80; rw [if_neg c83, rf_w_m] at e; exact e)
        have f145 := f82.trans f144
        refine wp_cv (A' := A141) (v := none) rfl rfl rfl rfl rfl (show _ from h80.1) (by omega) (g142) rfl ?_
        show am_wp d 153 (89, [some (.ref (b)), some (.int (Int32.ofNat (128 + G)))], [], A141) _
        refine wp_st 1 (f' := (90, [some (.ref (b)), some (.int (Int32.ofNat (128 + G)))], [.ref (b)], A141)) rfl ?_
        have k146 := rd_sk_gt (cs := cs) (n := n) (a := rd_sk cs n x9 + 1 + 1)
        obtain ⟨A147, g148, h149, f150⟩ := (show rf_go (d - 1) 129 [.ref b] A141 b none (rf_c (rf_u (rf_u (rf_u s 41 0 (.int (Int32.ofNat (G + 1)))) 38 (128 + G) (.int (Int32.ofNat v10))) 39 (128 + G) (.int (Int32.ofNat v10))) (rd_sk cs n (rd_sk cs n x9 + 1 + 1)) (Int32.ofNat (rd_sk cs n x9 + 1)) (Int64.ofNat v10) (rd_sk cs n p)) from rr_spaces (d := d - 1) (by omega) (by omega) (show rf_tx (rf_u (rf_u (rf_u s 41 0 (.int (Int32.ofNat (G + 1)))) 38 (128 + G) (.int (Int32.ofNat v10))) 39 (128 + G) (.int (Int32.ofNat v10))) cs n from hx) h143)
        have f151 := f145.trans f150
        refine wp_cv (A' := A147) (v := none) rfl rfl rfl rfl rfl (show _ from h143.1) (by omega) (g148) rfl ?_
        show am_wp d 153 (93, [some (.ref (b)), some (.int (Int32.ofNat (128 + G)))], [], A147) _
        refine wp_st 1 (f' := (94, [some (.ref (b)), some (.int (Int32.ofNat (128 + G)))], [.ref (b)], A147)) rfl ?_
        refine rw_gf (v := .int (Int32.ofNat (rd_sk cs n x9 + 1))) h149 rfl rfl rfl rfl (rfl) rfl ?_
        refine wp_izT rfl rfl (show Int32.ofNat 0 ≤ (Int32.ofNat (rd_sk cs n x9 + 1)) from Int32.not_lt.mp (Int32.ofNat_not_neg (by omega))) ?_
        refine wp_st 1 (f' := (146, [some (.ref (b)), some (.int (Int32.ofNat (128 + G)))], [.ref (b)], A147)) rfl ?_
        have k152 := rd_sk_gt (cs := cs) (n := n) (a := rd_sk cs n (rd_sk cs n x9 + 1 + 1))
        obtain ⟨A153, g154, h155, f156⟩ := (show rf_go (d - 1) 129 [.ref b] A147 b none (rf_c (rf_u (rf_u (rf_u s 41 0 (.int (Int32.ofNat (G + 1)))) 38 (128 + G) (.int (Int32.ofNat v10))) 39 (128 + G) (.int (Int32.ofNat v10))) (rd_sk cs n (rd_sk cs n (rd_sk cs n x9 + 1 + 1))) (Int32.ofNat (rd_sk cs n x9 + 1)) (Int64.ofNat v10) (rd_sk cs n p)) from rr_spaces (d := d - 1) (by omega) (by omega) (show rf_tx (rf_u (rf_u (rf_u s 41 0 (.int (Int32.ofNat (G + 1)))) 38 (128 + G) (.int (Int32.ofNat v10))) 39 (128 + G) (.int (Int32.ofNat v10))) cs n from hx) h149)
        have f157 := f151.trans f156
        refine wp_cv (A' := A153) (v := none) rfl rfl rfl rfl rfl (show _ from h149.1) (by omega) (g154) rfl ?_
        show am_wp d 153 (149, [some (.ref (b)), some (.int (Int32.ofNat (128 + G)))], [], A153) _
        refine wp_rt rfl rfl rfl ?_
        have hres : ru_rg cs n p = .error (rd_sk cs n x9 + 1) := by simp [ru_rg, u7, h72, c83]
        rw [hres]
        exact rq_Rg_er h155 ⟨by simp only [rf_u_if]; simp, fun j i q1 q2 q3 => by simp only [rf_u_if]; repeat (rw [if_neg (by omega)])⟩ (by omega) f157
