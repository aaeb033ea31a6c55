/-! The reference: branchOrEnd, whole. -/
theorem rm_lk_new {w : Nat → Nat} {i B ci : Nat} : ¬ rm_lk (mg_bl w i B) ci 16 (128 + B) := by
  intro z
  unfold rm_lk at z
  split at z
  · omega
  · next l hbl =>
    have := mg_bl_in hbl
    omega
theorem mb_Q.tr {A A1 : am_H} {s s1 : rf_S} {b n : Nat} {M : mg} {L : Nat} {E dp : Nat → Nat} {lp : Nat → Option Nat} {ob : Nat → Nat} {x : Except Nat ((Nat × mg) ⊕ (Nat × mg))} {q : am_O × am_H} (h2 : rm_X s s1) (h3 : sb_fr A A1 b (b + 38)) (h : mb_Q A1 s1 b n M L E dp lp ob x q) : mb_Q A s b n M L E dp lp ob x q := by
  rcases x with e | y | y
  · exact ⟨h.1, h.2.tr h2 h3⟩
  · obtain ⟨z, t, r, g, a1, a2, a3, a4, a5⟩ := h
    exact ⟨z, t, r, g, a1, a2, a3, h2.trans a4, h3.trans a5⟩
  · obtain ⟨z, t, r, g, a1, a2, a3, a4, a5⟩ := h
    exact ⟨z, t, r, g, a1, a2, a3, h2.trans a4, h3.trans a5⟩
theorem mb_bo {d b n a g L i : Nat} {r : Int64} {cs : List Nat} {M : mg} {E dp ob : Nat → Nat} {lp : Nat → Option Nat} {s : rf_S} {A : am_H} (hd : 4 ≤ d) (ha : a ≤ n) (hB3 : 3 * mg_B M ≤ a) (hA : 3 * mg_ct (mg_k M) (mg_P M) ≤ a) (hl : lp L = some i) (h6 : 6 ≤ mg_k M i) (hc128 : ∀ j, cs.getD j 0 < 128) (hx : rf_tx s cs n) (hI : rm_I s M L E dp lp ob true) (h : rf A b (rf_c s a (-1) r g)) : am_wp d 141 (0, am_ent 141 [.ref b, .int (Int32.ofNat (128 + mg_ct (mg_k M) i))], [], A) (mb_Q A s b n M L E dp lp ob (rd_bo cs n L i (decide (mg_k M i ≠ 6)) a M)) := by
  have hn1 := hx.2.2.1
  have hL3 := hI.L3
  have hi := hI.C2 L (Nat.le_refl _) i hl
  have hk8 := (hI.k8 i hi.1).1
  have hB1 := hI.B1
  have hci := mg_ct_lt (k := mg_k M) (i := i) (by omega) (j := mg_P M) hi.1
  have hch0 := (hI.pa i hi.1 (by omega)).2.2.2.2.2
  have hchc : ∀ c, c < mg_B M → mg_w M c = i → rm_b s M 128 c := fun c z1 _ => (hI.bt c z1).1
  have hten := (hI.pa i hi.1 (by omega)).2.2.2.1
  have hlk : ∀ k, sb_lk cs n k < 128 := by
    intro k
    unfold sb_lk
    split
    · have := hx.2.2.2 k (by omega)
      omega
    · omega
  refine wp_st 1 (f' := (1, [some (.ref (b)), some (.int (Int32.ofNat (128 + mg_ct (mg_k M) i))), none], [.ref (b)], A)) rfl ?_
  have k1 := rd_sk_gt (cs := cs) (n := n) (a := a)
  obtain ⟨A2, g3, h4, f5⟩ := (show rf_go (d - 1) 129 [.ref b] A b none (rf_c s (rd_sk cs n a) (-1) r g) from rr_spaces (d := d - 1) (by omega) (by omega) (show rf_tx (s) cs n from hx) h)
  have f6 := (sb_fr.refl A b (b + 38)).trans f5
  refine wp_cv (A' := A2) (v := none) rfl rfl rfl rfl rfl (show _ from h.1) (by omega) (g3) rfl ?_
  show am_wp d 141 (4, [some (.ref (b)), some (.int (Int32.ofNat (128 + mg_ct (mg_k M) i))), none], [], A2) _
  refine wp_st 1 (f' := (5, [some (.ref (b)), some (.int (Int32.ofNat (128 + mg_ct (mg_k M) i))), none], [.ref (b)], A2)) rfl ?_
  refine rw_gf (v := .int ((-1))) h4 rfl rfl rfl rfl (rfl) rfl ?_
  refine wp_izT rfl rfl (show (-1 : Int32) < (Int32.ofNat 0) from by decide) ?_
  refine wp_st 2 (f' := (14, [some (.ref (b)), some (.int (Int32.ofNat (128 + mg_ct (mg_k M) i))), none], [.ref (b), .ref (b)], A2)) rfl ?_
  refine rw_gf (v := .int (Int32.ofNat (rd_sk cs n a))) h4 rfl rfl rfl rfl (rfl) rfl ?_
  have l7 := hlk (rd_sk cs n a)
  refine wp_cv (A' := A2) (v := some (.int (Int32.ofNat (sb_lk cs n (rd_sk cs n a))))) rfl rfl rfl rfl rfl (show _ from h4.1) (by omega) (rr_look (by omega) (show rf_tx (s) cs n from hx) h4) rfl ?_
  show am_wp d 141 (20, [some (.ref (b)), some (.int (Int32.ofNat (128 + mg_ct (mg_k M) i))), none], [.int (Int32.ofNat (sb_lk cs n (rd_sk cs n a)))], A2) _
  refine wp_st 1 (f' := (22, [some (.ref (b)), some (.int (Int32.ofNat (128 + mg_ct (mg_k M) i))), none], [.int (Int32.ofNat 125), .int (Int32.ofNat (sb_lk cs n (rd_sk cs n a)))], A2)) rfl ?_
  refine wp_if rfl rfl rfl (fun (h8 : (Int32.ofNat (sb_lk cs n (rd_sk cs n a))) ≠ (Int32.ofNat 125)) => ?_) (fun (h8 : ¬ ((Int32.ofNat (sb_lk cs n (rd_sk cs n a))) ≠ (Int32.ofNat 125))) => ?_)
  · skip
    rw [ne_eq, i32_eq (by omega) (by omega)] at h8
    refine wp_st 2 (f' := (56, [some (.ref (b)), some (.int (Int32.ofNat (128 + mg_ct (mg_k M) i))), none], [.ref (b), .int (Int32.ofNat 128)], A2)) rfl ?_
    refine rw_gf (v := .int (Int32.ofNat (mg_B M))) h4 rfl rfl rfl rfl (hI.s21) rfl ?_
    refine wp_st 1 (f' := (60, [some (.ref (b)), some (.int (Int32.ofNat (128 + mg_ct (mg_k M) i))), none], [.int ((Int32.ofNat 128) + (Int32.ofNat (mg_B M)))], A2)) rfl ?_
    rw [i32_add (128) (mg_B M)]
    refine wp_st 3 (f' := (63, [some (.ref (b)), some (.int (Int32.ofNat (128 + mg_ct (mg_k M) i))), some (.int (Int32.ofNat (128 + (mg_B M))))], [.ref (b), .ref (b)], A2)) rfl ?_
    refine rw_gf (v := .int (Int32.ofNat (mg_B M))) h4 rfl rfl rfl rfl (hI.s21) rfl ?_
    refine wp_st 2 (f' := (68, [some (.ref (b)), some (.int (Int32.ofNat (128 + mg_ct (mg_k M) i))), some (.int (Int32.ofNat (128 + (mg_B M))))], [.int ((Int32.ofNat (mg_B M)) + (Int32.ofNat 1)), .ref (b)], A2)) rfl ?_
    rw [i32_add (mg_B M) (1)]
    refine rw_pf (v := .int (Int32.ofNat (mg_B M + 1))) h4 rfl rfl rfl rfl rfl rfl (fun A9 h10 f11 => ?_)
    have f12 := f6.trans f11
    rw [rf_c_u (by decide)] at h10
    refine wp_st 1 (f' := (72, [some (.ref (b)), some (.int (Int32.ofNat (128 + mg_ct (mg_k M) i))), some (.int (Int32.ofNat (128 + (mg_B M))))], [.ref (b)], A9)) rfl ?_
    refine rw_gr h10 rfl rfl rfl rfl rfl rfl ?_
    refine wp_st 2 (f' := (77, [some (.ref (b)), some (.int (Int32.ofNat (128 + mg_ct (mg_k M) i))), some (.int (Int32.ofNat (128 + (mg_B M))))], [.ref (b), .int (Int32.ofNat (128 + (mg_B M))), .ref (b + 11)], A9)) rfl ?_
    refine rw_gr h10 rfl rfl rfl rfl rfl rfl ?_
    refine wp_st 1 (f' := (81, [some (.ref (b)), some (.int (Int32.ofNat (128 + mg_ct (mg_k M) i))), some (.int (Int32.ofNat (128 + (mg_B M))))], [.int (Int32.ofNat (128 + mg_ct (mg_k M) i)), .ref (b + 8), .int (Int32.ofNat (128 + (mg_B M))), .ref (b + 11)], A9)) rfl ?_
    rcases Decidable.em (mg_k M i = 6) with hk6 | hk6
    · skip
      refine rw_al (j := 10) (n := 128 + mg_ct (mg_k M) i) (v := .int (Int32.ofNat 6)) h10 rfl rfl rfl (Or.inl ⟨rfl, rfl⟩) rfl (show _ < 192 from by omega) (by rw [rf_c_ne (by decide), rf_u_ne (Or.inl (by decide))]; exact hten.trans (by rw [hk6]; rfl)) rfl ?_
      refine wp_st 1 (f' := (84, [some (.ref (b)), some (.int (Int32.ofNat (128 + mg_ct (mg_k M) i))), some (.int (Int32.ofNat (128 + (mg_B M))))], [.int (Int32.ofNat 6), .int (Int32.ofNat 6), .int (Int32.ofNat (128 + (mg_B M))), .ref (b + 11)], A9)) rfl ?_
      refine wp_ifT rfl rfl (show (Int32.ofNat 6) = (Int32.ofNat 6) from by decide) ?_
      refine wp_st 1 (f' := (105, [some (.ref (b)), some (.int (Int32.ofNat (128 + mg_ct (mg_k M) i))), some (.int (Int32.ofNat (128 + (mg_B M))))], [.int (Int32.ofNat 0), .int (Int32.ofNat (128 + (mg_B M))), .ref (b + 11)], A9)) rfl ?_
      refine rw_as (j := 13) (n := 128 + (mg_B M)) (v := .int (sb_i false)) h10 rfl rfl rfl (Or.inr (Or.inr ⟨rfl, rfl, rfl⟩)) (show _ < 192 from by omega) (sb_narrow_z false) rfl (fun A13 h14 f15 => ?_)
      have f16 := f12.trans f15
      rw [rf_c_u (by decide)] at h14
      refine wp_st 1 (f' := (107, [some (.ref (b)), some (.int (Int32.ofNat (128 + mg_ct (mg_k M) i))), some (.int (Int32.ofNat (128 + (mg_B M))))], [.ref (b)], A13)) rfl ?_
      refine rw_gr h14 rfl rfl rfl rfl rfl rfl ?_
      refine wp_st 1 (f' := (111, [some (.ref (b)), some (.int (Int32.ofNat (128 + mg_ct (mg_k M) i))), some (.int (Int32.ofNat (128 + (mg_B M))))], [.int (Int32.ofNat (128 + (mg_B M))), .ref (b + 11)], A13)) rfl ?_
      refine rw_al (j := 13) (n := 128 + (mg_B M)) (v := .int (Int32.ofNat 0)) h14 rfl rfl rfl (Or.inr (Or.inr (Or.inr (Or.inl ⟨rfl, rfl⟩)))) rfl (show _ < 192 from by omega) (by rw [rf_c_ne (by decide), rf_u_eq]; rfl) rfl ?_
      refine wp_izT rfl rfl (show (Int32.ofNat 0) = (Int32.ofNat 0) from by decide) ?_
      refine wp_st 2 (f' := (135, [some (.ref (b)), some (.int (Int32.ofNat (128 + mg_ct (mg_k M) i))), some (.int (Int32.ofNat (128 + (mg_B M))))], [.int (Int32.ofNat 6), .ref (b)], A13)) rfl ?_
      have huk := sb_re_le (lo := 97) (hi := 122) (cs := cs) (n := n) (a := rd_sk cs n a)
      have huj := huk.2.1 (by omega)
      rcases (show sb_re 97 122 cs n (rd_sk cs n a) = rd_sk cs n a ∨ (¬ sb_re 97 122 cs n (rd_sk cs n a) = rd_sk cs n a ∧ 6 < sb_re 97 122 cs n (rd_sk cs n a) - (rd_sk cs n a)) ∨ (¬ sb_re 97 122 cs n (rd_sk cs n a) = rd_sk cs n a ∧ ¬ 6 < sb_re 97 122 cs n (rd_sk cs n a) - (rd_sk cs n a)) by omega) with hu | ⟨hu, hu6⟩ | ⟨hu, hu6⟩
      · skip
        have hsel : rd_sel cs n (decide (mg_k M i ≠ 6)) (rd_sk cs n a) = .error (rd_sk cs n a) := by unfold rd_sel; rw [if_neg (show ¬ (decide (mg_k M i ≠ 6) = true ∧ sb_lk cs n (rd_sk cs n a) = 61) from fun z => of_decide_eq_true z.1 hk6), if_pos hu]
        obtain ⟨A17, g18, h19, f20⟩ := (show rf_go _ _ _ _ _ _ (rf_c (rf_u (rf_u s 21 0 (.int (Int32.ofNat (mg_B M + 1)))) 13 (128 + (mg_B M)) (.int (sb_i false))) (sb_re 97 122 cs n (rd_sk cs n a)) (Int32.ofNat (rd_sk cs n a)) (rf_rw cs (rd_sk cs n a) (sb_re 97 122 cs n (rd_sk cs n a) - (rd_sk cs n a))) (rd_sk cs n a)) from by have q := rr_let (d := d - 1) (many := 6) (by omega) (by omega) (by omega) (show rf_tx (rf_u (rf_u s 21 0 (.int (Int32.ofNat (mg_B M + 1)))) 13 (128 + (mg_B M)) (.int (sb_i false))) cs n from hx) h14; rw [rf_lt_er hu] at q; exact q)
        have f21 := f16.trans f20
        refine wp_cv (A' := A17) (v := none) rfl rfl rfl rfl rfl (show _ from h14.1) (by omega) (g18) rfl ?_
        show am_wp d 141 (138, [some (.ref (b)), some (.int (Int32.ofNat (128 + mg_ct (mg_k M) i))), some (.int (Int32.ofNat (128 + (mg_B M))))], [], A17) _
        refine wp_st 1 (f' := (139, [some (.ref (b)), some (.int (Int32.ofNat (128 + mg_ct (mg_k M) i))), some (.int (Int32.ofNat (128 + (mg_B M))))], [.ref (b)], A17)) rfl ?_
        refine rw_gr h19 rfl rfl rfl rfl rfl rfl ?_
        refine wp_st 2 (f' := (144, [some (.ref (b)), some (.int (Int32.ofNat (128 + mg_ct (mg_k M) i))), some (.int (Int32.ofNat (128 + (mg_B M))))], [.ref (b), .int (Int32.ofNat (128 + (mg_B M))), .ref (b + 12)], A17)) rfl ?_
        refine rw_gf (v := .long (rf_rw cs (rd_sk cs n a) (sb_re 97 122 cs n (rd_sk cs n a) - (rd_sk cs n a)))) h19 rfl rfl rfl rfl (rfl) rfl ?_
        refine rw_ls (j := 14) (n := 128 + (mg_B M)) h19 rfl rfl rfl rfl (show _ < 192 from by omega) rfl (fun A22 h23 f24 => ?_)
        have f25 := f21.trans f24
        rw [rf_c_u (by decide)] at h23
        refine wp_st 1 (f' := (149, [some (.ref (b)), some (.int (Int32.ofNat (128 + mg_ct (mg_k M) i))), some (.int (Int32.ofNat (128 + (mg_B M))))], [.ref (b)], A22)) rfl ?_
        refine rw_gr h23 rfl rfl rfl rfl rfl rfl ?_
        refine wp_st 2 (f' := (154, [some (.ref (b)), some (.int (Int32.ofNat (128 + mg_ct (mg_k M) i))), some (.int (Int32.ofNat (128 + (mg_B M))))], [.int ((-1)), .int (Int32.ofNat (128 + (mg_B M))), .ref (b + 13)], A22)) rfl ?_
        refine rw_as (j := 15) (n := 128 + (mg_B M)) (v := .int ((-1))) h23 rfl rfl rfl (Or.inl ⟨rfl, rfl, rfl⟩) (show _ < 192 from by omega) rfl rfl (fun A26 h27 f28 => ?_)
        have f29 := f25.trans f28
        rw [rf_c_u (by decide)] at h27
        refine wp_st 1 (f' := (156, [some (.ref (b)), some (.int (Int32.ofNat (128 + mg_ct (mg_k M) i))), some (.int (Int32.ofNat (128 + (mg_B M))))], [.ref (b)], A26)) rfl ?_
        refine rw_gr h27 rfl rfl rfl rfl rfl rfl ?_
        refine wp_st 2 (f' := (161, [some (.ref (b)), some (.int (Int32.ofNat (128 + mg_ct (mg_k M) i))), some (.int (Int32.ofNat (128 + (mg_B M))))], [.int ((-1)), .int (Int32.ofNat (128 + (mg_B M))), .ref (b + 14)], A26)) rfl ?_
        refine rw_as (j := 16) (n := 128 + (mg_B M)) (v := .int ((-1))) h27 rfl rfl rfl (Or.inl ⟨rfl, rfl, rfl⟩) (show _ < 192 from by omega) rfl rfl (fun A30 h31 f32 => ?_)
        have f33 := f29.trans f32
        rw [rf_c_u (by decide)] at h31
        refine wp_st 3 (f' := (165, [some (.ref (b)), some (.int (Int32.ofNat (128 + mg_ct (mg_k M) i))), some (.int (Int32.ofNat (128 + (mg_B M))))], [.int (Int32.ofNat (128 + (mg_B M))), .int (Int32.ofNat (128 + mg_ct (mg_k M) i)), .ref (b)], A30)) rfl ?_
        have hk0 : (rf_u (rf_u (rf_u (rf_u (rf_u s 21 0 (.int (Int32.ofNat (mg_B M + 1)))) 13 (128 + (mg_B M)) (.int (sb_i false))) 14 (128 + (mg_B M)) (.long (rf_rw cs (rd_sk cs n a) (sb_re 97 122 cs n (rd_sk cs n a) - (rd_sk cs n a))))) 15 (128 + (mg_B M)) (.int ((-1)))) 16 (128 + (mg_B M)) (.int ((-1)))) 12 (128 + mg_ct (mg_k M) i) = rm_e 128 (mg_bo (mg_w M) i (mg_B M) 0) := by rw [rf_u_ne (by omega), rf_u_ne (by omega), rf_u_ne (by omega), rf_u_ne (by omega), rf_u_ne (by omega)]; exact hch0
        have hkc : ∀ c, c < mg_B M → mg_w M c = i → (rf_u (rf_u (rf_u (rf_u (rf_u s 21 0 (.int (Int32.ofNat (mg_B M + 1)))) 13 (128 + (mg_B M)) (.int (sb_i false))) 14 (128 + (mg_B M)) (.long (rf_rw cs (rd_sk cs n a) (sb_re 97 122 cs n (rd_sk cs n a) - (rd_sk cs n a))))) 15 (128 + (mg_B M)) (.int ((-1)))) 16 (128 + (mg_B M)) (.int ((-1)))) 16 (128 + c) = rm_e 128 (mg_bo (mg_w M) i (mg_B M - (c + 1)) (c + 1)) := fun c z1 z2 => by rw [rf_u_ne (by omega), rf_u_ne (by omega), rf_u_ne (by omega), rf_u_ne (by omega), rf_u_ne (by omega)]; have z3 := (hchc c z1 z2).2; rw [z2] at z3; exact z3
        obtain ⟨A34, g35, h36, f37⟩ := (show rf_go _ _ _ _ _ _ (rf_c (rm_ln (rf_u (rf_u (rf_u (rf_u (rf_u s 21 0 (.int (Int32.ofNat (mg_B M + 1)))) 13 (128 + (mg_B M)) (.int (sb_i false))) 14 (128 + (mg_B M)) (.long (rf_rw cs (rd_sk cs n a) (sb_re 97 122 cs n (rd_sk cs n a) - (rd_sk cs n a))))) 15 (128 + (mg_B M)) (.int ((-1)))) 16 (128 + (mg_B M)) (.int ((-1)))) (mg_bl (mg_w M) i (mg_B M)) (mg_ct (mg_k M) i) (.int (Int32.ofNat (128 + mg_B M)))) (sb_re 97 122 cs n (rd_sk cs n a)) (Int32.ofNat (rd_sk cs n a)) (rf_rw cs (rd_sk cs n a) (sb_re 97 122 cs n (rd_sk cs n a) - (rd_sk cs n a))) (rd_sk cs n a)) from rn_link (d := d - 1) (x := Int32.ofNat (128 + mg_B M)) (by omega) (by omega) hk0 hkc h31)
        have f38 := f33.trans f37
        obtain ⟨t1, ht1⟩ : ∃ t, t = rm_ln (rf_u (rf_u (rf_u (rf_u (rf_u s 21 0 (.int (Int32.ofNat (mg_B M + 1)))) 13 (128 + (mg_B M)) (.int (sb_i false))) 14 (128 + (mg_B M)) (.long (rf_rw cs (rd_sk cs n a) (sb_re 97 122 cs n (rd_sk cs n a) - (rd_sk cs n a))))) 15 (128 + (mg_B M)) (.int ((-1)))) 16 (128 + (mg_B M)) (.int ((-1)))) (mg_bl (mg_w M) i (mg_B M)) (mg_ct (mg_k M) i) (.int (Int32.ofNat (128 + mg_B M))) := ⟨_, rfl⟩
        rw [← ht1] at h36
        have hX1 : rm_X s t1 := by rw [ht1]; exact rm_ln_X (((((((rm_X.refl s).u (by unfold rm_sc; omega)).u (by unfold rm_sc; omega)).u (by unfold rm_sc; omega)).u (by unfold rm_sc; omega)).u (by unfold rm_sc; omega)))
        have hx1 := hX1.tx hx
        refine wp_cv (A' := A34) (v := none) rfl rfl rfl rfl rfl (show _ from h31.1) (by omega) (g35) rfl ?_
        show am_wp d 141 (168, [some (.ref (b)), some (.int (Int32.ofNat (128 + mg_ct (mg_k M) i))), some (.int (Int32.ofNat (128 + (mg_B M))))], [], A34) _
        have hres : rd_bo cs n L i (decide (mg_k M i ≠ 6)) a M = .error (rd_sk cs n a) := by unfold rd_bo; rw [if_neg h8, hsel]
        rw [hres]
        have h22 : t1 22 0 = .int (Int32.ofNat L) := by rw [ht1, rm_ln_j (by decide) (by decide), rf_u_ne (by omega), rf_u_ne (by omega), rf_u_ne (by omega), rf_u_ne (by omega), rf_u_ne (by omega)]; exact hI.s22
        obtain ⟨z, z1, z2, z3⟩ := mb_te (d := d) (n := n) (p := sb_re 97 122 cs n (rd_sk cs n a)) (e := rd_sk cs n a) (z1 := Int32.ofNat (128 + mg_ct (mg_k M) i)) (z2 := Int32.ofNat (128 + mg_B M)) (by omega) hx1 h22 hL3 (by omega) (by omega) h36
        exact ⟨z, z1, z2, z3.tr hX1 f38⟩
      · skip
        have hsel : rd_sel cs n (decide (mg_k M i ≠ 6)) (rd_sk cs n a) = .error (rd_sk cs n a + 6) := by unfold rd_sel; rw [if_neg (show ¬ (decide (mg_k M i ≠ 6) = true ∧ sb_lk cs n (rd_sk cs n a) = 61) from fun z => of_decide_eq_true z.1 hk6), if_neg hu, if_pos hu6]
        obtain ⟨A39, g40, h41, f42⟩ := (show rf_go _ _ _ _ _ _ (rf_c (rf_u (rf_u s 21 0 (.int (Int32.ofNat (mg_B M + 1)))) 13 (128 + (mg_B M)) (.int (sb_i false))) (sb_re 97 122 cs n (rd_sk cs n a)) (Int32.ofNat (rd_sk cs n a + 6)) (rf_rw cs (rd_sk cs n a) (sb_re 97 122 cs n (rd_sk cs n a) - (rd_sk cs n a))) (rd_sk cs n a)) from by have q := rr_let (d := d - 1) (many := 6) (by omega) (by omega) (by omega) (show rf_tx (rf_u (rf_u s 21 0 (.int (Int32.ofNat (mg_B M + 1)))) 13 (128 + (mg_B M)) (.int (sb_i false))) cs n from hx) h14; rw [rf_lt_many hu6] at q; exact q)
        have f43 := f16.trans f42
        refine wp_cv (A' := A39) (v := none) rfl rfl rfl rfl rfl (show _ from h14.1) (by omega) (g40) rfl ?_
        show am_wp d 141 (138, [some (.ref (b)), some (.int (Int32.ofNat (128 + mg_ct (mg_k M) i))), some (.int (Int32.ofNat (128 + (mg_B M))))], [], A39) _
        refine wp_st 1 (f' := (139, [some (.ref (b)), some (.int (Int32.ofNat (128 + mg_ct (mg_k M) i))), some (.int (Int32.ofNat (128 + (mg_B M))))], [.ref (b)], A39)) rfl ?_
        refine rw_gr h41 rfl rfl rfl rfl rfl rfl ?_
        refine wp_st 2 (f' := (144, [some (.ref (b)), some (.int (Int32.ofNat (128 + mg_ct (mg_k M) i))), some (.int (Int32.ofNat (128 + (mg_B M))))], [.ref (b), .int (Int32.ofNat (128 + (mg_B M))), .ref (b + 12)], A39)) rfl ?_
        refine rw_gf (v := .long (rf_rw cs (rd_sk cs n a) (sb_re 97 122 cs n (rd_sk cs n a) - (rd_sk cs n a)))) h41 rfl rfl rfl rfl (rfl) rfl ?_
        refine rw_ls (j := 14) (n := 128 + (mg_B M)) h41 rfl rfl rfl rfl (show _ < 192 from by omega) rfl (fun A44 h45 f46 => ?_)
        have f47 := f43.trans f46
        rw [rf_c_u (by decide)] at h45
        refine wp_st 1 (f' := (149, [some (.ref (b)), some (.int (Int32.ofNat (128 + mg_ct (mg_k M) i))), some (.int (Int32.ofNat (128 + (mg_B M))))], [.ref (b)], A44)) rfl ?_
        refine rw_gr h45 rfl rfl rfl rfl rfl rfl ?_
        refine wp_st 2 (f' := (154, [some (.ref (b)), some (.int (Int32.ofNat (128 + mg_ct (mg_k M) i))), some (.int (Int32.ofNat (128 + (mg_B M))))], [.int ((-1)), .int (Int32.ofNat (128 + (mg_B M))), .ref (b + 13)], A44)) rfl ?_
        refine rw_as (j := 15) (n := 128 + (mg_B M)) (v := .int ((-1))) h45 rfl rfl rfl (Or.inl ⟨rfl, rfl, rfl⟩) (show _ < 192 from by omega) rfl rfl (fun A48 h49 f50 => ?_)
        have f51 := f47.trans f50
        rw [rf_c_u (by decide)] at h49
        refine wp_st 1 (f' := (156, [some (.ref (b)), some (.int (Int32.ofNat (128 + mg_ct (mg_k M) i))), some (.int (Int32.ofNat (128 + (mg_B M))))], [.ref (b)], A48)) rfl ?_
        refine rw_gr h49 rfl rfl rfl rfl rfl rfl ?_
        refine wp_st 2 (f' := (161, [some (.ref (b)), some (.int (Int32.ofNat (128 + mg_ct (mg_k M) i))), some (.int (Int32.ofNat (128 + (mg_B M))))], [.int ((-1)), .int (Int32.ofNat (128 + (mg_B M))), .ref (b + 14)], A48)) rfl ?_
        refine rw_as (j := 16) (n := 128 + (mg_B M)) (v := .int ((-1))) h49 rfl rfl rfl (Or.inl ⟨rfl, rfl, rfl⟩) (show _ < 192 from by omega) rfl rfl (fun A52 h53 f54 => ?_)
        have f55 := f51.trans f54
        rw [rf_c_u (by decide)] at h53
        refine wp_st 3 (f' := (165, [some (.ref (b)), some (.int (Int32.ofNat (128 + mg_ct (mg_k M) i))), some (.int (Int32.ofNat (128 + (mg_B M))))], [.int (Int32.ofNat (128 + (mg_B M))), .int (Int32.ofNat (128 + mg_ct (mg_k M) i)), .ref (b)], A52)) rfl ?_
        have hk0 : (rf_u (rf_u (rf_u (rf_u (rf_u s 21 0 (.int (Int32.ofNat (mg_B M + 1)))) 13 (128 + (mg_B M)) (.int (sb_i false))) 14 (128 + (mg_B M)) (.long (rf_rw cs (rd_sk cs n a) (sb_re 97 122 cs n (rd_sk cs n a) - (rd_sk cs n a))))) 15 (128 + (mg_B M)) (.int ((-1)))) 16 (128 + (mg_B M)) (.int ((-1)))) 12 (128 + mg_ct (mg_k M) i) = rm_e 128 (mg_bo (mg_w M) i (mg_B M) 0) := by rw [rf_u_ne (by omega), rf_u_ne (by omega), rf_u_ne (by omega), rf_u_ne (by omega), rf_u_ne (by omega)]; exact hch0
        have hkc : ∀ c, c < mg_B M → mg_w M c = i → (rf_u (rf_u (rf_u (rf_u (rf_u s 21 0 (.int (Int32.ofNat (mg_B M + 1)))) 13 (128 + (mg_B M)) (.int (sb_i false))) 14 (128 + (mg_B M)) (.long (rf_rw cs (rd_sk cs n a) (sb_re 97 122 cs n (rd_sk cs n a) - (rd_sk cs n a))))) 15 (128 + (mg_B M)) (.int ((-1)))) 16 (128 + (mg_B M)) (.int ((-1)))) 16 (128 + c) = rm_e 128 (mg_bo (mg_w M) i (mg_B M - (c + 1)) (c + 1)) := fun c z1 z2 => by rw [rf_u_ne (by omega), rf_u_ne (by omega), rf_u_ne (by omega), rf_u_ne (by omega), rf_u_ne (by omega)]; have z3 := (hchc c z1 z2).2; rw [z2] at z3; exact z3
        obtain ⟨A56, g57, h58, f59⟩ := (show rf_go _ _ _ _ _ _ (rf_c (rm_ln (rf_u (rf_u (rf_u (rf_u (rf_u s 21 0 (.int (Int32.ofNat (mg_B M + 1)))) 13 (128 + (mg_B M)) (.int (sb_i false))) 14 (128 + (mg_B M)) (.long (rf_rw cs (rd_sk cs n a) (sb_re 97 122 cs n (rd_sk cs n a) - (rd_sk cs n a))))) 15 (128 + (mg_B M)) (.int ((-1)))) 16 (128 + (mg_B M)) (.int ((-1)))) (mg_bl (mg_w M) i (mg_B M)) (mg_ct (mg_k M) i) (.int (Int32.ofNat (128 + mg_B M)))) (sb_re 97 122 cs n (rd_sk cs n a)) (Int32.ofNat (rd_sk cs n a + 6)) (rf_rw cs (rd_sk cs n a) (sb_re 97 122 cs n (rd_sk cs n a) - (rd_sk cs n a))) (rd_sk cs n a)) from rn_link (d := d - 1) (x := Int32.ofNat (128 + mg_B M)) (by omega) (by omega) hk0 hkc h53)
        have f60 := f55.trans f59
        obtain ⟨t1, ht1⟩ : ∃ t, t = rm_ln (rf_u (rf_u (rf_u (rf_u (rf_u s 21 0 (.int (Int32.ofNat (mg_B M + 1)))) 13 (128 + (mg_B M)) (.int (sb_i false))) 14 (128 + (mg_B M)) (.long (rf_rw cs (rd_sk cs n a) (sb_re 97 122 cs n (rd_sk cs n a) - (rd_sk cs n a))))) 15 (128 + (mg_B M)) (.int ((-1)))) 16 (128 + (mg_B M)) (.int ((-1)))) (mg_bl (mg_w M) i (mg_B M)) (mg_ct (mg_k M) i) (.int (Int32.ofNat (128 + mg_B M))) := ⟨_, rfl⟩
        rw [← ht1] at h58
        have hX1 : rm_X s t1 := by rw [ht1]; exact rm_ln_X (((((((rm_X.refl s).u (by unfold rm_sc; omega)).u (by unfold rm_sc; omega)).u (by unfold rm_sc; omega)).u (by unfold rm_sc; omega)).u (by unfold rm_sc; omega)))
        have hx1 := hX1.tx hx
        refine wp_cv (A' := A56) (v := none) rfl rfl rfl rfl rfl (show _ from h53.1) (by omega) (g57) rfl ?_
        show am_wp d 141 (168, [some (.ref (b)), some (.int (Int32.ofNat (128 + mg_ct (mg_k M) i))), some (.int (Int32.ofNat (128 + (mg_B M))))], [], A56) _
        have hres : rd_bo cs n L i (decide (mg_k M i ≠ 6)) a M = .error (rd_sk cs n a + 6) := by unfold rd_bo; rw [if_neg h8, hsel]
        rw [hres]
        have h22 : t1 22 0 = .int (Int32.ofNat L) := by rw [ht1, rm_ln_j (by decide) (by decide), rf_u_ne (by omega), rf_u_ne (by omega), rf_u_ne (by omega), rf_u_ne (by omega), rf_u_ne (by omega)]; exact hI.s22
        obtain ⟨z, z1, z2, z3⟩ := mb_te (d := d) (n := n) (p := sb_re 97 122 cs n (rd_sk cs n a)) (e := rd_sk cs n a + 6) (z1 := Int32.ofNat (128 + mg_ct (mg_k M) i)) (z2 := Int32.ofNat (128 + mg_B M)) (by omega) hx1 h22 hL3 (by omega) (by omega) h58
        exact ⟨z, z1, z2, z3.tr hX1 f60⟩
      · skip
        have hsel : rd_sel cs n (decide (mg_k M i ≠ 6)) (rd_sk cs n a) = .ok (sb_re 97 122 cs n (rd_sk cs n a), sb_pk cs (sb_re 97 122 cs n (rd_sk cs n a) - (rd_sk cs n a)) (rd_sk cs n a) 0) := by unfold rd_sel; rw [if_neg (show ¬ (decide (mg_k M i ≠ 6) = true ∧ sb_lk cs n (rd_sk cs n a) = 61) from fun z => of_decide_eq_true z.1 hk6), if_neg hu, if_neg hu6]
        have hrw : rf_rw cs (rd_sk cs n a) (sb_re 97 122 cs n (rd_sk cs n a) - (rd_sk cs n a)) = Int64.ofNat (rf_b32 cs (sb_re 97 122 cs n (rd_sk cs n a) - (rd_sk cs n a)) (rd_sk cs n a) 0) := by unfold rf_rw; rw [if_pos (by omega)]
        have hsw : rm_w 6 (sb_pkn cs (sb_re 97 122 cs n (rd_sk cs n a) - (rd_sk cs n a)) (rd_sk cs n a) 0) (rf_b32 cs (sb_re 97 122 cs n (rd_sk cs n a) - (rd_sk cs n a)) (rd_sk cs n a) 0) := rm_w_cl (sb_ltr_re cs n (rd_sk cs n a)) (by omega) (by omega)
        have hsp : sb_pk cs (sb_re 97 122 cs n (rd_sk cs n a) - (rd_sk cs n a)) (rd_sk cs n a) 0 = Int64.ofNat (sb_pkn cs (sb_re 97 122 cs n (rd_sk cs n a) - (rd_sk cs n a)) (rd_sk cs n a) 0) := sb_pk_n cs hc128 _ _ 0 (by omega) (Nat.pow_pos (by omega))
        obtain ⟨A61, g62, h63, f64⟩ := (show rf_go _ _ _ _ _ _ (rf_c (rf_u (rf_u s 21 0 (.int (Int32.ofNat (mg_B M + 1)))) 13 (128 + (mg_B M)) (.int (sb_i false))) (sb_re 97 122 cs n (rd_sk cs n a)) (-1) (Int64.ofNat (rf_b32 cs (sb_re 97 122 cs n (rd_sk cs n a) - (rd_sk cs n a)) (rd_sk cs n a) 0)) (rd_sk cs n a)) from by have q := rr_let (d := d - 1) (many := 6) (by omega) (by omega) (by omega) (show rf_tx (rf_u (rf_u s 21 0 (.int (Int32.ofNat (mg_B M + 1)))) 13 (128 + (mg_B M)) (.int (sb_i false))) cs n from hx) h14; rw [rf_lt_ok (by omega) hu (by omega), hrw] at q; exact q)
        have f65 := f16.trans f64
        refine wp_cv (A' := A61) (v := none) rfl rfl rfl rfl rfl (show _ from h14.1) (by omega) (g62) rfl ?_
        show am_wp d 141 (138, [some (.ref (b)), some (.int (Int32.ofNat (128 + mg_ct (mg_k M) i))), some (.int (Int32.ofNat (128 + (mg_B M))))], [], A61) _
        refine wp_st 1 (f' := (139, [some (.ref (b)), some (.int (Int32.ofNat (128 + mg_ct (mg_k M) i))), some (.int (Int32.ofNat (128 + (mg_B M))))], [.ref (b)], A61)) rfl ?_
        refine rw_gr h63 rfl rfl rfl rfl rfl rfl ?_
        refine wp_st 2 (f' := (144, [some (.ref (b)), some (.int (Int32.ofNat (128 + mg_ct (mg_k M) i))), some (.int (Int32.ofNat (128 + (mg_B M))))], [.ref (b), .int (Int32.ofNat (128 + (mg_B M))), .ref (b + 12)], A61)) rfl ?_
        refine rw_gf (v := .long (Int64.ofNat (rf_b32 cs (sb_re 97 122 cs n (rd_sk cs n a) - (rd_sk cs n a)) (rd_sk cs n a) 0))) h63 rfl rfl rfl rfl (rfl) rfl ?_
        refine rw_ls (j := 14) (n := 128 + (mg_B M)) h63 rfl rfl rfl rfl (show _ < 192 from by omega) rfl (fun A66 h67 f68 => ?_)
        have f69 := f65.trans f68
        rw [rf_c_u (by decide)] at h67
        refine wp_st 1 (f' := (149, [some (.ref (b)), some (.int (Int32.ofNat (128 + mg_ct (mg_k M) i))), some (.int (Int32.ofNat (128 + (mg_B M))))], [.ref (b)], A66)) rfl ?_
        refine rw_gr h67 rfl rfl rfl rfl rfl rfl ?_
        refine wp_st 2 (f' := (154, [some (.ref (b)), some (.int (Int32.ofNat (128 + mg_ct (mg_k M) i))), some (.int (Int32.ofNat (128 + (mg_B M))))], [.int ((-1)), .int (Int32.ofNat (128 + (mg_B M))), .ref (b + 13)], A66)) rfl ?_
        refine rw_as (j := 15) (n := 128 + (mg_B M)) (v := .int ((-1))) h67 rfl rfl rfl (Or.inl ⟨rfl, rfl, rfl⟩) (show _ < 192 from by omega) rfl rfl (fun A70 h71 f72 => ?_)
        have f73 := f69.trans f72
        rw [rf_c_u (by decide)] at h71
        refine wp_st 1 (f' := (156, [some (.ref (b)), some (.int (Int32.ofNat (128 + mg_ct (mg_k M) i))), some (.int (Int32.ofNat (128 + (mg_B M))))], [.ref (b)], A70)) rfl ?_
        refine rw_gr h71 rfl rfl rfl rfl rfl rfl ?_
        refine wp_st 2 (f' := (161, [some (.ref (b)), some (.int (Int32.ofNat (128 + mg_ct (mg_k M) i))), some (.int (Int32.ofNat (128 + (mg_B M))))], [.int ((-1)), .int (Int32.ofNat (128 + (mg_B M))), .ref (b + 14)], A70)) rfl ?_
        refine rw_as (j := 16) (n := 128 + (mg_B M)) (v := .int ((-1))) h71 rfl rfl rfl (Or.inl ⟨rfl, rfl, rfl⟩) (show _ < 192 from by omega) rfl rfl (fun A74 h75 f76 => ?_)
        have f77 := f73.trans f76
        rw [rf_c_u (by decide)] at h75
        refine wp_st 3 (f' := (165, [some (.ref (b)), some (.int (Int32.ofNat (128 + mg_ct (mg_k M) i))), some (.int (Int32.ofNat (128 + (mg_B M))))], [.int (Int32.ofNat (128 + (mg_B M))), .int (Int32.ofNat (128 + mg_ct (mg_k M) i)), .ref (b)], A74)) rfl ?_
        have hk0 : (rf_u (rf_u (rf_u (rf_u (rf_u s 21 0 (.int (Int32.ofNat (mg_B M + 1)))) 13 (128 + (mg_B M)) (.int (sb_i false))) 14 (128 + (mg_B M)) (.long (Int64.ofNat (rf_b32 cs (sb_re 97 122 cs n (rd_sk cs n a) - (rd_sk cs n a)) (rd_sk cs n a) 0)))) 15 (128 + (mg_B M)) (.int ((-1)))) 16 (128 + (mg_B M)) (.int ((-1)))) 12 (128 + mg_ct (mg_k M) i) = rm_e 128 (mg_bo (mg_w M) i (mg_B M) 0) := by rw [rf_u_ne (by omega), rf_u_ne (by omega), rf_u_ne (by omega), rf_u_ne (by omega), rf_u_ne (by omega)]; exact hch0
        have hkc : ∀ c, c < mg_B M → mg_w M c = i → (rf_u (rf_u (rf_u (rf_u (rf_u s 21 0 (.int (Int32.ofNat (mg_B M + 1)))) 13 (128 + (mg_B M)) (.int (sb_i false))) 14 (128 + (mg_B M)) (.long (Int64.ofNat (rf_b32 cs (sb_re 97 122 cs n (rd_sk cs n a) - (rd_sk cs n a)) (rd_sk cs n a) 0)))) 15 (128 + (mg_B M)) (.int ((-1)))) 16 (128 + (mg_B M)) (.int ((-1)))) 16 (128 + c) = rm_e 128 (mg_bo (mg_w M) i (mg_B M - (c + 1)) (c + 1)) := fun c z1 z2 => by rw [rf_u_ne (by omega), rf_u_ne (by omega), rf_u_ne (by omega), rf_u_ne (by omega), rf_u_ne (by omega)]; have z3 := (hchc c z1 z2).2; rw [z2] at z3; exact z3
        obtain ⟨A78, g79, h80, f81⟩ := (show rf_go _ _ _ _ _ _ (rf_c (rm_ln (rf_u (rf_u (rf_u (rf_u (rf_u s 21 0 (.int (Int32.ofNat (mg_B M + 1)))) 13 (128 + (mg_B M)) (.int (sb_i false))) 14 (128 + (mg_B M)) (.long (Int64.ofNat (rf_b32 cs (sb_re 97 122 cs n (rd_sk cs n a) - (rd_sk cs n a)) (rd_sk cs n a) 0)))) 15 (128 + (mg_B M)) (.int ((-1)))) 16 (128 + (mg_B M)) (.int ((-1)))) (mg_bl (mg_w M) i (mg_B M)) (mg_ct (mg_k M) i) (.int (Int32.ofNat (128 + mg_B M)))) (sb_re 97 122 cs n (rd_sk cs n a)) (-1) (Int64.ofNat (rf_b32 cs (sb_re 97 122 cs n (rd_sk cs n a) - (rd_sk cs n a)) (rd_sk cs n a) 0)) (rd_sk cs n a)) from rn_link (d := d - 1) (x := Int32.ofNat (128 + mg_B M)) (by omega) (by omega) hk0 hkc h75)
        have f82 := f77.trans f81
        obtain ⟨t1, ht1⟩ : ∃ t, t = rm_ln (rf_u (rf_u (rf_u (rf_u (rf_u s 21 0 (.int (Int32.ofNat (mg_B M + 1)))) 13 (128 + (mg_B M)) (.int (sb_i false))) 14 (128 + (mg_B M)) (.long (Int64.ofNat (rf_b32 cs (sb_re 97 122 cs n (rd_sk cs n a) - (rd_sk cs n a)) (rd_sk cs n a) 0)))) 15 (128 + (mg_B M)) (.int ((-1)))) 16 (128 + (mg_B M)) (.int ((-1)))) (mg_bl (mg_w M) i (mg_B M)) (mg_ct (mg_k M) i) (.int (Int32.ofNat (128 + mg_B M))) := ⟨_, rfl⟩
        rw [← ht1] at h80
        have hX1 : rm_X s t1 := by rw [ht1]; exact rm_ln_X (((((((rm_X.refl s).u (by unfold rm_sc; omega)).u (by unfold rm_sc; omega)).u (by unfold rm_sc; omega)).u (by unfold rm_sc; omega)).u (by unfold rm_sc; omega)))
        have hx1 := hX1.tx hx
        refine wp_cv (A' := A78) (v := none) rfl rfl rfl rfl rfl (show _ from h75.1) (by omega) (g79) rfl ?_
        show am_wp d 141 (168, [some (.ref (b)), some (.int (Int32.ofNat (128 + mg_ct (mg_k M) i))), some (.int (Int32.ofNat (128 + (mg_B M))))], [], A78) _
        have hres : rd_bo cs n L i (decide (mg_k M i ≠ 6)) a M = (if sb_lk cs n (rd_sk cs n (sb_re 97 122 cs n (rd_sk cs n a))) = 123 then (if L = 3 then .error (rd_sk cs n (sb_re 97 122 cs n (rd_sk cs n a))) else .ok (.inr (rd_sk cs n (sb_re 97 122 cs n (rd_sk cs n a)) + 1, mg_addb M i (sb_pk cs (sb_re 97 122 cs n (rd_sk cs n a) - (rd_sk cs n a)) (rd_sk cs n a) 0)))) else .error (rd_sk cs n (sb_re 97 122 cs n (rd_sk cs n a)))) := by unfold rd_bo; rw [if_neg h8, hsel]
        rw [hres]
        obtain ⟨z, z1, z2⟩ := mb_to (d := d) (n := n) (p := sb_re 97 122 cs n (rd_sk cs n a)) (se := sb_pk cs (sb_re 97 122 cs n (rd_sk cs n a) - (rd_sk cs n a)) (rd_sk cs n a) 0) (s := s) (by omega) hx1 (by omega) hl h6 (by omega) (by omega) hI (by rw [ht1, rm_ln_j (by decide) (by decide)]; simp only [rf_u_if]; simp) (by rw [ht1, rm_ln_j (by decide) (by decide), rm_ln_j (by decide) (by decide)]; simp only [rf_u_if]; simp; exact Or.inr ⟨_, _, hsw, hsp, rfl, rfl⟩) (by rw [ht1, rm_ln_j (by decide) (by decide)]; simp only [rf_u_if]; simp) (by rw [ht1, rm_ln_ne rm_lk_new]; simp only [rf_u_if]; simp) (fun j q z => by rw [ht1]; exact rm_ln_eq z) (fun j q z1 z2 z3 => by rw [ht1, rm_ln_ne z3, rf_u_ne (by omega), rf_u_ne (by omega), rf_u_ne (by omega), rf_u_ne (by omega), rf_u_ne (by omega)]) h80
        exact ⟨z, z1, z2.tr (rm_X.refl s) f82⟩
    · skip
      refine rw_al (j := 10) (n := 128 + mg_ct (mg_k M) i) (v := .int (rf_so (mg_k M i))) h10 rfl rfl rfl (Or.inl ⟨rfl, rfl⟩) rfl (show _ < 192 from by omega) (by rw [rf_c_ne (by decide), rf_u_ne (Or.inl (by decide))]; exact hten) rfl ?_
      refine wp_st 1 (f' := (84, [some (.ref (b)), some (.int (Int32.ofNat (128 + mg_ct (mg_k M) i))), some (.int (Int32.ofNat (128 + (mg_B M))))], [.int (Int32.ofNat 6), .int (rf_so (mg_k M i)), .int (Int32.ofNat (128 + (mg_B M))), .ref (b + 11)], A9)) rfl ?_
      refine wp_ifF rfl rfl (rf_so_6 hk6 hk8) ?_
      refine wp_st 2 (f' := (89, [some (.ref (b)), some (.int (Int32.ofNat (128 + mg_ct (mg_k M) i))), some (.int (Int32.ofNat (128 + (mg_B M))))], [.ref (b), .ref (b), .int (Int32.ofNat (128 + (mg_B M))), .ref (b + 11)], A9)) rfl ?_
      refine rw_gf (v := .int (Int32.ofNat (rd_sk cs n a))) h10 rfl rfl rfl rfl (rfl) rfl ?_
      have l83 := hlk (rd_sk cs n a)
      refine wp_cv (A' := A9) (v := some (.int (Int32.ofNat (sb_lk cs n (rd_sk cs n a))))) rfl rfl rfl rfl rfl (show _ from h10.1) (by omega) (rr_look (by omega) (show rf_tx (rf_u s 21 0 (.int (Int32.ofNat (mg_B M + 1)))) cs n from hx) h10) rfl ?_
      show am_wp d 141 (95, [some (.ref (b)), some (.int (Int32.ofNat (128 + mg_ct (mg_k M) i))), some (.int (Int32.ofNat (128 + (mg_B M))))], [.int (Int32.ofNat (sb_lk cs n (rd_sk cs n a))), .int (Int32.ofNat (128 + (mg_B M))), .ref (b + 11)], A9) _
      refine wp_st 1 (f' := (97, [some (.ref (b)), some (.int (Int32.ofNat (128 + mg_ct (mg_k M) i))), some (.int (Int32.ofNat (128 + (mg_B M))))], [.int (Int32.ofNat 61), .int (Int32.ofNat (sb_lk cs n (rd_sk cs n a))), .int (Int32.ofNat (128 + (mg_B M))), .ref (b + 11)], A9)) rfl ?_
      refine wp_if rfl rfl rfl (fun (h84 : (Int32.ofNat (sb_lk cs n (rd_sk cs n a))) ≠ (Int32.ofNat 61)) => ?_) (fun (h84 : ¬ ((Int32.ofNat (sb_lk cs n (rd_sk cs n a))) ≠ (Int32.ofNat 61))) => ?_)
      · skip
        rw [ne_eq, i32_eq (by omega) (by omega)] at h84
        refine wp_st 1 (f' := (105, [some (.ref (b)), some (.int (Int32.ofNat (128 + mg_ct (mg_k M) i))), some (.int (Int32.ofNat (128 + (mg_B M))))], [.int (Int32.ofNat 0), .int (Int32.ofNat (128 + (mg_B M))), .ref (b + 11)], A9)) rfl ?_
        refine rw_as (j := 13) (n := 128 + (mg_B M)) (v := .int (sb_i false)) h10 rfl rfl rfl (Or.inr (Or.inr ⟨rfl, rfl, rfl⟩)) (show _ < 192 from by omega) (sb_narrow_z false) rfl (fun A85 h86 f87 => ?_)
        have f88 := f12.trans f87
        rw [rf_c_u (by decide)] at h86
        refine wp_st 1 (f' := (107, [some (.ref (b)), some (.int (Int32.ofNat (128 + mg_ct (mg_k M) i))), some (.int (Int32.ofNat (128 + (mg_B M))))], [.ref (b)], A85)) rfl ?_
        refine rw_gr h86 rfl rfl rfl rfl rfl rfl ?_
        refine wp_st 1 (f' := (111, [some (.ref (b)), some (.int (Int32.ofNat (128 + mg_ct (mg_k M) i))), some (.int (Int32.ofNat (128 + (mg_B M))))], [.int (Int32.ofNat (128 + (mg_B M))), .ref (b + 11)], A85)) rfl ?_
        refine rw_al (j := 13) (n := 128 + (mg_B M)) (v := .int (Int32.ofNat 0)) h86 rfl rfl rfl (Or.inr (Or.inr (Or.inr (Or.inl ⟨rfl, rfl⟩)))) rfl (show _ < 192 from by omega) (by rw [rf_c_ne (by decide), rf_u_eq]; rfl) rfl ?_
        refine wp_izT rfl rfl (show (Int32.ofNat 0) = (Int32.ofNat 0) from by decide) ?_
        refine wp_st 2 (f' := (135, [some (.ref (b)), some (.int (Int32.ofNat (128 + mg_ct (mg_k M) i))), some (.int (Int32.ofNat (128 + (mg_B M))))], [.int (Int32.ofNat 6), .ref (b)], A85)) rfl ?_
        have huk := sb_re_le (lo := 97) (hi := 122) (cs := cs) (n := n) (a := rd_sk cs n a)
        have huj := huk.2.1 (by omega)
        rcases (show sb_re 97 122 cs n (rd_sk cs n a) = rd_sk cs n a ∨ (¬ sb_re 97 122 cs n (rd_sk cs n a) = rd_sk cs n a ∧ 6 < sb_re 97 122 cs n (rd_sk cs n a) - (rd_sk cs n a)) ∨ (¬ sb_re 97 122 cs n (rd_sk cs n a) = rd_sk cs n a ∧ ¬ 6 < sb_re 97 122 cs n (rd_sk cs n a) - (rd_sk cs n a)) by omega) with hu | ⟨hu, hu6⟩ | ⟨hu, hu6⟩
        · skip
          have hsel : rd_sel cs n (decide (mg_k M i ≠ 6)) (rd_sk cs n a) = .error (rd_sk cs n a) := by unfold rd_sel; rw [if_neg (show ¬ (decide (mg_k M i ≠ 6) = true ∧ sb_lk cs n (rd_sk cs n a) = 61) from fun z => h84 z.2), if_pos hu]
          obtain ⟨A89, g90, h91, f92⟩ := (show rf_go _ _ _ _ _ _ (rf_c (rf_u (rf_u s 21 0 (.int (Int32.ofNat (mg_B M + 1)))) 13 (128 + (mg_B M)) (.int (sb_i false))) (sb_re 97 122 cs n (rd_sk cs n a)) (Int32.ofNat (rd_sk cs n a)) (rf_rw cs (rd_sk cs n a) (sb_re 97 122 cs n (rd_sk cs n a) - (rd_sk cs n a))) (rd_sk cs n a)) from by have q := rr_let (d := d - 1) (many := 6) (by omega) (by omega) (by omega) (show rf_tx (rf_u (rf_u s 21 0 (.int (Int32.ofNat (mg_B M + 1)))) 13 (128 + (mg_B M)) (.int (sb_i false))) cs n from hx) h86; rw [rf_lt_er hu] at q; exact q)
          have f93 := f88.trans f92
          refine wp_cv (A' := A89) (v := none) rfl rfl rfl rfl rfl (show _ from h86.1) (by omega) (g90) rfl ?_
          show am_wp d 141 (138, [some (.ref (b)), some (.int (Int32.ofNat (128 + mg_ct (mg_k M) i))), some (.int (Int32.ofNat (128 + (mg_B M))))], [], A89) _
          refine wp_st 1 (f' := (139, [some (.ref (b)), some (.int (Int32.ofNat (128 + mg_ct (mg_k M) i))), some (.int (Int32.ofNat (128 + (mg_B M))))], [.ref (b)], A89)) rfl ?_
          refine rw_gr h91 rfl rfl rfl rfl rfl rfl ?_
          refine wp_st 2 (f' := (144, [some (.ref (b)), some (.int (Int32.ofNat (128 + mg_ct (mg_k M) i))), some (.int (Int32.ofNat (128 + (mg_B M))))], [.ref (b), .int (Int32.ofNat (128 + (mg_B M))), .ref (b + 12)], A89)) rfl ?_
          refine rw_gf (v := .long (rf_rw cs (rd_sk cs n a) (sb_re 97 122 cs n (rd_sk cs n a) - (rd_sk cs n a)))) h91 rfl rfl rfl rfl (rfl) rfl ?_
          refine rw_ls (j := 14) (n := 128 + (mg_B M)) h91 rfl rfl rfl rfl (show _ < 192 from by omega) rfl (fun A94 h95 f96 => ?_)
          have f97 := f93.trans f96
          rw [rf_c_u (by decide)] at h95
          refine wp_st 1 (f' := (149, [some (.ref (b)), some (.int (Int32.ofNat (128 + mg_ct (mg_k M) i))), some (.int (Int32.ofNat (128 + (mg_B M))))], [.ref (b)], A94)) rfl ?_
          refine rw_gr h95 rfl rfl rfl rfl rfl rfl ?_
          refine wp_st 2 (f' := (154, [some (.ref (b)), some (.int (Int32.ofNat (128 + mg_ct (mg_k M) i))), some (.int (Int32.ofNat (128 + (mg_B M))))], [.int ((-1)), .int (Int32.ofNat (128 + (mg_B M))), .ref (b + 13)], A94)) rfl ?_
          refine rw_as (j := 15) (n := 128 + (mg_B M)) (v := .int ((-1))) h95 rfl rfl rfl (Or.inl ⟨rfl, rfl, rfl⟩) (show _ < 192 from by omega) rfl rfl (fun A98 h99 f100 => ?_)
          have f101 := f97.trans f100
          rw [rf_c_u (by decide)] at h99
          refine wp_st 1 (f' := (156, [some (.ref (b)), some (.int (Int32.ofNat (128 + mg_ct (mg_k M) i))), some (.int (Int32.ofNat (128 + (mg_B M))))], [.ref (b)], A98)) rfl ?_
          refine rw_gr h99 rfl rfl rfl rfl rfl rfl ?_
          refine wp_st 2 (f' := (161, [some (.ref (b)), some (.int (Int32.ofNat (128 + mg_ct (mg_k M) i))), some (.int (Int32.ofNat (128 + (mg_B M))))], [.int ((-1)), .int (Int32.ofNat (128 + (mg_B M))), .ref (b + 14)], A98)) rfl ?_
          refine rw_as (j := 16) (n := 128 + (mg_B M)) (v := .int ((-1))) h99 rfl rfl rfl (Or.inl ⟨rfl, rfl, rfl⟩) (show _ < 192 from by omega) rfl rfl (fun A102 h103 f104 => ?_)
          have f105 := f101.trans f104
          rw [rf_c_u (by decide)] at h103
          refine wp_st 3 (f' := (165, [some (.ref (b)), some (.int (Int32.ofNat (128 + mg_ct (mg_k M) i))), some (.int (Int32.ofNat (128 + (mg_B M))))], [.int (Int32.ofNat (128 + (mg_B M))), .int (Int32.ofNat (128 + mg_ct (mg_k M) i)), .ref (b)], A102)) rfl ?_
          have hk0 : (rf_u (rf_u (rf_u (rf_u (rf_u s 21 0 (.int (Int32.ofNat (mg_B M + 1)))) 13 (128 + (mg_B M)) (.int (sb_i false))) 14 (128 + (mg_B M)) (.long (rf_rw cs (rd_sk cs n a) (sb_re 97 122 cs n (rd_sk cs n a) - (rd_sk cs n a))))) 15 (128 + (mg_B M)) (.int ((-1)))) 16 (128 + (mg_B M)) (.int ((-1)))) 12 (128 + mg_ct (mg_k M) i) = rm_e 128 (mg_bo (mg_w M) i (mg_B M) 0) := by rw [rf_u_ne (by omega), rf_u_ne (by omega), rf_u_ne (by omega), rf_u_ne (by omega), rf_u_ne (by omega)]; exact hch0
          have hkc : ∀ c, c < mg_B M → mg_w M c = i → (rf_u (rf_u (rf_u (rf_u (rf_u s 21 0 (.int (Int32.ofNat (mg_B M + 1)))) 13 (128 + (mg_B M)) (.int (sb_i false))) 14 (128 + (mg_B M)) (.long (rf_rw cs (rd_sk cs n a) (sb_re 97 122 cs n (rd_sk cs n a) - (rd_sk cs n a))))) 15 (128 + (mg_B M)) (.int ((-1)))) 16 (128 + (mg_B M)) (.int ((-1)))) 16 (128 + c) = rm_e 128 (mg_bo (mg_w M) i (mg_B M - (c + 1)) (c + 1)) := fun c z1 z2 => by rw [rf_u_ne (by omega), rf_u_ne (by omega), rf_u_ne (by omega), rf_u_ne (by omega), rf_u_ne (by omega)]; have z3 := (hchc c z1 z2).2; rw [z2] at z3; exact z3
          obtain ⟨A106, g107, h108, f109⟩ := (show rf_go _ _ _ _ _ _ (rf_c (rm_ln (rf_u (rf_u (rf_u (rf_u (rf_u s 21 0 (.int (Int32.ofNat (mg_B M + 1)))) 13 (128 + (mg_B M)) (.int (sb_i false))) 14 (128 + (mg_B M)) (.long (rf_rw cs (rd_sk cs n a) (sb_re 97 122 cs n (rd_sk cs n a) - (rd_sk cs n a))))) 15 (128 + (mg_B M)) (.int ((-1)))) 16 (128 + (mg_B M)) (.int ((-1)))) (mg_bl (mg_w M) i (mg_B M)) (mg_ct (mg_k M) i) (.int (Int32.ofNat (128 + mg_B M)))) (sb_re 97 122 cs n (rd_sk cs n a)) (Int32.ofNat (rd_sk cs n a)) (rf_rw cs (rd_sk cs n a) (sb_re 97 122 cs n (rd_sk cs n a) - (rd_sk cs n a))) (rd_sk cs n a)) from rn_link (d := d - 1) (x := Int32.ofNat (128 + mg_B M)) (by omega) (by omega) hk0 hkc h103)
          have f110 := f105.trans f109
          obtain ⟨t1, ht1⟩ : ∃ t, t = rm_ln (rf_u (rf_u (rf_u (rf_u (rf_u s 21 0 (.int (Int32.ofNat (mg_B M + 1)))) 13 (128 + (mg_B M)) (.int (sb_i false))) 14 (128 + (mg_B M)) (.long (rf_rw cs (rd_sk cs n a) (sb_re 97 122 cs n (rd_sk cs n a) - (rd_sk cs n a))))) 15 (128 + (mg_B M)) (.int ((-1)))) 16 (128 + (mg_B M)) (.int ((-1)))) (mg_bl (mg_w M) i (mg_B M)) (mg_ct (mg_k M) i) (.int (Int32.ofNat (128 + mg_B M))) := ⟨_, rfl⟩
          rw [← ht1] at h108
          have hX1 : rm_X s t1 := by rw [ht1]; exact rm_ln_X (((((((rm_X.refl s).u (by unfold rm_sc; omega)).u (by unfold rm_sc; omega)).u (by unfold rm_sc; omega)).u (by unfold rm_sc; omega)).u (by unfold rm_sc; omega)))
          have hx1 := hX1.tx hx
          refine wp_cv (A' := A106) (v := none) rfl rfl rfl rfl rfl (show _ from h103.1) (by omega) (g107) rfl ?_
          show am_wp d 141 (168, [some (.ref (b)), some (.int (Int32.ofNat (128 + mg_ct (mg_k M) i))), some (.int (Int32.ofNat (128 + (mg_B M))))], [], A106) _
          have hres : rd_bo cs n L i (decide (mg_k M i ≠ 6)) a M = .error (rd_sk cs n a) := by unfold rd_bo; rw [if_neg h8, hsel]
          rw [hres]
          have h22 : t1 22 0 = .int (Int32.ofNat L) := by rw [ht1, rm_ln_j (by decide) (by decide), rf_u_ne (by omega), rf_u_ne (by omega), rf_u_ne (by omega), rf_u_ne (by omega), rf_u_ne (by omega)]; exact hI.s22
          obtain ⟨z, z1, z2, z3⟩ := mb_te (d := d) (n := n) (p := sb_re 97 122 cs n (rd_sk cs n a)) (e := rd_sk cs n a) (z1 := Int32.ofNat (128 + mg_ct (mg_k M) i)) (z2 := Int32.ofNat (128 + mg_B M)) (by omega) hx1 h22 hL3 (by omega) (by omega) h108
          exact ⟨z, z1, z2, z3.tr hX1 f110⟩
        · skip
          have hsel : rd_sel cs n (decide (mg_k M i ≠ 6)) (rd_sk cs n a) = .error (rd_sk cs n a + 6) := by unfold rd_sel; rw [if_neg (show ¬ (decide (mg_k M i ≠ 6) = true ∧ sb_lk cs n (rd_sk cs n a) = 61) from fun z => h84 z.2), if_neg hu, if_pos hu6]
          obtain ⟨A111, g112, h113, f114⟩ := (show rf_go _ _ _ _ _ _ (rf_c (rf_u (rf_u s 21 0 (.int (Int32.ofNat (mg_B M + 1)))) 13 (128 + (mg_B M)) (.int (sb_i false))) (sb_re 97 122 cs n (rd_sk cs n a)) (Int32.ofNat (rd_sk cs n a + 6)) (rf_rw cs (rd_sk cs n a) (sb_re 97 122 cs n (rd_sk cs n a) - (rd_sk cs n a))) (rd_sk cs n a)) from by have q := rr_let (d := d - 1) (many := 6) (by omega) (by omega) (by omega) (show rf_tx (rf_u (rf_u s 21 0 (.int (Int32.ofNat (mg_B M + 1)))) 13 (128 + (mg_B M)) (.int (sb_i false))) cs n from hx) h86; rw [rf_lt_many hu6] at q; exact q)
          have f115 := f88.trans f114
          refine wp_cv (A' := A111) (v := none) rfl rfl rfl rfl rfl (show _ from h86.1) (by omega) (g112) rfl ?_
          show am_wp d 141 (138, [some (.ref (b)), some (.int (Int32.ofNat (128 + mg_ct (mg_k M) i))), some (.int (Int32.ofNat (128 + (mg_B M))))], [], A111) _
          refine wp_st 1 (f' := (139, [some (.ref (b)), some (.int (Int32.ofNat (128 + mg_ct (mg_k M) i))), some (.int (Int32.ofNat (128 + (mg_B M))))], [.ref (b)], A111)) rfl ?_
          refine rw_gr h113 rfl rfl rfl rfl rfl rfl ?_
          refine wp_st 2 (f' := (144, [some (.ref (b)), some (.int (Int32.ofNat (128 + mg_ct (mg_k M) i))), some (.int (Int32.ofNat (128 + (mg_B M))))], [.ref (b), .int (Int32.ofNat (128 + (mg_B M))), .ref (b + 12)], A111)) rfl ?_
          refine rw_gf (v := .long (rf_rw cs (rd_sk cs n a) (sb_re 97 122 cs n (rd_sk cs n a) - (rd_sk cs n a)))) h113 rfl rfl rfl rfl (rfl) rfl ?_
          refine rw_ls (j := 14) (n := 128 + (mg_B M)) h113 rfl rfl rfl rfl (show _ < 192 from by omega) rfl (fun A116 h117 f118 => ?_)
          have f119 := f115.trans f118
          rw [rf_c_u (by decide)] at h117
          refine wp_st 1 (f' := (149, [some (.ref (b)), some (.int (Int32.ofNat (128 + mg_ct (mg_k M) i))), some (.int (Int32.ofNat (128 + (mg_B M))))], [.ref (b)], A116)) rfl ?_
          refine rw_gr h117 rfl rfl rfl rfl rfl rfl ?_
          refine wp_st 2 (f' := (154, [some (.ref (b)), some (.int (Int32.ofNat (128 + mg_ct (mg_k M) i))), some (.int (Int32.ofNat (128 + (mg_B M))))], [.int ((-1)), .int (Int32.ofNat (128 + (mg_B M))), .ref (b + 13)], A116)) rfl ?_
          refine rw_as (j := 15) (n := 128 + (mg_B M)) (v := .int ((-1))) h117 rfl rfl rfl (Or.inl ⟨rfl, rfl, rfl⟩) (show _ < 192 from by omega) rfl rfl (fun A120 h121 f122 => ?_)
          have f123 := f119.trans f122
          rw [rf_c_u (by decide)] at h121
          refine wp_st 1 (f' := (156, [some (.ref (b)), some (.int (Int32.ofNat (128 + mg_ct (mg_k M) i))), some (.int (Int32.ofNat (128 + (mg_B M))))], [.ref (b)], A120)) rfl ?_
          refine rw_gr h121 rfl rfl rfl rfl rfl rfl ?_
          refine wp_st 2 (f' := (161, [some (.ref (b)), some (.int (Int32.ofNat (128 + mg_ct (mg_k M) i))), some (.int (Int32.ofNat (128 + (mg_B M))))], [.int ((-1)), .int (Int32.ofNat (128 + (mg_B M))), .ref (b + 14)], A120)) rfl ?_
          refine rw_as (j := 16) (n := 128 + (mg_B M)) (v := .int ((-1))) h121 rfl rfl rfl (Or.inl ⟨rfl, rfl, rfl⟩) (show _ < 192 from by omega) rfl rfl (fun A124 h125 f126 => ?_)
          have f127 := f123.trans f126
          rw [rf_c_u (by decide)] at h125
          refine wp_st 3 (f' := (165, [some (.ref (b)), some (.int (Int32.ofNat (128 + mg_ct (mg_k M) i))), some (.int (Int32.ofNat (128 + (mg_B M))))], [.int (Int32.ofNat (128 + (mg_B M))), .int (Int32.ofNat (128 + mg_ct (mg_k M) i)), .ref (b)], A124)) rfl ?_
          have hk0 : (rf_u (rf_u (rf_u (rf_u (rf_u s 21 0 (.int (Int32.ofNat (mg_B M + 1)))) 13 (128 + (mg_B M)) (.int (sb_i false))) 14 (128 + (mg_B M)) (.long (rf_rw cs (rd_sk cs n a) (sb_re 97 122 cs n (rd_sk cs n a) - (rd_sk cs n a))))) 15 (128 + (mg_B M)) (.int ((-1)))) 16 (128 + (mg_B M)) (.int ((-1)))) 12 (128 + mg_ct (mg_k M) i) = rm_e 128 (mg_bo (mg_w M) i (mg_B M) 0) := by rw [rf_u_ne (by omega), rf_u_ne (by omega), rf_u_ne (by omega), rf_u_ne (by omega), rf_u_ne (by omega)]; exact hch0
          have hkc : ∀ c, c < mg_B M → mg_w M c = i → (rf_u (rf_u (rf_u (rf_u (rf_u s 21 0 (.int (Int32.ofNat (mg_B M + 1)))) 13 (128 + (mg_B M)) (.int (sb_i false))) 14 (128 + (mg_B M)) (.long (rf_rw cs (rd_sk cs n a) (sb_re 97 122 cs n (rd_sk cs n a) - (rd_sk cs n a))))) 15 (128 + (mg_B M)) (.int ((-1)))) 16 (128 + (mg_B M)) (.int ((-1)))) 16 (128 + c) = rm_e 128 (mg_bo (mg_w M) i (mg_B M - (c + 1)) (c + 1)) := fun c z1 z2 => by rw [rf_u_ne (by omega), rf_u_ne (by omega), rf_u_ne (by omega), rf_u_ne (by omega), rf_u_ne (by omega)]; have z3 := (hchc c z1 z2).2; rw [z2] at z3; exact z3
          obtain ⟨A128, g129, h130, f131⟩ := (show rf_go _ _ _ _ _ _ (rf_c (rm_ln (rf_u (rf_u (rf_u (rf_u (rf_u s 21 0 (.int (Int32.ofNat (mg_B M + 1)))) 13 (128 + (mg_B M)) (.int (sb_i false))) 14 (128 + (mg_B M)) (.long (rf_rw cs (rd_sk cs n a) (sb_re 97 122 cs n (rd_sk cs n a) - (rd_sk cs n a))))) 15 (128 + (mg_B M)) (.int ((-1)))) 16 (128 + (mg_B M)) (.int ((-1)))) (mg_bl (mg_w M) i (mg_B M)) (mg_ct (mg_k M) i) (.int (Int32.ofNat (128 + mg_B M)))) (sb_re 97 122 cs n (rd_sk cs n a)) (Int32.ofNat (rd_sk cs n a + 6)) (rf_rw cs (rd_sk cs n a) (sb_re 97 122 cs n (rd_sk cs n a) - (rd_sk cs n a))) (rd_sk cs n a)) from rn_link (d := d - 1) (x := Int32.ofNat (128 + mg_B M)) (by omega) (by omega) hk0 hkc h125)
          have f132 := f127.trans f131
          obtain ⟨t1, ht1⟩ : ∃ t, t = rm_ln (rf_u (rf_u (rf_u (rf_u (rf_u s 21 0 (.int (Int32.ofNat (mg_B M + 1)))) 13 (128 + (mg_B M)) (.int (sb_i false))) 14 (128 + (mg_B M)) (.long (rf_rw cs (rd_sk cs n a) (sb_re 97 122 cs n (rd_sk cs n a) - (rd_sk cs n a))))) 15 (128 + (mg_B M)) (.int ((-1)))) 16 (128 + (mg_B M)) (.int ((-1)))) (mg_bl (mg_w M) i (mg_B M)) (mg_ct (mg_k M) i) (.int (Int32.ofNat (128 + mg_B M))) := ⟨_, rfl⟩
          rw [← ht1] at h130
          have hX1 : rm_X s t1 := by rw [ht1]; exact rm_ln_X (((((((rm_X.refl s).u (by unfold rm_sc; omega)).u (by unfold rm_sc; omega)).u (by unfold rm_sc; omega)).u (by unfold rm_sc; omega)).u (by unfold rm_sc; omega)))
          have hx1 := hX1.tx hx
          refine wp_cv (A' := A128) (v := none) rfl rfl rfl rfl rfl (show _ from h125.1) (by omega) (g129) rfl ?_
          show am_wp d 141 (168, [some (.ref (b)), some (.int (Int32.ofNat (128 + mg_ct (mg_k M) i))), some (.int (Int32.ofNat (128 + (mg_B M))))], [], A128) _
          have hres : rd_bo cs n L i (decide (mg_k M i ≠ 6)) a M = .error (rd_sk cs n a + 6) := by unfold rd_bo; rw [if_neg h8, hsel]
          rw [hres]
          have h22 : t1 22 0 = .int (Int32.ofNat L) := by rw [ht1, rm_ln_j (by decide) (by decide), rf_u_ne (by omega), rf_u_ne (by omega), rf_u_ne (by omega), rf_u_ne (by omega), rf_u_ne (by omega)]; exact hI.s22
          obtain ⟨z, z1, z2, z3⟩ := mb_te (d := d) (n := n) (p := sb_re 97 122 cs n (rd_sk cs n a)) (e := rd_sk cs n a + 6) (z1 := Int32.ofNat (128 + mg_ct (mg_k M) i)) (z2 := Int32.ofNat (128 + mg_B M)) (by omega) hx1 h22 hL3 (by omega) (by omega) h130
          exact ⟨z, z1, z2, z3.tr hX1 f132⟩
        · skip
          have hsel : rd_sel cs n (decide (mg_k M i ≠ 6)) (rd_sk cs n a) = .ok (sb_re 97 122 cs n (rd_sk cs n a), sb_pk cs (sb_re 97 122 cs n (rd_sk cs n a) - (rd_sk cs n a)) (rd_sk cs n a) 0) := by unfold rd_sel; rw [if_neg (show ¬ (decide (mg_k M i ≠ 6) = true ∧ sb_lk cs n (rd_sk cs n a) = 61) from fun z => h84 z.2), if_neg hu, if_neg hu6]
          have hrw : rf_rw cs (rd_sk cs n a) (sb_re 97 122 cs n (rd_sk cs n a) - (rd_sk cs n a)) = Int64.ofNat (rf_b32 cs (sb_re 97 122 cs n (rd_sk cs n a) - (rd_sk cs n a)) (rd_sk cs n a) 0) := by unfold rf_rw; rw [if_pos (by omega)]
          have hsw : rm_w 6 (sb_pkn cs (sb_re 97 122 cs n (rd_sk cs n a) - (rd_sk cs n a)) (rd_sk cs n a) 0) (rf_b32 cs (sb_re 97 122 cs n (rd_sk cs n a) - (rd_sk cs n a)) (rd_sk cs n a) 0) := rm_w_cl (sb_ltr_re cs n (rd_sk cs n a)) (by omega) (by omega)
          have hsp : sb_pk cs (sb_re 97 122 cs n (rd_sk cs n a) - (rd_sk cs n a)) (rd_sk cs n a) 0 = Int64.ofNat (sb_pkn cs (sb_re 97 122 cs n (rd_sk cs n a) - (rd_sk cs n a)) (rd_sk cs n a) 0) := sb_pk_n cs hc128 _ _ 0 (by omega) (Nat.pow_pos (by omega))
          obtain ⟨A133, g134, h135, f136⟩ := (show rf_go _ _ _ _ _ _ (rf_c (rf_u (rf_u s 21 0 (.int (Int32.ofNat (mg_B M + 1)))) 13 (128 + (mg_B M)) (.int (sb_i false))) (sb_re 97 122 cs n (rd_sk cs n a)) (-1) (Int64.ofNat (rf_b32 cs (sb_re 97 122 cs n (rd_sk cs n a) - (rd_sk cs n a)) (rd_sk cs n a) 0)) (rd_sk cs n a)) from by have q := rr_let (d := d - 1) (many := 6) (by omega) (by omega) (by omega) (show rf_tx (rf_u (rf_u s 21 0 (.int (Int32.ofNat (mg_B M + 1)))) 13 (128 + (mg_B M)) (.int (sb_i false))) cs n from hx) h86; rw [rf_lt_ok (by omega) hu (by omega), hrw] at q; exact q)
          have f137 := f88.trans f136
          refine wp_cv (A' := A133) (v := none) rfl rfl rfl rfl rfl (show _ from h86.1) (by omega) (g134) rfl ?_
          show am_wp d 141 (138, [some (.ref (b)), some (.int (Int32.ofNat (128 + mg_ct (mg_k M) i))), some (.int (Int32.ofNat (128 + (mg_B M))))], [], A133) _
          refine wp_st 1 (f' := (139, [some (.ref (b)), some (.int (Int32.ofNat (128 + mg_ct (mg_k M) i))), some (.int (Int32.ofNat (128 + (mg_B M))))], [.ref (b)], A133)) rfl ?_
          refine rw_gr h135 rfl rfl rfl rfl rfl rfl ?_
          refine wp_st 2 (f' := (144, [some (.ref (b)), some (.int (Int32.ofNat (128 + mg_ct (mg_k M) i))), some (.int (Int32.ofNat (128 + (mg_B M))))], [.ref (b), .int (Int32.ofNat (128 + (mg_B M))), .ref (b + 12)], A133)) rfl ?_
          refine rw_gf (v := .long (Int64.ofNat (rf_b32 cs (sb_re 97 122 cs n (rd_sk cs n a) - (rd_sk cs n a)) (rd_sk cs n a) 0))) h135 rfl rfl rfl rfl (rfl) rfl ?_
          refine rw_ls (j := 14) (n := 128 + (mg_B M)) h135 rfl rfl rfl rfl (show _ < 192 from by omega) rfl (fun A138 h139 f140 => ?_)
          have f141 := f137.trans f140
          rw [rf_c_u (by decide)] at h139
          refine wp_st 1 (f' := (149, [some (.ref (b)), some (.int (Int32.ofNat (128 + mg_ct (mg_k M) i))), some (.int (Int32.ofNat (128 + (mg_B M))))], [.ref (b)], A138)) rfl ?_
          refine rw_gr h139 rfl rfl rfl rfl rfl rfl ?_
          refine wp_st 2 (f' := (154, [some (.ref (b)), some (.int (Int32.ofNat (128 + mg_ct (mg_k M) i))), some (.int (Int32.ofNat (128 + (mg_B M))))], [.int ((-1)), .int (Int32.ofNat (128 + (mg_B M))), .ref (b + 13)], A138)) rfl ?_
          refine rw_as (j := 15) (n := 128 + (mg_B M)) (v := .int ((-1))) h139 rfl rfl rfl (Or.inl ⟨rfl, rfl, rfl⟩) (show _ < 192 from by omega) rfl rfl (fun A142 h143 f144 => ?_)
          have f145 := f141.trans f144
          rw [rf_c_u (by decide)] at h143
          refine wp_st 1 (f' := (156, [some (.ref (b)), some (.int (Int32.ofNat (128 + mg_ct (mg_k M) i))), some (.int (Int32.ofNat (128 + (mg_B M))))], [.ref (b)], A142)) rfl ?_
          refine rw_gr h143 rfl rfl rfl rfl rfl rfl ?_
          refine wp_st 2 (f' := (161, [some (.ref (b)), some (.int (Int32.ofNat (128 + mg_ct (mg_k M) i))), some (.int (Int32.ofNat (128 + (mg_B M))))], [.int ((-1)), .int (Int32.ofNat (128 + (mg_B M))), .ref (b + 14)], A142)) rfl ?_
          refine rw_as (j := 16) (n := 128 + (mg_B M)) (v := .int ((-1))) h143 rfl rfl rfl (Or.inl ⟨rfl, rfl, rfl⟩) (show _ < 192 from by omega) rfl rfl (fun A146 h147 f148 => ?_)
          have f149 := f145.trans f148
          rw [rf_c_u (by decide)] at h147
          refine wp_st 3 (f' := (165, [some (.ref (b)), some (.int (Int32.ofNat (128 + mg_ct (mg_k M) i))), some (.int (Int32.ofNat (128 + (mg_B M))))], [.int (Int32.ofNat (128 + (mg_B M))), .int (Int32.ofNat (128 + mg_ct (mg_k M) i)), .ref (b)], A146)) rfl ?_
          have hk0 : (rf_u (rf_u (rf_u (rf_u (rf_u s 21 0 (.int (Int32.ofNat (mg_B M + 1)))) 13 (128 + (mg_B M)) (.int (sb_i false))) 14 (128 + (mg_B M)) (.long (Int64.ofNat (rf_b32 cs (sb_re 97 122 cs n (rd_sk cs n a) - (rd_sk cs n a)) (rd_sk cs n a) 0)))) 15 (128 + (mg_B M)) (.int ((-1)))) 16 (128 + (mg_B M)) (.int ((-1)))) 12 (128 + mg_ct (mg_k M) i) = rm_e 128 (mg_bo (mg_w M) i (mg_B M) 0) := by rw [rf_u_ne (by omega), rf_u_ne (by omega), rf_u_ne (by omega), rf_u_ne (by omega), rf_u_ne (by omega)]; exact hch0
          have hkc : ∀ c, c < mg_B M → mg_w M c = i → (rf_u (rf_u (rf_u (rf_u (rf_u s 21 0 (.int (Int32.ofNat (mg_B M + 1)))) 13 (128 + (mg_B M)) (.int (sb_i false))) 14 (128 + (mg_B M)) (.long (Int64.ofNat (rf_b32 cs (sb_re 97 122 cs n (rd_sk cs n a) - (rd_sk cs n a)) (rd_sk cs n a) 0)))) 15 (128 + (mg_B M)) (.int ((-1)))) 16 (128 + (mg_B M)) (.int ((-1)))) 16 (128 + c) = rm_e 128 (mg_bo (mg_w M) i (mg_B M - (c + 1)) (c + 1)) := fun c z1 z2 => by rw [rf_u_ne (by omega), rf_u_ne (by omega), rf_u_ne (by omega), rf_u_ne (by omega), rf_u_ne (by omega)]; have z3 := (hchc c z1 z2).2; rw [z2] at z3; exact z3
          obtain ⟨A150, g151, h152, f153⟩ := (show rf_go _ _ _ _ _ _ (rf_c (rm_ln (rf_u (rf_u (rf_u (rf_u (rf_u s 21 0 (.int (Int32.ofNat (mg_B M + 1)))) 13 (128 + (mg_B M)) (.int (sb_i false))) 14 (128 + (mg_B M)) (.long (Int64.ofNat (rf_b32 cs (sb_re 97 122 cs n (rd_sk cs n a) - (rd_sk cs n a)) (rd_sk cs n a) 0)))) 15 (128 + (mg_B M)) (.int ((-1)))) 16 (128 + (mg_B M)) (.int ((-1)))) (mg_bl (mg_w M) i (mg_B M)) (mg_ct (mg_k M) i) (.int (Int32.ofNat (128 + mg_B M)))) (sb_re 97 122 cs n (rd_sk cs n a)) (-1) (Int64.ofNat (rf_b32 cs (sb_re 97 122 cs n (rd_sk cs n a) - (rd_sk cs n a)) (rd_sk cs n a) 0)) (rd_sk cs n a)) from rn_link (d := d - 1) (x := Int32.ofNat (128 + mg_B M)) (by omega) (by omega) hk0 hkc h147)
          have f154 := f149.trans f153
          obtain ⟨t1, ht1⟩ : ∃ t, t = rm_ln (rf_u (rf_u (rf_u (rf_u (rf_u s 21 0 (.int (Int32.ofNat (mg_B M + 1)))) 13 (128 + (mg_B M)) (.int (sb_i false))) 14 (128 + (mg_B M)) (.long (Int64.ofNat (rf_b32 cs (sb_re 97 122 cs n (rd_sk cs n a) - (rd_sk cs n a)) (rd_sk cs n a) 0)))) 15 (128 + (mg_B M)) (.int ((-1)))) 16 (128 + (mg_B M)) (.int ((-1)))) (mg_bl (mg_w M) i (mg_B M)) (mg_ct (mg_k M) i) (.int (Int32.ofNat (128 + mg_B M))) := ⟨_, rfl⟩
          rw [← ht1] at h152
          have hX1 : rm_X s t1 := by rw [ht1]; exact rm_ln_X (((((((rm_X.refl s).u (by unfold rm_sc; omega)).u (by unfold rm_sc; omega)).u (by unfold rm_sc; omega)).u (by unfold rm_sc; omega)).u (by unfold rm_sc; omega)))
          have hx1 := hX1.tx hx
          refine wp_cv (A' := A150) (v := none) rfl rfl rfl rfl rfl (show _ from h147.1) (by omega) (g151) rfl ?_
          show am_wp d 141 (168, [some (.ref (b)), some (.int (Int32.ofNat (128 + mg_ct (mg_k M) i))), some (.int (Int32.ofNat (128 + (mg_B M))))], [], A150) _
          have hres : rd_bo cs n L i (decide (mg_k M i ≠ 6)) a M = (if sb_lk cs n (rd_sk cs n (sb_re 97 122 cs n (rd_sk cs n a))) = 123 then (if L = 3 then .error (rd_sk cs n (sb_re 97 122 cs n (rd_sk cs n a))) else .ok (.inr (rd_sk cs n (sb_re 97 122 cs n (rd_sk cs n a)) + 1, mg_addb M i (sb_pk cs (sb_re 97 122 cs n (rd_sk cs n a) - (rd_sk cs n a)) (rd_sk cs n a) 0)))) else .error (rd_sk cs n (sb_re 97 122 cs n (rd_sk cs n a)))) := by unfold rd_bo; rw [if_neg h8, hsel]
          rw [hres]
          obtain ⟨z, z1, z2⟩ := mb_to (d := d) (n := n) (p := sb_re 97 122 cs n (rd_sk cs n a)) (se := sb_pk cs (sb_re 97 122 cs n (rd_sk cs n a) - (rd_sk cs n a)) (rd_sk cs n a) 0) (s := s) (by omega) hx1 (by omega) hl h6 (by omega) (by omega) hI (by rw [ht1, rm_ln_j (by decide) (by decide)]; simp only [rf_u_if]; simp) (by rw [ht1, rm_ln_j (by decide) (by decide), rm_ln_j (by decide) (by decide)]; simp only [rf_u_if]; simp; exact Or.inr ⟨_, _, hsw, hsp, rfl, rfl⟩) (by rw [ht1, rm_ln_j (by decide) (by decide)]; simp only [rf_u_if]; simp) (by rw [ht1, rm_ln_ne rm_lk_new]; simp only [rf_u_if]; simp) (fun j q z => by rw [ht1]; exact rm_ln_eq z) (fun j q z1 z2 z3 => by rw [ht1, rm_ln_ne z3, rf_u_ne (by omega), rf_u_ne (by omega), rf_u_ne (by omega), rf_u_ne (by omega), rf_u_ne (by omega)]) h152
          exact ⟨z, z1, z2.tr (rm_X.refl s) f154⟩
      · skip
        rw [ne_eq, i32_eq (by omega) (by omega)] at h84
        replace h84 := Decidable.not_not.mp h84
        refine wp_st 2 (f' := (105, [some (.ref (b)), some (.int (Int32.ofNat (128 + mg_ct (mg_k M) i))), some (.int (Int32.ofNat (128 + (mg_B M))))], [.int (Int32.ofNat 1), .int (Int32.ofNat (128 + (mg_B M))), .ref (b + 11)], A9)) rfl ?_
        refine rw_as (j := 13) (n := 128 + (mg_B M)) (v := .int (sb_i true)) h10 rfl rfl rfl (Or.inr (Or.inr ⟨rfl, rfl, rfl⟩)) (show _ < 192 from by omega) (sb_narrow_z true) rfl (fun A155 h156 f157 => ?_)
        have f158 := f12.trans f157
        rw [rf_c_u (by decide)] at h156
        refine wp_st 1 (f' := (107, [some (.ref (b)), some (.int (Int32.ofNat (128 + mg_ct (mg_k M) i))), some (.int (Int32.ofNat (128 + (mg_B M))))], [.ref (b)], A155)) rfl ?_
        refine rw_gr h156 rfl rfl rfl rfl rfl rfl ?_
        refine wp_st 1 (f' := (111, [some (.ref (b)), some (.int (Int32.ofNat (128 + mg_ct (mg_k M) i))), some (.int (Int32.ofNat (128 + (mg_B M))))], [.int (Int32.ofNat (128 + (mg_B M))), .ref (b + 11)], A155)) rfl ?_
        refine rw_al (j := 13) (n := 128 + (mg_B M)) (v := .int (Int32.ofNat 1)) h156 rfl rfl rfl (Or.inr (Or.inr (Or.inr (Or.inl ⟨rfl, rfl⟩)))) rfl (show _ < 192 from by omega) (by rw [rf_c_ne (by decide), rf_u_eq]; rfl) rfl ?_
        refine wp_izF rfl rfl (show ¬ ((Int32.ofNat 1) = (Int32.ofNat 0)) from by decide) ?_
        refine wp_st 2 (f' := (117, [some (.ref (b)), some (.int (Int32.ofNat (128 + mg_ct (mg_k M) i))), some (.int (Int32.ofNat (128 + (mg_B M))))], [.ref (b), .ref (b)], A155)) rfl ?_
        refine rw_gf (v := .int (Int32.ofNat (rd_sk cs n a))) h156 rfl rfl rfl rfl (rfl) rfl ?_
        refine wp_st 2 (f' := (122, [some (.ref (b)), some (.int (Int32.ofNat (128 + mg_ct (mg_k M) i))), some (.int (Int32.ofNat (128 + (mg_B M))))], [.int ((Int32.ofNat (rd_sk cs n a)) + (Int32.ofNat 1)), .ref (b)], A155)) rfl ?_
        rw [i32_add (rd_sk cs n a) (1)]
        refine rw_pf (v := .int (Int32.ofNat (rd_sk cs n a + 1))) h156 rfl rfl rfl rfl rfl rfl (fun A159 h160 f161 => ?_)
        have f162 := f158.trans f161
        rw [rf_c17] at h160
        refine wp_st 1 (f' := (126, [some (.ref (b)), some (.int (Int32.ofNat (128 + mg_ct (mg_k M) i))), some (.int (Int32.ofNat (128 + (mg_B M))))], [.ref (b)], A159)) rfl ?_
        rcases u163 : rd_num cs n 4 (rd_sk cs n a + 1) with e164 | ⟨x165, v166⟩
        · skip
          have hsel : rd_sel cs n (decide (mg_k M i ≠ 6)) (rd_sk cs n a) = .error e164 := by unfold rd_sel; rw [if_pos ⟨decide_eq_true hk6, h84⟩, u163]
          have hpos : rd_sk cs n a < n := sb_lk_pos (cs := cs) (by omega)
          have u163l := rd_num_er (by omega) u163
          have u163k := sb_re_le (lo := 48) (hi := 57) (cs := cs) (n := n) (a := rd_sk cs n a + 1)
          have u163j := u163k.2.1 (by omega)
          obtain ⟨A167, g168, h169, f170⟩ := (show rf_go _ _ _ _ _ _ (rf_c (rf_u (rf_u s 21 0 (.int (Int32.ofNat (mg_B M + 1)))) 13 (128 + (mg_B M)) (.int (sb_i true))) (sb_re 48 57 cs n (rd_sk cs n a + 1)) (Int32.ofNat e164) (rf_nr cs (rd_sk cs n a + 1) (sb_re 48 57 cs n (rd_sk cs n a + 1) - (rd_sk cs n a + 1))) (rd_sk cs n a + 1)) from by have q := rr_dig (d := d - 1) (by omega) (by omega) (show rf_tx (rf_u (rf_u s 21 0 (.int (Int32.ofNat (mg_B M + 1)))) 13 (128 + (mg_B M)) (.int (sb_i true))) cs n from hx) h160; rw [rf_dig_er u163] at q; exact q)
          have f171 := f162.trans f170
          refine wp_cv (A' := A167) (v := none) rfl rfl rfl rfl rfl (show _ from h160.1) (by omega) (g168) rfl ?_
          show am_wp d 141 (129, [some (.ref (b)), some (.int (Int32.ofNat (128 + mg_ct (mg_k M) i))), some (.int (Int32.ofNat (128 + (mg_B M))))], [], A167) _
          refine wp_st 2 (f' := (139, [some (.ref (b)), some (.int (Int32.ofNat (128 + mg_ct (mg_k M) i))), some (.int (Int32.ofNat (128 + (mg_B M))))], [.ref (b)], A167)) rfl ?_
          refine rw_gr h169 rfl rfl rfl rfl rfl rfl ?_
          refine wp_st 2 (f' := (144, [some (.ref (b)), some (.int (Int32.ofNat (128 + mg_ct (mg_k M) i))), some (.int (Int32.ofNat (128 + (mg_B M))))], [.ref (b), .int (Int32.ofNat (128 + (mg_B M))), .ref (b + 12)], A167)) rfl ?_
          refine rw_gf (v := .long (rf_nr cs (rd_sk cs n a + 1) (sb_re 48 57 cs n (rd_sk cs n a + 1) - (rd_sk cs n a + 1)))) h169 rfl rfl rfl rfl (rfl) rfl ?_
          refine rw_ls (j := 14) (n := 128 + (mg_B M)) h169 rfl rfl rfl rfl (show _ < 192 from by omega) rfl (fun A172 h173 f174 => ?_)
          have f175 := f171.trans f174
          rw [rf_c_u (by decide)] at h173
          refine wp_st 1 (f' := (149, [some (.ref (b)), some (.int (Int32.ofNat (128 + mg_ct (mg_k M) i))), some (.int (Int32.ofNat (128 + (mg_B M))))], [.ref (b)], A172)) rfl ?_
          refine rw_gr h173 rfl rfl rfl rfl rfl rfl ?_
          refine wp_st 2 (f' := (154, [some (.ref (b)), some (.int (Int32.ofNat (128 + mg_ct (mg_k M) i))), some (.int (Int32.ofNat (128 + (mg_B M))))], [.int ((-1)), .int (Int32.ofNat (128 + (mg_B M))), .ref (b + 13)], A172)) rfl ?_
          refine rw_as (j := 15) (n := 128 + (mg_B M)) (v := .int ((-1))) h173 rfl rfl rfl (Or.inl ⟨rfl, rfl, rfl⟩) (show _ < 192 from by omega) rfl rfl (fun A176 h177 f178 => ?_)
          have f179 := f175.trans f178
          rw [rf_c_u (by decide)] at h177
          refine wp_st 1 (f' := (156, [some (.ref (b)), some (.int (Int32.ofNat (128 + mg_ct (mg_k M) i))), some (.int (Int32.ofNat (128 + (mg_B M))))], [.ref (b)], A176)) rfl ?_
          refine rw_gr h177 rfl rfl rfl rfl rfl rfl ?_
          refine wp_st 2 (f' := (161, [some (.ref (b)), some (.int (Int32.ofNat (128 + mg_ct (mg_k M) i))), some (.int (Int32.ofNat (128 + (mg_B M))))], [.int ((-1)), .int (Int32.ofNat (128 + (mg_B M))), .ref (b + 14)], A176)) rfl ?_
          refine rw_as (j := 16) (n := 128 + (mg_B M)) (v := .int ((-1))) h177 rfl rfl rfl (Or.inl ⟨rfl, rfl, rfl⟩) (show _ < 192 from by omega) rfl rfl (fun A180 h181 f182 => ?_)
          have f183 := f179.trans f182
          rw [rf_c_u (by decide)] at h181
          refine wp_st 3 (f' := (165, [some (.ref (b)), some (.int (Int32.ofNat (128 + mg_ct (mg_k M) i))), some (.int (Int32.ofNat (128 + (mg_B M))))], [.int (Int32.ofNat (128 + (mg_B M))), .int (Int32.ofNat (128 + mg_ct (mg_k M) i)), .ref (b)], A180)) rfl ?_
          have hk0 : (rf_u (rf_u (rf_u (rf_u (rf_u s 21 0 (.int (Int32.ofNat (mg_B M + 1)))) 13 (128 + (mg_B M)) (.int (sb_i true))) 14 (128 + (mg_B M)) (.long (rf_nr cs (rd_sk cs n a + 1) (sb_re 48 57 cs n (rd_sk cs n a + 1) - (rd_sk cs n a + 1))))) 15 (128 + (mg_B M)) (.int ((-1)))) 16 (128 + (mg_B M)) (.int ((-1)))) 12 (128 + mg_ct (mg_k M) i) = rm_e 128 (mg_bo (mg_w M) i (mg_B M) 0) := by rw [rf_u_ne (by omega), rf_u_ne (by omega), rf_u_ne (by omega), rf_u_ne (by omega), rf_u_ne (by omega)]; exact hch0
          have hkc : ∀ c, c < mg_B M → mg_w M c = i → (rf_u (rf_u (rf_u (rf_u (rf_u s 21 0 (.int (Int32.ofNat (mg_B M + 1)))) 13 (128 + (mg_B M)) (.int (sb_i true))) 14 (128 + (mg_B M)) (.long (rf_nr cs (rd_sk cs n a + 1) (sb_re 48 57 cs n (rd_sk cs n a + 1) - (rd_sk cs n a + 1))))) 15 (128 + (mg_B M)) (.int ((-1)))) 16 (128 + (mg_B M)) (.int ((-1)))) 16 (128 + c) = rm_e 128 (mg_bo (mg_w M) i (mg_B M - (c + 1)) (c + 1)) := fun c z1 z2 => by rw [rf_u_ne (by omega), rf_u_ne (by omega), rf_u_ne (by omega), rf_u_ne (by omega), rf_u_ne (by omega)]; have z3 := (hchc c z1 z2).2; rw [z2] at z3; exact z3
          obtain ⟨A184, g185, h186, f187⟩ := (show rf_go _ _ _ _ _ _ (rf_c (rm_ln (rf_u (rf_u (rf_u (rf_u (rf_u s 21 0 (.int (Int32.ofNat (mg_B M + 1)))) 13 (128 + (mg_B M)) (.int (sb_i true))) 14 (128 + (mg_B M)) (.long (rf_nr cs (rd_sk cs n a + 1) (sb_re 48 57 cs n (rd_sk cs n a + 1) - (rd_sk cs n a + 1))))) 15 (128 + (mg_B M)) (.int ((-1)))) 16 (128 + (mg_B M)) (.int ((-1)))) (mg_bl (mg_w M) i (mg_B M)) (mg_ct (mg_k M) i) (.int (Int32.ofNat (128 + mg_B M)))) (sb_re 48 57 cs n (rd_sk cs n a + 1)) (Int32.ofNat e164) (rf_nr cs (rd_sk cs n a + 1) (sb_re 48 57 cs n (rd_sk cs n a + 1) - (rd_sk cs n a + 1))) (rd_sk cs n a + 1)) from rn_link (d := d - 1) (x := Int32.ofNat (128 + mg_B M)) (by omega) (by omega) hk0 hkc h181)
          have f188 := f183.trans f187
          obtain ⟨t1, ht1⟩ : ∃ t, t = rm_ln (rf_u (rf_u (rf_u (rf_u (rf_u s 21 0 (.int (Int32.ofNat (mg_B M + 1)))) 13 (128 + (mg_B M)) (.int (sb_i true))) 14 (128 + (mg_B M)) (.long (rf_nr cs (rd_sk cs n a + 1) (sb_re 48 57 cs n (rd_sk cs n a + 1) - (rd_sk cs n a + 1))))) 15 (128 + (mg_B M)) (.int ((-1)))) 16 (128 + (mg_B M)) (.int ((-1)))) (mg_bl (mg_w M) i (mg_B M)) (mg_ct (mg_k M) i) (.int (Int32.ofNat (128 + mg_B M))) := ⟨_, rfl⟩
          rw [← ht1] at h186
          have hX1 : rm_X s t1 := by rw [ht1]; exact rm_ln_X (((((((rm_X.refl s).u (by unfold rm_sc; omega)).u (by unfold rm_sc; omega)).u (by unfold rm_sc; omega)).u (by unfold rm_sc; omega)).u (by unfold rm_sc; omega)))
          have hx1 := hX1.tx hx
          refine wp_cv (A' := A184) (v := none) rfl rfl rfl rfl rfl (show _ from h181.1) (by omega) (g185) rfl ?_
          show am_wp d 141 (168, [some (.ref (b)), some (.int (Int32.ofNat (128 + mg_ct (mg_k M) i))), some (.int (Int32.ofNat (128 + (mg_B M))))], [], A184) _
          have hres : rd_bo cs n L i (decide (mg_k M i ≠ 6)) a M = .error (e164) := by unfold rd_bo; rw [if_neg h8, hsel]
          rw [hres]
          have h22 : t1 22 0 = .int (Int32.ofNat L) := by rw [ht1, rm_ln_j (by decide) (by decide), rf_u_ne (by omega), rf_u_ne (by omega), rf_u_ne (by omega), rf_u_ne (by omega), rf_u_ne (by omega)]; exact hI.s22
          obtain ⟨z, z1, z2, z3⟩ := mb_te (d := d) (n := n) (p := sb_re 48 57 cs n (rd_sk cs n a + 1)) (e := e164) (z1 := Int32.ofNat (128 + mg_ct (mg_k M) i)) (z2 := Int32.ofNat (128 + mg_B M)) (by omega) hx1 h22 hL3 (by omega) (by omega) h186
          exact ⟨z, z1, z2, z3.tr hX1 f188⟩
        · skip
          have hpos : rd_sk cs n a < n := sb_lk_pos (cs := cs) (by omega)
          have hsel : rd_sel cs n (decide (mg_k M i ≠ 6)) (rd_sk cs n a) = .ok (x165, rd_ex v166) := by unfold rd_sel; rw [if_pos ⟨decide_eq_true hk6, h84⟩, u163]
          have u163l := rd_num_le (by omega) u163
          have u163v := rd_num_v (by omega) (by omega) u163
          obtain ⟨u1631, u1632, u1633⟩ := rf_dig_ok (by omega) u163
          obtain ⟨A189, g190, h191, f192⟩ := (show rf_go _ _ _ _ _ _ (rf_c (rf_u (rf_u s 21 0 (.int (Int32.ofNat (mg_B M + 1)))) 13 (128 + (mg_B M)) (.int (sb_i true))) x165 (-1) (Int64.ofNat v166) (rd_sk cs n a + 1)) from by have q := rr_dig (d := d - 1) (by omega) (by omega) (show rf_tx (rf_u (rf_u s 21 0 (.int (Int32.ofNat (mg_B M + 1)))) 13 (128 + (mg_B M)) (.int (sb_i true))) cs n from hx) h160; rw [u1632, u1633, u1631] at q; exact q)
          have f193 := f162.trans f192
          refine wp_cv (A' := A189) (v := none) rfl rfl rfl rfl rfl (show _ from h160.1) (by omega) (g190) rfl ?_
          show am_wp d 141 (129, [some (.ref (b)), some (.int (Int32.ofNat (128 + mg_ct (mg_k M) i))), some (.int (Int32.ofNat (128 + (mg_B M))))], [], A189) _
          refine wp_st 2 (f' := (139, [some (.ref (b)), some (.int (Int32.ofNat (128 + mg_ct (mg_k M) i))), some (.int (Int32.ofNat (128 + (mg_B M))))], [.ref (b)], A189)) rfl ?_
          refine rw_gr h191 rfl rfl rfl rfl rfl rfl ?_
          refine wp_st 2 (f' := (144, [some (.ref (b)), some (.int (Int32.ofNat (128 + mg_ct (mg_k M) i))), some (.int (Int32.ofNat (128 + (mg_B M))))], [.ref (b), .int (Int32.ofNat (128 + (mg_B M))), .ref (b + 12)], A189)) rfl ?_
          refine rw_gf (v := .long (Int64.ofNat v166)) h191 rfl rfl rfl rfl (rfl) rfl ?_
          refine rw_ls (j := 14) (n := 128 + (mg_B M)) h191 rfl rfl rfl rfl (show _ < 192 from by omega) rfl (fun A194 h195 f196 => ?_)
          have f197 := f193.trans f196
          rw [rf_c_u (by decide)] at h195
          refine wp_st 1 (f' := (149, [some (.ref (b)), some (.int (Int32.ofNat (128 + mg_ct (mg_k M) i))), some (.int (Int32.ofNat (128 + (mg_B M))))], [.ref (b)], A194)) rfl ?_
          refine rw_gr h195 rfl rfl rfl rfl rfl rfl ?_
          refine wp_st 2 (f' := (154, [some (.ref (b)), some (.int (Int32.ofNat (128 + mg_ct (mg_k M) i))), some (.int (Int32.ofNat (128 + (mg_B M))))], [.int ((-1)), .int (Int32.ofNat (128 + (mg_B M))), .ref (b + 13)], A194)) rfl ?_
          refine rw_as (j := 15) (n := 128 + (mg_B M)) (v := .int ((-1))) h195 rfl rfl rfl (Or.inl ⟨rfl, rfl, rfl⟩) (show _ < 192 from by omega) rfl rfl (fun A198 h199 f200 => ?_)
          have f201 := f197.trans f200
          rw [rf_c_u (by decide)] at h199
          refine wp_st 1 (f' := (156, [some (.ref (b)), some (.int (Int32.ofNat (128 + mg_ct (mg_k M) i))), some (.int (Int32.ofNat (128 + (mg_B M))))], [.ref (b)], A198)) rfl ?_
          refine rw_gr h199 rfl rfl rfl rfl rfl rfl ?_
          refine wp_st 2 (f' := (161, [some (.ref (b)), some (.int (Int32.ofNat (128 + mg_ct (mg_k M) i))), some (.int (Int32.ofNat (128 + (mg_B M))))], [.int ((-1)), .int (Int32.ofNat (128 + (mg_B M))), .ref (b + 14)], A198)) rfl ?_
          refine rw_as (j := 16) (n := 128 + (mg_B M)) (v := .int ((-1))) h199 rfl rfl rfl (Or.inl ⟨rfl, rfl, rfl⟩) (show _ < 192 from by omega) rfl rfl (fun A202 h203 f204 => ?_)
          have f205 := f201.trans f204
          rw [rf_c_u (by decide)] at h203
          refine wp_st 3 (f' := (165, [some (.ref (b)), some (.int (Int32.ofNat (128 + mg_ct (mg_k M) i))), some (.int (Int32.ofNat (128 + (mg_B M))))], [.int (Int32.ofNat (128 + (mg_B M))), .int (Int32.ofNat (128 + mg_ct (mg_k M) i)), .ref (b)], A202)) rfl ?_
          have hk0 : (rf_u (rf_u (rf_u (rf_u (rf_u s 21 0 (.int (Int32.ofNat (mg_B M + 1)))) 13 (128 + (mg_B M)) (.int (sb_i true))) 14 (128 + (mg_B M)) (.long (Int64.ofNat v166))) 15 (128 + (mg_B M)) (.int ((-1)))) 16 (128 + (mg_B M)) (.int ((-1)))) 12 (128 + mg_ct (mg_k M) i) = rm_e 128 (mg_bo (mg_w M) i (mg_B M) 0) := by rw [rf_u_ne (by omega), rf_u_ne (by omega), rf_u_ne (by omega), rf_u_ne (by omega), rf_u_ne (by omega)]; exact hch0
          have hkc : ∀ c, c < mg_B M → mg_w M c = i → (rf_u (rf_u (rf_u (rf_u (rf_u s 21 0 (.int (Int32.ofNat (mg_B M + 1)))) 13 (128 + (mg_B M)) (.int (sb_i true))) 14 (128 + (mg_B M)) (.long (Int64.ofNat v166))) 15 (128 + (mg_B M)) (.int ((-1)))) 16 (128 + (mg_B M)) (.int ((-1)))) 16 (128 + c) = rm_e 128 (mg_bo (mg_w M) i (mg_B M - (c + 1)) (c + 1)) := fun c z1 z2 => by rw [rf_u_ne (by omega), rf_u_ne (by omega), rf_u_ne (by omega), rf_u_ne (by omega), rf_u_ne (by omega)]; have z3 := (hchc c z1 z2).2; rw [z2] at z3; exact z3
          obtain ⟨A206, g207, h208, f209⟩ := (show rf_go _ _ _ _ _ _ (rf_c (rm_ln (rf_u (rf_u (rf_u (rf_u (rf_u s 21 0 (.int (Int32.ofNat (mg_B M + 1)))) 13 (128 + (mg_B M)) (.int (sb_i true))) 14 (128 + (mg_B M)) (.long (Int64.ofNat v166))) 15 (128 + (mg_B M)) (.int ((-1)))) 16 (128 + (mg_B M)) (.int ((-1)))) (mg_bl (mg_w M) i (mg_B M)) (mg_ct (mg_k M) i) (.int (Int32.ofNat (128 + mg_B M)))) x165 (-1) (Int64.ofNat v166) (rd_sk cs n a + 1)) from rn_link (d := d - 1) (x := Int32.ofNat (128 + mg_B M)) (by omega) (by omega) hk0 hkc h203)
          have f210 := f205.trans f209
          obtain ⟨t1, ht1⟩ : ∃ t, t = rm_ln (rf_u (rf_u (rf_u (rf_u (rf_u s 21 0 (.int (Int32.ofNat (mg_B M + 1)))) 13 (128 + (mg_B M)) (.int (sb_i true))) 14 (128 + (mg_B M)) (.long (Int64.ofNat v166))) 15 (128 + (mg_B M)) (.int ((-1)))) 16 (128 + (mg_B M)) (.int ((-1)))) (mg_bl (mg_w M) i (mg_B M)) (mg_ct (mg_k M) i) (.int (Int32.ofNat (128 + mg_B M))) := ⟨_, rfl⟩
          rw [← ht1] at h208
          have hX1 : rm_X s t1 := by rw [ht1]; exact rm_ln_X (((((((rm_X.refl s).u (by unfold rm_sc; omega)).u (by unfold rm_sc; omega)).u (by unfold rm_sc; omega)).u (by unfold rm_sc; omega)).u (by unfold rm_sc; omega)))
          have hx1 := hX1.tx hx
          refine wp_cv (A' := A206) (v := none) rfl rfl rfl rfl rfl (show _ from h203.1) (by omega) (g207) rfl ?_
          show am_wp d 141 (168, [some (.ref (b)), some (.int (Int32.ofNat (128 + mg_ct (mg_k M) i))), some (.int (Int32.ofNat (128 + (mg_B M))))], [], A206) _
          have hres : rd_bo cs n L i (decide (mg_k M i ≠ 6)) a M = (if sb_lk cs n (rd_sk cs n (x165)) = 123 then (if L = 3 then .error (rd_sk cs n (x165)) else .ok (.inr (rd_sk cs n (x165) + 1, mg_addb M i (rd_ex v166)))) else .error (rd_sk cs n (x165))) := by unfold rd_bo; rw [if_neg h8, hsel]
          rw [hres]
          obtain ⟨z, z1, z2⟩ := mb_to (d := d) (n := n) (p := x165) (se := rd_ex v166) (s := s) (by omega) hx1 (by omega) hl h6 (by omega) (by omega) hI (by rw [ht1, rm_ln_j (by decide) (by decide)]; simp only [rf_u_if]; simp) (by rw [ht1, rm_ln_j (by decide) (by decide), rm_ln_j (by decide) (by decide)]; simp only [rf_u_if]; simp; exact Or.inl ⟨_, by omega, rfl, rfl, rfl⟩) (by rw [ht1, rm_ln_j (by decide) (by decide)]; simp only [rf_u_if]; simp) (by rw [ht1, rm_ln_ne rm_lk_new]; simp only [rf_u_if]; simp) (fun j q z => by rw [ht1]; exact rm_ln_eq z) (fun j q z1 z2 z3 => by rw [ht1, rm_ln_ne z3, rf_u_ne (by omega), rf_u_ne (by omega), rf_u_ne (by omega), rf_u_ne (by omega), rf_u_ne (by omega)]) h208
          exact ⟨z, z1, z2.tr (rm_X.refl s) f210⟩
  · skip
    rw [ne_eq, i32_eq (by omega) (by omega)] at h8
    replace h8 := Decidable.not_not.mp h8
    have h8p : rd_sk cs n a < n := sb_lk_pos (cs := cs) (by omega)
    refine wp_st 2 (f' := (27, [some (.ref (b)), some (.int (Int32.ofNat (128 + mg_ct (mg_k M) i))), none], [.int (Int32.ofNat (128 + mg_ct (mg_k M) i)), .ref (b)], A2)) rfl ?_
    rcases hbw : mg_bw M i sb_OTH (mg_B M) 0 with _ | b9
    · skip
      refine wp_cv (A' := A2) (v := some (.int (Int32.ofNat 0))) rfl rfl rfl rfl rfl (show _ from h4.1) (by omega) (by have e := rn_ho (d := d - 1) (i := i) (M := M) (by omega) (by omega) (by omega) hch0 hchc h4; rw [hbw] at e; exact e) rfl ?_
      show am_wp d 141 (30, [some (.ref (b)), some (.int (Int32.ofNat (128 + mg_ct (mg_k M) i))), none], [.int (Int32.ofNat 0)], A2) _
      refine wp_izF rfl rfl (show ¬ ((Int32.ofNat 0) ≠ (Int32.ofNat 0)) from by decide) ?_
      refine wp_st 2 (f' := (35, [some (.ref (b)), some (.int (Int32.ofNat (128 + mg_ct (mg_k M) i))), none], [.ref (b), .ref (b)], A2)) rfl ?_
      refine rw_gf (v := .int (Int32.ofNat (rd_sk cs n a))) h4 rfl rfl rfl rfl (rfl) rfl ?_
      obtain ⟨A211, g212, h213, f214⟩ := (show rf_go _ _ _ _ _ _ (rf_c s (rd_sk cs n a) (Int32.ofNat (rd_sk cs n a)) r g) from by have e := rr_fail (d := d - 1) (x := rd_sk cs n a) h4; rw [rf_w_m] at e; exact e)
      have f215 := f6.trans f214
      refine wp_cv (A' := A211) (v := none) rfl rfl rfl rfl rfl (show _ from h4.1) (by omega) (g212) rfl ?_
      show am_wp d 141 (41, [some (.ref (b)), some (.int (Int32.ofNat (128 + mg_ct (mg_k M) i))), none], [], A211) _
      refine wp_st 2 (f' := (43, [some (.ref (b)), some (.int (Int32.ofNat (128 + mg_ct (mg_k M) i))), none], [.ref (b), .ref (b)], A211)) rfl ?_
      refine rw_gf (v := .int (Int32.ofNat (rd_sk cs n a))) h213 rfl rfl rfl rfl (rfl) rfl ?_
      refine wp_st 2 (f' := (48, [some (.ref (b)), some (.int (Int32.ofNat (128 + mg_ct (mg_k M) i))), none], [.int ((Int32.ofNat (rd_sk cs n a)) + (Int32.ofNat 1)), .ref (b)], A211)) rfl ?_
      rw [i32_add (rd_sk cs n a) (1)]
      refine rw_pf (v := .int (Int32.ofNat (rd_sk cs n a + 1))) h213 rfl rfl rfl rfl rfl rfl (fun A216 h217 f218 => ?_)
      have f219 := f215.trans f218
      rw [rf_c17] at h217
      refine wp_rt rfl rfl rfl ?_
      have hres : rd_bo cs n L i (decide (mg_k M i ≠ 6)) a M = .error (rd_sk cs n a) := by unfold rd_bo; rw [if_pos h8, if_pos hbw]
      rw [hres]
      exact ⟨rfl, _, _, _, _, _, _, h217, hI.s22, by omega, by omega, Or.inl ⟨rfl, by omega⟩, rm_X.refl s, f219⟩
    · skip
      refine wp_cv (A' := A2) (v := some (.int (Int32.ofNat 1))) rfl rfl rfl rfl rfl (show _ from h4.1) (by omega) (by have e := rn_ho (d := d - 1) (i := i) (M := M) (by omega) (by omega) (by omega) hch0 hchc h4; rw [hbw] at e; exact e) rfl ?_
      show am_wp d 141 (30, [some (.ref (b)), some (.int (Int32.ofNat (128 + mg_ct (mg_k M) i))), none], [.int (Int32.ofNat 1)], A2) _
      refine wp_izT rfl rfl (show (Int32.ofNat 1) ≠ (Int32.ofNat 0) from by decide) ?_
      refine wp_st 2 (f' := (43, [some (.ref (b)), some (.int (Int32.ofNat (128 + mg_ct (mg_k M) i))), none], [.ref (b), .ref (b)], A2)) rfl ?_
      refine rw_gf (v := .int (Int32.ofNat (rd_sk cs n a))) h4 rfl rfl rfl rfl (rfl) rfl ?_
      refine wp_st 2 (f' := (48, [some (.ref (b)), some (.int (Int32.ofNat (128 + mg_ct (mg_k M) i))), none], [.int ((Int32.ofNat (rd_sk cs n a)) + (Int32.ofNat 1)), .ref (b)], A2)) rfl ?_
      rw [i32_add (rd_sk cs n a) (1)]
      refine rw_pf (v := .int (Int32.ofNat (rd_sk cs n a + 1))) h4 rfl rfl rfl rfl rfl rfl (fun A220 h221 f222 => ?_)
      have f223 := f6.trans f222
      rw [rf_c17] at h221
      refine wp_rt rfl rfl rfl ?_
      have hres : rd_bo cs n L i (decide (mg_k M i ≠ 6)) a M = .ok (.inl (rd_sk cs n a + 1, mg_cla M i)) := by unfold rd_bo; rw [if_pos h8, if_neg (by rw [hbw]; simp)]
      rw [hres]
      have hcl := hI.cla hl (by rw [hbw]; simp)
      exact ⟨rfl, _, _, _, h221, hcl.1, hcl.2, rm_X.refl s, f223⟩
theorem mb_bof {d b n a g e : Nat} {z1 : Int32} {r : Int64} {cs : List Nat} {s : rf_S} {A : am_H} (hd : 2 ≤ d) (ha : a ≤ n + 20) (he : e ≤ n) (hx : rf_tx s cs n) (h : rf A b (rf_c s a (Int32.ofNat e) r g)) : rf_go d 141 [.ref b, .int z1] A b none (rf_c s (rd_sk cs n a) (Int32.ofNat e) r g) := by
  have hn1 := hx.2.2.1
  refine rf_of ?_
  refine wp_st 1 (f' := (1, [some (.ref (b)), some (.int (z1)), none], [.ref (b)], A)) rfl ?_
  have k1 := rd_sk_gt (cs := cs) (n := n) (a := a)
  obtain ⟨A2, g3, h4, f5⟩ := (show rf_go (d - 1) 129 [.ref b] A b none (rf_c s (rd_sk cs n a) (Int32.ofNat e) r g) from rr_spaces (d := d - 1) (by omega) (by omega) (show rf_tx (s) cs n from hx) h)
  have f6 := (sb_fr.refl A b (b + 38)).trans f5
  refine wp_cv (A' := A2) (v := none) rfl rfl rfl rfl rfl (show _ from h.1) (by omega) (g3) rfl ?_
  show am_wp d 141 (4, [some (.ref (b)), some (.int (z1)), none], [], A2) _
  refine wp_st 1 (f' := (5, [some (.ref (b)), some (.int (z1)), none], [.ref (b)], A2)) rfl ?_
  refine rw_gf (v := .int (Int32.ofNat e)) h4 rfl rfl rfl rfl (rfl) rfl ?_
  refine wp_izF rfl rfl (show ¬ ((Int32.ofNat e) < Int32.ofNat 0) from Int32.ofNat_not_neg (by omega)) ?_
  refine wp_rt rfl rfl rfl ?_
  exact ⟨rfl, h4, f6⟩
