/-! Writer. -/
theorem wi_bare {d r m v q s0 s1 u n : Nat} {M : mg} {z len : Bool} {rs : List Nat} {xs : List sb_vt} {S0 S1 : rg} {w : List Nat} {A : am_H} {x : Int32} (hd : 2 ≤ d) (h : wr_I A r m v q s0 s1 u M z rs xs n S0 S1 len w) : am_wp d 113 (0, am_ent 113 [.ref r, .int x], [], A) (wr_Q A r m v q s0 s1 u M z rs xs n S0 S1 len w (wr_bare x w)) := by
  have hlw := h.lenw
  refine wp_st 1 (f' := (1, [some (.ref (r)), some (.int (x)), none], [.ref (r)], A)) rfl ?_
  refine wp_gf rfl rfl h.rc rfl rfl ?_
  refine wp_st 1 (f' := (6, [some (.ref (r)), some (.int (x)), none], [.int (Int32.ofNat 123), .ref (u)], A)) rfl ?_
  rcases hp6 : wr_put w ([123]) with c6 | y6
  · skip
    obtain rfl := wr_put_er hp6
    obtain ⟨w5, A1, p6, c7, g2, h3, f4⟩ := wr_Q0 (wr_w h (op_put (d := d - 1) (by omega) h.O)) hp6
    have f8 := (wr_F.refl A s0 s1 u).trans f4
    have p9 : 3 ≠ 3 → w <+: w5 := fun e => (List.prefix_refl w).trans (p6 e)
    refine wp_cv (A' := A1) (v := some (.int (Int32.ofNat 3))) rfl rfl rfl rfl rfl h.oc (by omega) (g2) rfl ?_
    show am_wp d 113 (9, [some (.ref (r)), some (.int (x)), none], [.int (Int32.ofNat 3)], A1) _
    refine wp_st 2 (f' := (11, [some (.ref (r)), some (.int (x)), some (.int (Int32.ofNat 3))], [.int (Int32.ofNat 3)], A1)) rfl ?_
    refine wp_izT rfl rfl (show (Int32.ofNat 3) ≠ (Int32.ofNat 0) from by decide) ?_
    refine wp_st 1 (f' := (26, [some (.ref (r)), some (.int (x)), some (.int (Int32.ofNat 3))], [.int (Int32.ofNat 3)], A1)) rfl ?_
    refine wp_izT rfl rfl (show (Int32.ofNat 3) ≠ (Int32.ofNat 0) from by decide) ?_
    refine wp_st 1 (f' := (42, [some (.ref (r)), some (.int (x)), some (.int (Int32.ofNat 3))], [.int (Int32.ofNat 3)], A1)) rfl ?_
    refine wp_rt rfl rfl rfl ?_
    have hres : wr_bare x w = .error 3 := by simp [wr_bare, hp6]
    rw [hres]
    exact wr_Q_er (by omega) p9 h3 f8
  · skip
    obtain ⟨A10, g11, h12, f13⟩ := wr_Q1 (wr_w h (op_put (d := d - 1) (by omega) h.O)) hp6
    have f14 := (wr_F.refl A s0 s1 u).trans f13
    have p15 := (List.prefix_refl w).trans (wr_put_ok hp6)
    refine wp_cv (A' := A10) (v := some (.int (Int32.ofNat 0))) rfl rfl rfl rfl rfl h.oc (by omega) (g11) rfl ?_
    show am_wp d 113 (9, [some (.ref (r)), some (.int (x)), none], [.int (Int32.ofNat 0)], A10) _
    refine wp_st 2 (f' := (11, [some (.ref (r)), some (.int (x)), some (.int (Int32.ofNat 0))], [.int (Int32.ofNat 0)], A10)) rfl ?_
    refine wp_izF rfl rfl (show ¬ ((Int32.ofNat 0) ≠ (Int32.ofNat 0)) from by decide) ?_
    refine wp_st 1 (f' := (15, [some (.ref (r)), some (.int (x)), some (.int (Int32.ofNat 0))], [.ref (r)], A10)) rfl ?_
    refine wp_gf rfl rfl h12.rc rfl rfl ?_
    refine wp_st 3 (f' := (21, [some (.ref (r)), some (.int (x)), some (.int (Int32.ofNat 0))], [.int (Int32.ofNat 0), .long (x.toInt64), .ref (u)], A10)) rfl ?_
    rcases hk21 : wr_put y6 (sb_pt x.toInt64 false 4) with c21 | y21
    · skip
      obtain rfl := wr_put_er hk21
      obtain ⟨w20, A16, p21, c22, g17, h18, f19⟩ := wr_Q0 (wr_w h12 (op_pk (d := d - 1) (up := false) (by omega) h12.O)) hk21
      have f23 := f14.trans f19
      have p24 : 3 ≠ 3 → w <+: w20 := fun e => p15.trans (p21 e)
      refine wp_cv (A' := A16) (v := some (.int (Int32.ofNat 3))) rfl rfl rfl rfl rfl h12.oc (by omega) (g17) rfl ?_
      show am_wp d 113 (24, [some (.ref (r)), some (.int (x)), some (.int (Int32.ofNat 0))], [.int (Int32.ofNat 3)], A16) _
      refine wp_st 2 (f' := (26, [some (.ref (r)), some (.int (x)), some (.int (Int32.ofNat 3))], [.int (Int32.ofNat 3)], A16)) rfl ?_
      refine wp_izT rfl rfl (show (Int32.ofNat 3) ≠ (Int32.ofNat 0) from by decide) ?_
      refine wp_st 1 (f' := (42, [some (.ref (r)), some (.int (x)), some (.int (Int32.ofNat 3))], [.int (Int32.ofNat 3)], A16)) rfl ?_
      refine wp_rt rfl rfl rfl ?_
      have hres : wr_bare x w = .error 3 := by simp [wr_bare, hp6, hk21]
      rw [hres]
      exact wr_Q_er (by omega) p24 h18 f23
    · skip
      obtain ⟨A25, g26, h27, f28⟩ := wr_Q1 (wr_w h12 (op_pk (d := d - 1) (up := false) (by omega) h12.O)) hk21
      have f29 := f14.trans f28
      have p30 := p15.trans (wr_put_ok hk21)
      refine wp_cv (A' := A25) (v := some (.int (Int32.ofNat 0))) rfl rfl rfl rfl rfl h12.oc (by omega) (g26) rfl ?_
      show am_wp d 113 (24, [some (.ref (r)), some (.int (x)), some (.int (Int32.ofNat 0))], [.int (Int32.ofNat 0)], A25) _
      refine wp_st 2 (f' := (26, [some (.ref (r)), some (.int (x)), some (.int (Int32.ofNat 0))], [.int (Int32.ofNat 0)], A25)) rfl ?_
      refine wp_izF rfl rfl (show ¬ ((Int32.ofNat 0) ≠ (Int32.ofNat 0)) from by decide) ?_
      refine wp_st 1 (f' := (30, [some (.ref (r)), some (.int (x)), some (.int (Int32.ofNat 0))], [.ref (r)], A25)) rfl ?_
      refine wp_gf rfl rfl h27.rc rfl rfl ?_
      refine wp_st 1 (f' := (35, [some (.ref (r)), some (.int (x)), some (.int (Int32.ofNat 0))], [.int (Int32.ofNat 125), .ref (u)], A25)) rfl ?_
      rcases hp35 : wr_put y21 ([125]) with c35 | y35
      · skip
        obtain rfl := wr_put_er hp35
        obtain ⟨w35, A31, p36, c37, g32, h33, f34⟩ := wr_Q0 (wr_w h27 (op_put (d := d - 1) (by omega) h27.O)) hp35
        have f38 := f29.trans f34
        have p39 : 3 ≠ 3 → w <+: w35 := fun e => p30.trans (p36 e)
        refine wp_cv (A' := A31) (v := some (.int (Int32.ofNat 3))) rfl rfl rfl rfl rfl h27.oc (by omega) (g32) rfl ?_
        show am_wp d 113 (38, [some (.ref (r)), some (.int (x)), some (.int (Int32.ofNat 0))], [.int (Int32.ofNat 3)], A31) _
        refine wp_st 1 (f' := (42, [some (.ref (r)), some (.int (x)), some (.int (Int32.ofNat 0))], [.int (Int32.ofNat 3)], A31)) rfl ?_
        refine wp_rt rfl rfl rfl ?_
        have hres : wr_bare x w = .error 3 := by simp [wr_bare, hp6, hk21, hp35]
        rw [hres]
        exact wr_Q_er (by omega) p39 h33 f38
      · skip
        obtain ⟨A40, g41, h42, f43⟩ := wr_Q1 (wr_w h27 (op_put (d := d - 1) (by omega) h27.O)) hp35
        have f44 := f29.trans f43
        have p45 := p30.trans (wr_put_ok hp35)
        refine wp_cv (A' := A40) (v := some (.int (Int32.ofNat 0))) rfl rfl rfl rfl rfl h27.oc (by omega) (g41) rfl ?_
        show am_wp d 113 (38, [some (.ref (r)), some (.int (x)), some (.int (Int32.ofNat 0))], [.int (Int32.ofNat 0)], A40) _
        refine wp_st 1 (f' := (42, [some (.ref (r)), some (.int (x)), some (.int (Int32.ofNat 0))], [.int (Int32.ofNat 0)], A40)) rfl ?_
        refine wp_rt rfl rfl rfl ?_
        have hres : wr_bare x w = .ok y35 := by simp [wr_bare, hp6, hk21, hp35]
        rw [hres]
        exact wr_Q_ok h42 f44
/-- a branch is written one level below -/
def wr_in (D0 l r m v q s0 s1 u : Nat) (M : mg) (z : Bool) (rs : List Nat) (xs : List sb_vt) (n : Nat) (S0 S1 : rg) (len : Bool) (inner : wr_i) : Prop := (inner = none → 3 ≤ l) ∧ ∀ f, inner = some f → l < 3 ∧ ∀ (d i e k : Nat) (y : Int) (w : List Nat) (A : am_H), D0 ≤ d → i ≤ 120 → e ≤ 120 → k ≤ 6 → y.natAbs < 9223372036854775808 → wr_I A r m v q s0 s1 u M z rs xs n S0 S1 len w → am_wp d 101 (0, am_ent 101 [.ref r, .int (Int32.ofNat i), .int (Int32.ofNat e), .int (Int32.ofNat (l + 1)), .long (Int64.ofInt y), .int (Int32.ofNat k)], [], A) (wr_Q A r m v q s0 s1 u M z rs xs n S0 S1 len w (f i e y k w))
theorem wi_br {d r m v q s0 s1 u n : Nat} {M : mg} {z len : Bool} {rs : List Nat} {xs : List sb_vt} {S0 S1 : rg} {w : List Nat} {A : am_H} {D0 l : Nat} {inner : wr_i} {b : Option Nat} {y : Int} {k : Nat} (hd : 1 ≤ d) (hd0 : D0 + 1 ≤ d) (hl : l ≤ 3) (hk : k ≤ 6) (hy : y.natAbs < 9223372036854775808) (hb : ∀ j, b = some j → j < mg_B M) (hin : wr_in D0 l r m v q s0 s1 u M z rs xs n S0 S1 len inner) (hwf : mg_wf M) (h : wr_I A r m v q s0 s1 u M z rs xs n S0 S1 len w) : am_wp d 109 (0, am_ent 109 [.ref r, .int (mg_bi b), .int (Int32.ofNat l), .long (Int64.ofInt y), .int (Int32.ofNat k)], [], A) (wr_Q A r m v q s0 s1 u M z rs xs n S0 S1 len w (wr_br M inner b y k w)) := by
  have hlw := h.lenw
  rcases b with _ | b0
  · skip
    refine wp_st 1 (f' := (1, [some (.ref (r)), some (.int ((-1))), some (.int (Int32.ofNat l)), some (.long (Int64.ofInt y)), none, some (.int (Int32.ofNat k)), none, none], [.int ((-1))], A)) rfl ?_
    refine wp_izT rfl rfl (show (-1 : Int32) < (Int32.ofNat 0) from by decide) ?_
    refine wp_st 1 (f' := (21, [some (.ref (r)), some (.int ((-1))), some (.int (Int32.ofNat l)), some (.long (Int64.ofInt y)), none, some (.int (Int32.ofNat k)), none, none], [.int (Int32.ofNat 0)], A)) rfl ?_
    refine wp_rt rfl rfl rfl ?_
    have hres : wr_br M inner none y k w = .ok w := by simp [wr_br]
    rw [hres]
    exact wr_Q_ok h (wr_F.refl A s0 s1 u)
  · have hb0 := hb b0 rfl
    have hwb := hwf.2 b0 hb0
    rcases inner with _ | f0
    · have hl3 := hin.1 rfl
      refine wp_st 1 (f' := (1, [some (.ref (r)), some (.int (Int32.ofNat b0)), some (.int (Int32.ofNat l)), some (.long (Int64.ofInt y)), none, some (.int (Int32.ofNat k)), none, none], [.int (Int32.ofNat b0)], A)) rfl ?_
      refine wp_izF rfl rfl (Int32.ofNat_not_neg (by omega)) ?_
      refine wp_st 2 (f' := (6, [some (.ref (r)), some (.int (Int32.ofNat b0)), some (.int (Int32.ofNat l)), some (.long (Int64.ofInt y)), none, some (.int (Int32.ofNat k)), none, none], [.ref (r), .int (Int32.ofNat b0)], A)) rfl ?_
      refine wp_gf rfl rfl h.rc rfl rfl ?_
      refine wp_gf rfl rfl h.mc rfl rfl ?_
      refine wp_ifF rfl rfl (fun q => absurd ((i32_le (a := mg_B M) (b := b0) (by omega) (by omega)).mp q) (by omega)) ?_
      refine wp_st 2 (f' := (17, [some (.ref (r)), some (.int (Int32.ofNat b0)), some (.int (Int32.ofNat l)), some (.long (Int64.ofInt y)), none, some (.int (Int32.ofNat k)), none, none], [.int (Int32.ofNat 3), .int (Int32.ofNat l)], A)) rfl ?_
      refine wp_ifF rfl rfl (fun q => absurd ((i32_lt (a := l) (b := 3) (by omega) (by omega)).mp q) (by omega)) ?_
      refine wp_st 1 (f' := (21, [some (.ref (r)), some (.int (Int32.ofNat b0)), some (.int (Int32.ofNat l)), some (.long (Int64.ofInt y)), none, some (.int (Int32.ofNat k)), none, none], [.int (Int32.ofNat 0)], A)) rfl ?_
      refine wp_rt rfl rfl rfl ?_
      have hres : wr_br M none (some b0) y k w = .ok w := by simp [wr_br]
      rw [hres]
      exact wr_Q_ok h (wr_F.refl A s0 s1 u)
    · have hl3 := (hin.2 f0 rfl).1
      refine wp_st 1 (f' := (1, [some (.ref (r)), some (.int (Int32.ofNat b0)), some (.int (Int32.ofNat l)), some (.long (Int64.ofInt y)), none, some (.int (Int32.ofNat k)), none, none], [.int (Int32.ofNat b0)], A)) rfl ?_
      refine wp_izF rfl rfl (Int32.ofNat_not_neg (by omega)) ?_
      refine wp_st 2 (f' := (6, [some (.ref (r)), some (.int (Int32.ofNat b0)), some (.int (Int32.ofNat l)), some (.long (Int64.ofInt y)), none, some (.int (Int32.ofNat k)), none, none], [.ref (r), .int (Int32.ofNat b0)], A)) rfl ?_
      refine wp_gf rfl rfl h.rc rfl rfl ?_
      refine wp_gf rfl rfl h.mc rfl rfl ?_
      refine wp_ifF rfl rfl (fun q => absurd ((i32_le (a := mg_B M) (b := b0) (by omega) (by omega)).mp q) (by omega)) ?_
      refine wp_st 2 (f' := (17, [some (.ref (r)), some (.int (Int32.ofNat b0)), some (.int (Int32.ofNat l)), some (.long (Int64.ofInt y)), none, some (.int (Int32.ofNat k)), none, none], [.int (Int32.ofNat 3), .int (Int32.ofNat l)], A)) rfl ?_
      refine wp_ifT rfl rfl ((i32_lt (a := l) (b := 3) (by omega) (by omega)).mpr (by omega)) ?_
      refine wp_st 1 (f' := (23, [some (.ref (r)), some (.int (Int32.ofNat b0)), some (.int (Int32.ofNat l)), some (.long (Int64.ofInt y)), none, some (.int (Int32.ofNat k)), none, none], [.ref (r)], A)) rfl ?_
      refine wp_gf rfl rfl h.rc rfl rfl ?_
      refine wp_gf rfl rfl h.mc rfl rfl ?_
      refine wp_st 1 (f' := (30, [some (.ref (r)), some (.int (Int32.ofNat b0)), some (.int (Int32.ofNat l)), some (.long (Int64.ofInt y)), none, some (.int (Int32.ofNat k)), none, none], [.int (Int32.ofNat b0), .ref (m + 7)], A)) rfl ?_
      refine wp_mga h.N rfl (by omega) rfl ?_
      refine wp_st 2 (f' := (34, [some (.ref (r)), some (.int (Int32.ofNat b0)), some (.int (Int32.ofNat l)), some (.long (Int64.ofInt y)), none, some (.int (Int32.ofNat k)), some (.int (Int32.ofNat (mg_a M b0))), none], [.ref (r)], A)) rfl ?_
      refine wp_gf rfl rfl h.rc rfl rfl ?_
      refine wp_gf rfl rfl h.mc rfl rfl ?_
      refine wp_st 1 (f' := (41, [some (.ref (r)), some (.int (Int32.ofNat b0)), some (.int (Int32.ofNat l)), some (.long (Int64.ofInt y)), none, some (.int (Int32.ofNat k)), some (.int (Int32.ofNat (mg_a M b0))), none], [.int (Int32.ofNat b0), .ref (m + 8)], A)) rfl ?_
      refine wp_mge h.N rfl (by omega) rfl ?_
      refine wp_st 7 (f' := (52, [some (.ref (r)), some (.int (Int32.ofNat b0)), some (.int (Int32.ofNat l)), some (.long (Int64.ofInt y)), none, some (.int (Int32.ofNat k)), some (.int (Int32.ofNat (mg_a M b0))), some (.int (Int32.ofNat (mg_e M b0)))], [.int ((Int32.ofNat l) + (Int32.ofNat 1)), .int (Int32.ofNat (mg_e M b0)), .int (Int32.ofNat (mg_a M b0)), .ref (r)], A)) rfl ?_
      rw [i32_add (l) (1)]
      refine wp_st 2 (f' := (55, [some (.ref (r)), some (.int (Int32.ofNat b0)), some (.int (Int32.ofNat l)), some (.long (Int64.ofInt y)), none, some (.int (Int32.ofNat k)), some (.int (Int32.ofNat (mg_a M b0))), some (.int (Int32.ofNat (mg_e M b0)))], [.int (Int32.ofNat k), .long (Int64.ofInt y), .int (Int32.ofNat (l + 1)), .int (Int32.ofNat (mg_e M b0)), .int (Int32.ofNat (mg_a M b0)), .ref (r)], A)) rfl ?_
      rcases hf : f0 (mg_a M b0) (mg_e M b0) y k w with c0 | w1
      · skip
        obtain ⟨w5, A1, p6, c7, g2, h3, f4⟩ := wr_Q0 ((hin.2 f0 rfl).2 (d - 1) _ _ k y w _ (by omega) hwb.1 hwb.2 hk hy h) hf
        have f8 := (wr_F.refl A s0 s1 u).trans f4
        have p9 : c0 ≠ 3 → w <+: w5 := fun e => (List.prefix_refl w).trans (p6 e)
        refine wp_cv (A' := A1) (v := some (.int (Int32.ofNat c0))) rfl rfl rfl rfl rfl h.rc (by omega) (g2) rfl ?_
        show am_wp d 109 (58, [some (.ref (r)), some (.int (Int32.ofNat b0)), some (.int (Int32.ofNat l)), some (.long (Int64.ofInt y)), none, some (.int (Int32.ofNat k)), some (.int (Int32.ofNat (mg_a M b0))), some (.int (Int32.ofNat (mg_e M b0)))], [.int (Int32.ofNat c0)], A1) _
        refine wp_rt rfl rfl rfl ?_
        have hres : wr_br M (some f0) (some b0) y k w = .error c0 := by simp [wr_br, hf]
        rw [hres]
        exact wr_Q_er c7 p9 h3 f8
      · skip
        obtain ⟨A10, g11, h12, f13⟩ := wr_Q1 ((hin.2 f0 rfl).2 (d - 1) _ _ k y w _ (by omega) hwb.1 hwb.2 hk hy h) hf
        have f14 := (wr_F.refl A s0 s1 u).trans f13
        refine wp_cv (A' := A10) (v := some (.int (Int32.ofNat 0))) rfl rfl rfl rfl rfl h.rc (by omega) (g11) rfl ?_
        show am_wp d 109 (58, [some (.ref (r)), some (.int (Int32.ofNat b0)), some (.int (Int32.ofNat l)), some (.long (Int64.ofInt y)), none, some (.int (Int32.ofNat k)), some (.int (Int32.ofNat (mg_a M b0))), some (.int (Int32.ofNat (mg_e M b0)))], [.int (Int32.ofNat 0)], A10) _
        refine wp_rt rfl rfl rfl ?_
        have hres : wr_br M (some f0) (some b0) y k w = .ok w1 := by simp [wr_br, hf]
        rw [hres]
        exact wr_Q_ok h12 f14
theorem wi_sel1 {d r m v q s0 s1 u n : Nat} {M : mg} {z len : Bool} {rs : List Nat} {xs : List sb_vt} {S0 S1 : rg} {w : List Nat} {A : am_H} {D0 l : Nat} {inner : wr_i} {i j : Nat} {nm sc : Int32} {c : Int64} (hd : 2 ≤ d) (hd0 : D0 + 2 ≤ d) (hl : l ≤ 3) (hi : i < mg_P M) (hj : j < 6) {p : Nat} (hxj : xs.getD j sb_v0 = (nm, true, Int64.ofNat p, sc)) (hin : wr_in D0 l r m v q s0 s1 u M z rs xs n S0 S1 len inner) (hwf : mg_wf M) (h : wr_I A r m v q s0 s1 u M z rs xs n S0 S1 len w) : am_wp d 108 (0, am_ent 108 [.ref r, .int (Int32.ofNat i), .ref (rs.getD j 0), .int (Int32.ofNat l)], [], A) (wr_Q A r m v q s0 s1 u M z rs xs n S0 S1 len w (wr_br M inner (wr_selb M i (.inl p)) 0 0 w)) := by
  have hlw := h.lenw
  refine wp_st 3 (f' := (4, [some (.ref (r)), some (.int (Int32.ofNat i)), some (.ref (rs.getD j 0)), some (.int (Int32.ofNat l)), some (.int ((-1)))], [.ref (rs.getD j 0)], A)) rfl ?_
  refine wp_gf rfl rfl (h.vc hj hxj) rfl rfl ?_
  refine wp_izF rfl rfl (show ¬ ((Int32.ofNat 1) = (Int32.ofNat 0)) from by decide) ?_
  refine wp_st 1 (f' := (11, [some (.ref (r)), some (.int (Int32.ofNat i)), some (.ref (rs.getD j 0)), some (.int (Int32.ofNat l)), some (.int ((-1)))], [.ref (r)], A)) rfl ?_
  refine wp_gf rfl rfl h.rc rfl rfl ?_
  refine wp_st 2 (f' := (16, [some (.ref (r)), some (.int (Int32.ofNat i)), some (.ref (rs.getD j 0)), some (.int (Int32.ofNat l)), some (.int ((-1)))], [.ref (rs.getD j 0), .int (Int32.ofNat i), .ref (m)], A)) rfl ?_
  refine wp_gf rfl rfl (h.vc hj hxj) rfl rfl ?_
  rcases ha : mg_bw M i (Int64.ofNat p) (mg_B M) 0 with _ | jha
  · skip
    refine wp_cv (A' := A) (v := some (.int ((-1)))) rfl rfl rfl rfl rfl h.mc (by omega) (by have q := mn_with (d := d - 1) (o := i) (s := Int64.ofNat p) (by omega) h.N; rw [ha] at q; exact q) rfl ?_
    show am_wp d 108 (22, [some (.ref (r)), some (.int (Int32.ofNat i)), some (.ref (rs.getD j 0)), some (.int (Int32.ofNat l)), some (.int ((-1)))], [.int ((-1))], A) _
    refine wp_st 3 (f' := (27, [some (.ref (r)), some (.int (Int32.ofNat i)), some (.ref (rs.getD j 0)), some (.int (Int32.ofNat l)), some (.int ((-1)))], [.int ((-1)), .int ((-1))], A)) rfl ?_
    refine wp_ifF rfl rfl (fun q => q rfl) ?_
    refine wp_st 1 (f' := (31, [some (.ref (r)), some (.int (Int32.ofNat i)), some (.ref (rs.getD j 0)), some (.int (Int32.ofNat l)), some (.int ((-1)))], [.ref (r)], A)) rfl ?_
    refine wp_gf rfl rfl h.rc rfl rfl ?_
    refine wp_st 2 (f' := (38, [some (.ref (r)), some (.int (Int32.ofNat i)), some (.ref (rs.getD j 0)), some (.int (Int32.ofNat l)), some (.int ((-1)))], [.long ((478694368626)), .int (Int32.ofNat i), .ref (m)], A)) rfl ?_
    rcases hb : mg_bw M i (sb_OTH) (mg_B M) 0 with _ | jhb
    · skip
      refine wp_cv (A' := A) (v := some (.int ((-1)))) rfl rfl rfl rfl rfl h.mc (by omega) (by have q := mn_with (d := d - 1) (o := i) (s := sb_OTH) (by omega) h.N; rw [hb] at q; exact q) rfl ?_
      show am_wp d 108 (41, [some (.ref (r)), some (.int (Int32.ofNat i)), some (.ref (rs.getD j 0)), some (.int (Int32.ofNat l)), some (.int ((-1)))], [.int ((-1))], A) _
      refine wp_st 6 (f' := (49, [some (.ref (r)), some (.int (Int32.ofNat i)), some (.ref (rs.getD j 0)), some (.int (Int32.ofNat l)), some (.int ((-1)))], [.int (Int32.ofNat 0), .long (Int64.ofNat 0), .int (Int32.ofNat l), .int ((-1)), .ref (r)], A)) rfl ?_
      rcases hr9 : wr_br M inner none (0) 0 w with c9 | w9
      · skip
        obtain ⟨w5, A1, p6, c7, g2, h3, f4⟩ := wr_Q0 (wi_br (d := d - 1) (D0 := D0) (l := l) (inner := inner) (b := none) (y := 0) (k := 0) (by omega) (by omega) (by omega) (by omega) (by omega) (fun j e => by cases e <;> omega) hin hwf h) hr9
        have f8 := (wr_F.refl A s0 s1 u).trans f4
        have p9 : c9 ≠ 3 → w <+: w5 := fun e => (List.prefix_refl w).trans (p6 e)
        refine wp_cv (A' := A1) (v := some (.int (Int32.ofNat c9))) rfl rfl rfl rfl rfl h.rc (by omega) (g2) rfl ?_
        show am_wp d 108 (52, [some (.ref (r)), some (.int (Int32.ofNat i)), some (.ref (rs.getD j 0)), some (.int (Int32.ofNat l)), some (.int ((-1)))], [.int (Int32.ofNat c9)], A1) _
        refine wp_rt rfl rfl rfl ?_
        have hres : wr_br M inner (wr_selb M i (.inl p)) 0 0 w = .error c9 := by simp [wr_selb, wr_or, ha, hb, hr9]
        rw [hres]
        exact wr_Q_er c7 p9 h3 f8
      · skip
        obtain ⟨A10, g11, h12, f13⟩ := wr_Q1 (wi_br (d := d - 1) (D0 := D0) (l := l) (inner := inner) (b := none) (y := 0) (k := 0) (by omega) (by omega) (by omega) (by omega) (by omega) (fun j e => by cases e <;> omega) hin hwf h) hr9
        have f14 := (wr_F.refl A s0 s1 u).trans f13
        refine wp_cv (A' := A10) (v := some (.int (Int32.ofNat 0))) rfl rfl rfl rfl rfl h.rc (by omega) (g11) rfl ?_
        show am_wp d 108 (52, [some (.ref (r)), some (.int (Int32.ofNat i)), some (.ref (rs.getD j 0)), some (.int (Int32.ofNat l)), some (.int ((-1)))], [.int (Int32.ofNat 0)], A10) _
        refine wp_rt rfl rfl rfl ?_
        have hres : wr_br M inner (wr_selb M i (.inl p)) 0 0 w = .ok w9 := by simp [wr_selb, wr_or, ha, hb, hr9]
        rw [hres]
        exact wr_Q_ok h12 f14
    · skip
      have hbl := mg_bw_lt hb
      refine wp_cv (A' := A) (v := some (.int (Int32.ofNat jhb))) rfl rfl rfl rfl rfl h.mc (by omega) (by have q := mn_with (d := d - 1) (o := i) (s := sb_OTH) (by omega) h.N; rw [hb] at q; exact q) rfl ?_
      show am_wp d 108 (41, [some (.ref (r)), some (.int (Int32.ofNat i)), some (.ref (rs.getD j 0)), some (.int (Int32.ofNat l)), some (.int ((-1)))], [.int (Int32.ofNat jhb)], A) _
      refine wp_st 6 (f' := (49, [some (.ref (r)), some (.int (Int32.ofNat i)), some (.ref (rs.getD j 0)), some (.int (Int32.ofNat l)), some (.int (Int32.ofNat jhb))], [.int (Int32.ofNat 0), .long (Int64.ofNat 0), .int (Int32.ofNat l), .int (Int32.ofNat jhb), .ref (r)], A)) rfl ?_
      rcases hr9 : wr_br M inner (some jhb) (0) 0 w with c9 | w9
      · skip
        obtain ⟨w19, A15, p20, c21, g16, h17, f18⟩ := wr_Q0 (wi_br (d := d - 1) (D0 := D0) (l := l) (inner := inner) (b := (some jhb)) (y := 0) (k := 0) (by omega) (by omega) (by omega) (by omega) (by omega) (fun j e => by cases e <;> omega) hin hwf h) hr9
        have f22 := (wr_F.refl A s0 s1 u).trans f18
        have p23 : c9 ≠ 3 → w <+: w19 := fun e => (List.prefix_refl w).trans (p20 e)
        refine wp_cv (A' := A15) (v := some (.int (Int32.ofNat c9))) rfl rfl rfl rfl rfl h.rc (by omega) (g16) rfl ?_
        show am_wp d 108 (52, [some (.ref (r)), some (.int (Int32.ofNat i)), some (.ref (rs.getD j 0)), some (.int (Int32.ofNat l)), some (.int (Int32.ofNat jhb))], [.int (Int32.ofNat c9)], A15) _
        refine wp_rt rfl rfl rfl ?_
        have hres : wr_br M inner (wr_selb M i (.inl p)) 0 0 w = .error c9 := by simp [wr_selb, wr_or, ha, hb, hr9]
        rw [hres]
        exact wr_Q_er c21 p23 h17 f22
      · skip
        obtain ⟨A24, g25, h26, f27⟩ := wr_Q1 (wi_br (d := d - 1) (D0 := D0) (l := l) (inner := inner) (b := (some jhb)) (y := 0) (k := 0) (by omega) (by omega) (by omega) (by omega) (by omega) (fun j e => by cases e <;> omega) hin hwf h) hr9
        have f28 := (wr_F.refl A s0 s1 u).trans f27
        refine wp_cv (A' := A24) (v := some (.int (Int32.ofNat 0))) rfl rfl rfl rfl rfl h.rc (by omega) (g25) rfl ?_
        show am_wp d 108 (52, [some (.ref (r)), some (.int (Int32.ofNat i)), some (.ref (rs.getD j 0)), some (.int (Int32.ofNat l)), some (.int (Int32.ofNat jhb))], [.int (Int32.ofNat 0)], A24) _
        refine wp_rt rfl rfl rfl ?_
        have hres : wr_br M inner (wr_selb M i (.inl p)) 0 0 w = .ok w9 := by simp [wr_selb, wr_or, ha, hb, hr9]
        rw [hres]
        exact wr_Q_ok h26 f28
  · skip
    have hal := mg_bw_lt ha
    refine wp_cv (A' := A) (v := some (.int (Int32.ofNat jha))) rfl rfl rfl rfl rfl h.mc (by omega) (by have q := mn_with (d := d - 1) (o := i) (s := Int64.ofNat p) (by omega) h.N; rw [ha] at q; exact q) rfl ?_
    show am_wp d 108 (22, [some (.ref (r)), some (.int (Int32.ofNat i)), some (.ref (rs.getD j 0)), some (.int (Int32.ofNat l)), some (.int ((-1)))], [.int (Int32.ofNat jha)], A) _
    refine wp_st 3 (f' := (27, [some (.ref (r)), some (.int (Int32.ofNat i)), some (.ref (rs.getD j 0)), some (.int (Int32.ofNat l)), some (.int (Int32.ofNat jha))], [.int ((-1)), .int (Int32.ofNat jha)], A)) rfl ?_
    refine wp_ifT rfl rfl (i32_neg1 (by omega)) ?_
    refine wp_st 5 (f' := (49, [some (.ref (r)), some (.int (Int32.ofNat i)), some (.ref (rs.getD j 0)), some (.int (Int32.ofNat l)), some (.int (Int32.ofNat jha))], [.int (Int32.ofNat 0), .long (Int64.ofNat 0), .int (Int32.ofNat l), .int (Int32.ofNat jha), .ref (r)], A)) rfl ?_
    rcases hr9 : wr_br M inner (some jha) (0) 0 w with c9 | w9
    · skip
      obtain ⟨w33, A29, p34, c35, g30, h31, f32⟩ := wr_Q0 (wi_br (d := d - 1) (D0 := D0) (l := l) (inner := inner) (b := (some jha)) (y := 0) (k := 0) (by omega) (by omega) (by omega) (by omega) (by omega) (fun j e => by cases e <;> omega) hin hwf h) hr9
      have f36 := (wr_F.refl A s0 s1 u).trans f32
      have p37 : c9 ≠ 3 → w <+: w33 := fun e => (List.prefix_refl w).trans (p34 e)
      refine wp_cv (A' := A29) (v := some (.int (Int32.ofNat c9))) rfl rfl rfl rfl rfl h.rc (by omega) (g30) rfl ?_
      show am_wp d 108 (52, [some (.ref (r)), some (.int (Int32.ofNat i)), some (.ref (rs.getD j 0)), some (.int (Int32.ofNat l)), some (.int (Int32.ofNat jha))], [.int (Int32.ofNat c9)], A29) _
      refine wp_rt rfl rfl rfl ?_
      have hres : wr_br M inner (wr_selb M i (.inl p)) 0 0 w = .error c9 := by simp [wr_selb, wr_or, ha, hr9]
      rw [hres]
      exact wr_Q_er c35 p37 h31 f36
    · skip
      obtain ⟨A38, g39, h40, f41⟩ := wr_Q1 (wi_br (d := d - 1) (D0 := D0) (l := l) (inner := inner) (b := (some jha)) (y := 0) (k := 0) (by omega) (by omega) (by omega) (by omega) (by omega) (fun j e => by cases e <;> omega) hin hwf h) hr9
      have f42 := (wr_F.refl A s0 s1 u).trans f41
      refine wp_cv (A' := A38) (v := some (.int (Int32.ofNat 0))) rfl rfl rfl rfl rfl h.rc (by omega) (g39) rfl ?_
      show am_wp d 108 (52, [some (.ref (r)), some (.int (Int32.ofNat i)), some (.ref (rs.getD j 0)), some (.int (Int32.ofNat l)), some (.int (Int32.ofNat jha))], [.int (Int32.ofNat 0)], A38) _
      refine wp_rt rfl rfl rfl ?_
      have hres : wr_br M inner (wr_selb M i (.inl p)) 0 0 w = .ok w9 := by simp [wr_selb, wr_or, ha, hr9]
      rw [hres]
      exact wr_Q_ok h40 f42
theorem wi_sel0 {d r m v q s0 s1 u n : Nat} {M : mg} {z len : Bool} {rs : List Nat} {xs : List sb_vt} {S0 S1 : rg} {w : List Nat} {A : am_H} {D0 l : Nat} {inner : wr_i} {i j : Nat} {nm sc : Int32} {c : Int64} (hd : 2 ≤ d) (hd0 : D0 + 2 ≤ d) (hl : l ≤ 3) (hi : i < mg_P M) (hj : j < 6) {yy : Int × Nat} (hxj : xs.getD j sb_v0 = (nm, false, c, sc)) (hin : wr_in D0 l r m v q s0 s1 u M z rs xs n S0 S1 len inner) (hwf : mg_wf M) (h : wr_I A r m v q s0 s1 u M z rs xs n S0 S1 len w) : am_wp d 108 (0, am_ent 108 [.ref r, .int (Int32.ofNat i), .ref (rs.getD j 0), .int (Int32.ofNat l)], [], A) (wr_Q A r m v q s0 s1 u M z rs xs n S0 S1 len w (wr_br M inner (wr_selb M i (.inr yy)) 0 0 w)) := by
  have hlw := h.lenw
  refine wp_st 3 (f' := (4, [some (.ref (r)), some (.int (Int32.ofNat i)), some (.ref (rs.getD j 0)), some (.int (Int32.ofNat l)), some (.int ((-1)))], [.ref (rs.getD j 0)], A)) rfl ?_
  refine wp_gf rfl rfl (h.vc hj hxj) rfl rfl ?_
  refine wp_izT rfl rfl (show (Int32.ofNat 0) = (Int32.ofNat 0) from by decide) ?_
  refine wp_st 2 (f' := (27, [some (.ref (r)), some (.int (Int32.ofNat i)), some (.ref (rs.getD j 0)), some (.int (Int32.ofNat l)), some (.int ((-1)))], [.int ((-1)), .int ((-1))], A)) rfl ?_
  refine wp_ifF rfl rfl (fun q => q rfl) ?_
  refine wp_st 1 (f' := (31, [some (.ref (r)), some (.int (Int32.ofNat i)), some (.ref (rs.getD j 0)), some (.int (Int32.ofNat l)), some (.int ((-1)))], [.ref (r)], A)) rfl ?_
  refine wp_gf rfl rfl h.rc rfl rfl ?_
  refine wp_st 2 (f' := (38, [some (.ref (r)), some (.int (Int32.ofNat i)), some (.ref (rs.getD j 0)), some (.int (Int32.ofNat l)), some (.int ((-1)))], [.long ((478694368626)), .int (Int32.ofNat i), .ref (m)], A)) rfl ?_
  rcases hb : mg_bw M i (sb_OTH) (mg_B M) 0 with _ | jhb
  · skip
    refine wp_cv (A' := A) (v := some (.int ((-1)))) rfl rfl rfl rfl rfl h.mc (by omega) (by have q := mn_with (d := d - 1) (o := i) (s := sb_OTH) (by omega) h.N; rw [hb] at q; exact q) rfl ?_
    show am_wp d 108 (41, [some (.ref (r)), some (.int (Int32.ofNat i)), some (.ref (rs.getD j 0)), some (.int (Int32.ofNat l)), some (.int ((-1)))], [.int ((-1))], A) _
    refine wp_st 6 (f' := (49, [some (.ref (r)), some (.int (Int32.ofNat i)), some (.ref (rs.getD j 0)), some (.int (Int32.ofNat l)), some (.int ((-1)))], [.int (Int32.ofNat 0), .long (Int64.ofNat 0), .int (Int32.ofNat l), .int ((-1)), .ref (r)], A)) rfl ?_
    rcases hr9 : wr_br M inner none (0) 0 w with c9 | w9
    · skip
      obtain ⟨w5, A1, p6, c7, g2, h3, f4⟩ := wr_Q0 (wi_br (d := d - 1) (D0 := D0) (l := l) (inner := inner) (b := none) (y := 0) (k := 0) (by omega) (by omega) (by omega) (by omega) (by omega) (fun j e => by cases e <;> omega) hin hwf h) hr9
      have f8 := (wr_F.refl A s0 s1 u).trans f4
      have p9 : c9 ≠ 3 → w <+: w5 := fun e => (List.prefix_refl w).trans (p6 e)
      refine wp_cv (A' := A1) (v := some (.int (Int32.ofNat c9))) rfl rfl rfl rfl rfl h.rc (by omega) (g2) rfl ?_
      show am_wp d 108 (52, [some (.ref (r)), some (.int (Int32.ofNat i)), some (.ref (rs.getD j 0)), some (.int (Int32.ofNat l)), some (.int ((-1)))], [.int (Int32.ofNat c9)], A1) _
      refine wp_rt rfl rfl rfl ?_
      have hres : wr_br M inner (wr_selb M i (.inr yy)) 0 0 w = .error c9 := by simp [wr_selb, wr_or, hb, hr9]
      rw [hres]
      exact wr_Q_er c7 p9 h3 f8
    · skip
      obtain ⟨A10, g11, h12, f13⟩ := wr_Q1 (wi_br (d := d - 1) (D0 := D0) (l := l) (inner := inner) (b := none) (y := 0) (k := 0) (by omega) (by omega) (by omega) (by omega) (by omega) (fun j e => by cases e <;> omega) hin hwf h) hr9
      have f14 := (wr_F.refl A s0 s1 u).trans f13
      refine wp_cv (A' := A10) (v := some (.int (Int32.ofNat 0))) rfl rfl rfl rfl rfl h.rc (by omega) (g11) rfl ?_
      show am_wp d 108 (52, [some (.ref (r)), some (.int (Int32.ofNat i)), some (.ref (rs.getD j 0)), some (.int (Int32.ofNat l)), some (.int ((-1)))], [.int (Int32.ofNat 0)], A10) _
      refine wp_rt rfl rfl rfl ?_
      have hres : wr_br M inner (wr_selb M i (.inr yy)) 0 0 w = .ok w9 := by simp [wr_selb, wr_or, hb, hr9]
      rw [hres]
      exact wr_Q_ok h12 f14
  · skip
    have hbl := mg_bw_lt hb
    refine wp_cv (A' := A) (v := some (.int (Int32.ofNat jhb))) rfl rfl rfl rfl rfl h.mc (by omega) (by have q := mn_with (d := d - 1) (o := i) (s := sb_OTH) (by omega) h.N; rw [hb] at q; exact q) rfl ?_
    show am_wp d 108 (41, [some (.ref (r)), some (.int (Int32.ofNat i)), some (.ref (rs.getD j 0)), some (.int (Int32.ofNat l)), some (.int ((-1)))], [.int (Int32.ofNat jhb)], A) _
    refine wp_st 6 (f' := (49, [some (.ref (r)), some (.int (Int32.ofNat i)), some (.ref (rs.getD j 0)), some (.int (Int32.ofNat l)), some (.int (Int32.ofNat jhb))], [.int (Int32.ofNat 0), .long (Int64.ofNat 0), .int (Int32.ofNat l), .int (Int32.ofNat jhb), .ref (r)], A)) rfl ?_
    rcases hr9 : wr_br M inner (some jhb) (0) 0 w with c9 | w9
    · skip
      obtain ⟨w19, A15, p20, c21, g16, h17, f18⟩ := wr_Q0 (wi_br (d := d - 1) (D0 := D0) (l := l) (inner := inner) (b := (some jhb)) (y := 0) (k := 0) (by omega) (by omega) (by omega) (by omega) (by omega) (fun j e => by cases e <;> omega) hin hwf h) hr9
      have f22 := (wr_F.refl A s0 s1 u).trans f18
      have p23 : c9 ≠ 3 → w <+: w19 := fun e => (List.prefix_refl w).trans (p20 e)
      refine wp_cv (A' := A15) (v := some (.int (Int32.ofNat c9))) rfl rfl rfl rfl rfl h.rc (by omega) (g16) rfl ?_
      show am_wp d 108 (52, [some (.ref (r)), some (.int (Int32.ofNat i)), some (.ref (rs.getD j 0)), some (.int (Int32.ofNat l)), some (.int (Int32.ofNat jhb))], [.int (Int32.ofNat c9)], A15) _
      refine wp_rt rfl rfl rfl ?_
      have hres : wr_br M inner (wr_selb M i (.inr yy)) 0 0 w = .error c9 := by simp [wr_selb, wr_or, hb, hr9]
      rw [hres]
      exact wr_Q_er c21 p23 h17 f22
    · skip
      obtain ⟨A24, g25, h26, f27⟩ := wr_Q1 (wi_br (d := d - 1) (D0 := D0) (l := l) (inner := inner) (b := (some jhb)) (y := 0) (k := 0) (by omega) (by omega) (by omega) (by omega) (by omega) (fun j e => by cases e <;> omega) hin hwf h) hr9
      have f28 := (wr_F.refl A s0 s1 u).trans f27
      refine wp_cv (A' := A24) (v := some (.int (Int32.ofNat 0))) rfl rfl rfl rfl rfl h.rc (by omega) (g25) rfl ?_
      show am_wp d 108 (52, [some (.ref (r)), some (.int (Int32.ofNat i)), some (.ref (rs.getD j 0)), some (.int (Int32.ofNat l)), some (.int (Int32.ofNat jhb))], [.int (Int32.ofNat 0)], A24) _
      refine wp_rt rfl rfl rfl ?_
      have hres : wr_br M inner (wr_selb M i (.inr yy)) 0 0 w = .ok w9 := by simp [wr_selb, wr_or, hb, hr9]
      rw [hres]
      exact wr_Q_ok h26 f28
theorem wi_plu {d r m v q s0 s1 u n : Nat} {M : mg} {z len : Bool} {rs : List Nat} {xs : List sb_vt} {S0 S1 : rg} {w : List Nat} {A : am_H} {D0 l : Nat} {inner : wr_i} {i j k : Nat} {nm : Int32} {y : Int} (hd : 5 ≤ d) (hd0 : D0 + 2 ≤ d) (hl : l ≤ 3) (hi : i < mg_P M) (hj : j < 6) (hk : k ≤ 6) (hy : y.natAbs ≤ 1000000000000000) (hw0 : rg_wf S0) (hw1 : rg_wf S1) (hxj : xs.getD j sb_v0 = (nm, false, Int64.ofInt y, Int32.ofNat k)) (hin : wr_in D0 l r m v q s0 s1 u M z rs xs n S0 S1 len inner) (hwf : mg_wf M) (h : wr_I A r m v q s0 s1 u M z rs xs n S0 S1 len w) : am_wp d 112 (0, am_ent 112 [.ref r, .int (Int32.ofNat i), .ref (rs.getD j 0), .int (Int32.ofNat l)], [], A) (wr_Q A r m v q s0 s1 u M z rs xs n S0 S1 len w (wr_br M inner (wr_plub M S0 S1 i y k) (wr_rest M i y k) k w)) := by
  have hlw := h.lenw
  have hwi := hwf.1 i hi
  have h10 : 1 ≤ 10 ^ k ∧ 10 ^ k ≤ 1000000 := by
    have e1 : 10 ^ k ≤ 10 ^ 6 := Nat.pow_le_pow_right (by omega) hk
    have e2 : 0 < 10 ^ k := Nat.pow_pos (by omega)
    omega
  have hoff : mg_o M i * 10 ^ k ≤ 100 * 1000000 := Nat.mul_le_mul (by omega) h10.2
  have hrest : (wr_rest M i y k).natAbs < 9223372036854775808 := by unfold wr_rest; omega
  have hmod : y.natAbs % 10 ^ k ≤ y.natAbs := Nat.mod_le _ _
  have hdiv : y.natAbs / 10 ^ k ≤ y.natAbs := Nat.div_le_self _ _
  refine wp_st 1 (f' := (1, [some (.ref (r)), some (.int (Int32.ofNat i)), some (.ref (rs.getD j 0)), some (.int (Int32.ofNat l)), none, none, none, none, none, none, none], [.ref (rs.getD j 0)], A)) rfl ?_
  refine wp_gf rfl rfl (h.vc hj hxj) rfl rfl ?_
  refine wp_cs (n := 0) (A' := A) (v := some (.long (Int64.ofNat (10 ^ k)))) rfl rfl rfl (by omega) (un_go (by omega) h.K.ten) rfl ?_
  show am_wp d 112 (7, [some (.ref (r)), some (.int (Int32.ofNat i)), some (.ref (rs.getD j 0)), some (.int (Int32.ofNat l)), none, none, none, none, none, none, none], [.long (Int64.ofNat (10 ^ k))], A) _
  refine wp_st 2 (f' := (10, [some (.ref (r)), some (.int (Int32.ofNat i)), some (.ref (rs.getD j 0)), some (.int (Int32.ofNat l)), some (.long (Int64.ofNat (10 ^ k))), none, none, none, none, none, none], [.ref (rs.getD j 0)], A)) rfl ?_
  refine wp_gf rfl rfl (h.vc hj hxj) rfl rfl ?_
  refine wp_st 1 (f' := (14, [some (.ref (r)), some (.int (Int32.ofNat i)), some (.ref (rs.getD j 0)), some (.int (Int32.ofNat l)), some (.long (Int64.ofNat (10 ^ k))), none, none, none, none, none, none], [.ref (r), .long (Int64.ofInt y)], A)) rfl ?_
  refine wp_gf rfl rfl h.rc rfl rfl ?_
  refine wp_gf rfl rfl h.mc rfl rfl ?_
  refine wp_st 1 (f' := (21, [some (.ref (r)), some (.int (Int32.ofNat i)), some (.ref (rs.getD j 0)), some (.int (Int32.ofNat l)), some (.long (Int64.ofNat (10 ^ k))), none, none, none, none, none, none], [.int (Int32.ofNat i), .ref (m + 3), .long (Int64.ofInt y)], A)) rfl ?_
  refine wp_mgo h.N rfl (by omega) rfl ?_
  refine wp_st 1 (f' := (23, [some (.ref (r)), some (.int (Int32.ofNat i)), some (.ref (rs.getD j 0)), some (.int (Int32.ofNat l)), some (.long (Int64.ofNat (10 ^ k))), none, none, none, none, none, none], [.long ((Int32.ofNat (mg_o M i)).toInt64), .long (Int64.ofInt y)], A)) rfl ?_
  rw [i64_of (b := mg_o M i) (by omega)]
  refine wp_st 2 (f' := (26, [some (.ref (r)), some (.int (Int32.ofNat i)), some (.ref (rs.getD j 0)), some (.int (Int32.ofNat l)), some (.long (Int64.ofNat (10 ^ k))), none, none, none, none, none, none], [.long ((Int64.ofNat (mg_o M i)) * (Int64.ofNat (10 ^ k))), .long (Int64.ofInt y)], A)) rfl ?_
  rw [← Int64.ofNat_mul]
  refine wp_st 1 (f' := (27, [some (.ref (r)), some (.int (Int32.ofNat i)), some (.ref (rs.getD j 0)), some (.int (Int32.ofNat l)), some (.long (Int64.ofNat (10 ^ k))), none, none, none, none, none, none], [.long ((Int64.ofInt y) - (Int64.ofNat (mg_o M i * 10 ^ k)))], A)) rfl ?_
  rw [show Int64.ofInt y - Int64.ofNat (mg_o M i * 10 ^ k) = Int64.ofInt (wr_rest M i y k) from i64_zsub]
  refine wp_st 6 (f' := (36, [some (.ref (r)), some (.int (Int32.ofNat i)), some (.ref (rs.getD j 0)), some (.int (Int32.ofNat l)), some (.long (Int64.ofNat (10 ^ k))), none, some (.long (Int64.ofInt (wr_rest M i y k))), none, some (.int ((-1))), none, none], [.int (lg_cmp (Int64.ofNat (10 ^ k)) (Int64.ofNat 0))], A)) rfl ?_
  refine wp_izF rfl rfl (fun q => absurd ((i64_le (a := 10 ^ k) (b := 0) (by omega) (by omega)).mp ((lg_cmp_le _ _).mp q)) (by omega)) ?_
  refine wp_st 1 (f' := (40, [some (.ref (r)), some (.int (Int32.ofNat i)), some (.ref (rs.getD j 0)), some (.int (Int32.ofNat l)), some (.long (Int64.ofNat (10 ^ k))), none, some (.long (Int64.ofInt (wr_rest M i y k))), none, some (.int ((-1))), none, none], [.ref (rs.getD j 0)], A)) rfl ?_
  refine wp_gf rfl rfl (h.vc hj hxj) rfl rfl ?_
  refine wp_st 2 (f' := (45, [some (.ref (r)), some (.int (Int32.ofNat i)), some (.ref (rs.getD j 0)), some (.int (Int32.ofNat l)), some (.long (Int64.ofNat (10 ^ k))), none, some (.long (Int64.ofInt (wr_rest M i y k))), none, some (.int ((-1))), none, none], [.int (lg_cmp (Int64.ofInt y) (Int64.ofNat 0))], A)) rfl ?_
  refine wp_iz rfl rfl rfl (fun (h1 : (lg_cmp (Int64.ofInt y) (Int64.ofNat 0)) < (Int32.ofNat 0)) => ?_) (fun (h1 : ¬ ((lg_cmp (Int64.ofInt y) (Int64.ofNat 0)) < (Int32.ofNat 0))) => ?_)
  · skip
    have hy0 : y < 0 := by
      have q := (lg_cmp_lt _ _).mp h1
      exact Decidable.byContradiction (fun e => by rw [i64_pos e] at q; exact absurd ((i64_lt (by omega) (by omega)).mp q) (by omega))
    refine wp_st 2 (f' := (83, [some (.ref (r)), some (.int (Int32.ofNat i)), some (.ref (rs.getD j 0)), some (.int (Int32.ofNat l)), some (.long (Int64.ofNat (10 ^ k))), none, some (.long (Int64.ofInt (wr_rest M i y k))), none, some (.int ((-1))), none, none], [.int ((-1)), .int ((-1))], A)) rfl ?_
    refine wp_ifF rfl rfl (fun q => q rfl) ?_
    refine wp_st 1 (f' := (87, [some (.ref (r)), some (.int (Int32.ofNat i)), some (.ref (rs.getD j 0)), some (.int (Int32.ofNat l)), some (.long (Int64.ofNat (10 ^ k))), none, some (.long (Int64.ofInt (wr_rest M i y k))), none, some (.int ((-1))), none, none], [.ref (r)], A)) rfl ?_
    refine wp_gf rfl rfl h.rc rfl rfl ?_
    refine wp_gf rfl rfl h.mc rfl rfl ?_
    refine wp_st 1 (f' := (94, [some (.ref (r)), some (.int (Int32.ofNat i)), some (.ref (rs.getD j 0)), some (.int (Int32.ofNat l)), some (.long (Int64.ofNat (10 ^ k))), none, some (.long (Int64.ofInt (wr_rest M i y k))), none, some (.int ((-1))), none, none], [.int (Int32.ofNat i), .ref (m + 1)], A)) rfl ?_
    refine wp_mgk h.N rfl (by omega) rfl ?_
    refine wp_st 1 (f' := (97, [some (.ref (r)), some (.int (Int32.ofNat i)), some (.ref (rs.getD j 0)), some (.int (Int32.ofNat l)), some (.long (Int64.ofNat (10 ^ k))), none, some (.long (Int64.ofInt (wr_rest M i y k))), none, some (.int ((-1))), none, none], [.int (Int32.ofNat 8), .int (Int32.ofNat (mg_k M i))], A)) rfl ?_
    refine wp_if rfl rfl rfl (fun (h2 : (Int32.ofNat (mg_k M i)) ≠ (Int32.ofNat 8)) => ?_) (fun (h2 : ¬ ((Int32.ofNat (mg_k M i)) ≠ (Int32.ofNat 8))) => ?_)
    · skip
      rw [ne_eq, i32_eq (by omega) (by omega)] at h2
      refine wp_st 3 (f' := (108, [some (.ref (r)), some (.int (Int32.ofNat i)), some (.ref (rs.getD j 0)), some (.int (Int32.ofNat l)), some (.long (Int64.ofNat (10 ^ k))), none, some (.long (Int64.ofInt (wr_rest M i y k))), none, some (.int ((-1))), some (.int (Int32.ofNat 0)), none], [.ref (r)], A)) rfl ?_
      refine wp_gf rfl rfl h.rc rfl rfl ?_
      refine wp_st 1 (f' := (113, [some (.ref (r)), some (.int (Int32.ofNat i)), some (.ref (rs.getD j 0)), some (.int (Int32.ofNat l)), some (.long (Int64.ofNat (10 ^ k))), none, some (.long (Int64.ofInt (wr_rest M i y k))), none, some (.int ((-1))), some (.int (Int32.ofNat 0)), none], [.int (Int32.ofNat 0), .ref (q)], A)) rfl ?_
      refine wp_al rfl (Or.inr (Or.inr (Or.inr (Or.inr ⟨rfl, rfl⟩)))) rfl h.qc (by omega) rfl rfl ?_
      refine wp_st 2 (f' := (117, [some (.ref (r)), some (.int (Int32.ofNat i)), some (.ref (rs.getD j 0)), some (.int (Int32.ofNat l)), some (.long (Int64.ofNat (10 ^ k))), none, some (.long (Int64.ofInt (wr_rest M i y k))), none, some (.int ((-1))), some (.int (Int32.ofNat 0)), none], [.ref (rs.getD j 0), .long (Int64.ofInt (wr_rest M i y k)), .ref (s0)], A)) rfl ?_
      refine wp_gf rfl rfl (h.vc hj hxj) rfl rfl ?_
      obtain ⟨am9, un9, hP9⟩ := h.2.2.2.2.2.2.1
      obtain ⟨A3, g4, a5, a6, a7⟩ := gn_catz (d := d - 1) (z := wr_rest M i y k) (k := k) (by omega) hk hrest hw0 h.K.ten hP9 h.2.2.2.2.1
      have h8 := h.cat0 a5 a6 a7
      obtain ⟨v9, v10⟩ := h.gc0
      have f11 := (wr_F.refl A s0 s1 u).trans h8.2
      have h12 := h8.1
      have hcl := ct_cat_le S0 (wr_rest M i y k).natAbs k 5 0 rfl
      refine wp_cv (A' := A3) (v := some (.int (Int32.ofNat (ct_cat S0 (wr_rest M i y k).natAbs k 5 0)))) rfl rfl rfl rfl rfl v10 (by omega) (g4) rfl ?_
      show am_wp d 112 (123, [some (.ref (r)), some (.int (Int32.ofNat i)), some (.ref (rs.getD j 0)), some (.int (Int32.ofNat l)), some (.long (Int64.ofNat (10 ^ k))), none, some (.long (Int64.ofInt (wr_rest M i y k))), none, some (.int ((-1))), some (.int (Int32.ofNat 0)), none], [.int (Int32.ofNat (ct_cat S0 (wr_rest M i y k).natAbs k 5 0))], A3) _
      refine wp_st 2 (f' := (126, [some (.ref (r)), some (.int (Int32.ofNat i)), some (.ref (rs.getD j 0)), some (.int (Int32.ofNat l)), some (.long (Int64.ofNat (10 ^ k))), none, some (.long (Int64.ofInt (wr_rest M i y k))), none, some (.int ((-1))), some (.int (Int32.ofNat 0)), some (.int (Int32.ofNat (ct_cat S0 (wr_rest M i y k).natAbs k 5 0)))], [.ref (r)], A3)) rfl ?_
      refine wp_gf rfl rfl h12.rc rfl rfl ?_
      refine wp_st 3 (f' := (135, [some (.ref (r)), some (.int (Int32.ofNat i)), some (.ref (rs.getD j 0)), some (.int (Int32.ofNat l)), some (.long (Int64.ofNat (10 ^ k))), none, some (.long (Int64.ofInt (wr_rest M i y k))), none, some (.int ((-1))), some (.int (Int32.ofNat 0)), some (.int (Int32.ofNat (ct_cat S0 (wr_rest M i y k).natAbs k 5 0)))], [.int (Int32.ofNat (ct_cat S0 (wr_rest M i y k).natAbs k 5 0)), .ref (2), .int (Int32.ofNat i), .ref (m)], A3)) rfl ?_
      refine wp_al rfl (Or.inr (Or.inl ⟨rfl, rfl⟩)) rfl (show _ = some (101, ru_CW.map Value.long) from h12.K.cat) (by omega) (sb_gd 0 (show _ < 6 by omega)) rfl ?_
      rcases hc : mg_bw M i (ru_CW.getD (ct_cat S0 (wr_rest M i y k).natAbs k 5 0) 0) (mg_B M) 0 with _ | jhc
      · skip
        refine wp_cv (A' := A3) (v := some (.int ((-1)))) rfl rfl rfl rfl rfl h12.mc (by omega) (by have q := mn_with (d := d - 1) (o := i) (s := ru_CW.getD (ct_cat S0 (wr_rest M i y k).natAbs k 5 0) 0) (by omega) h12.N; rw [hc] at q; exact q) rfl ?_
        show am_wp d 112 (139, [some (.ref (r)), some (.int (Int32.ofNat i)), some (.ref (rs.getD j 0)), some (.int (Int32.ofNat l)), some (.long (Int64.ofNat (10 ^ k))), none, some (.long (Int64.ofInt (wr_rest M i y k))), none, some (.int ((-1))), some (.int (Int32.ofNat 0)), some (.int (Int32.ofNat (ct_cat S0 (wr_rest M i y k).natAbs k 5 0)))], [.int ((-1))], A3) _
        refine wp_st 3 (f' := (144, [some (.ref (r)), some (.int (Int32.ofNat i)), some (.ref (rs.getD j 0)), some (.int (Int32.ofNat l)), some (.long (Int64.ofNat (10 ^ k))), none, some (.long (Int64.ofInt (wr_rest M i y k))), none, some (.int ((-1))), some (.int (Int32.ofNat 0)), some (.int (Int32.ofNat (ct_cat S0 (wr_rest M i y k).natAbs k 5 0)))], [.int ((-1)), .int ((-1))], A3)) rfl ?_
        refine wp_ifF rfl rfl (fun q => q rfl) ?_
        refine wp_st 1 (f' := (148, [some (.ref (r)), some (.int (Int32.ofNat i)), some (.ref (rs.getD j 0)), some (.int (Int32.ofNat l)), some (.long (Int64.ofNat (10 ^ k))), none, some (.long (Int64.ofInt (wr_rest M i y k))), none, some (.int ((-1))), some (.int (Int32.ofNat 0)), some (.int (Int32.ofNat (ct_cat S0 (wr_rest M i y k).natAbs k 5 0)))], [.ref (r)], A3)) rfl ?_
        refine wp_gf rfl rfl h12.rc rfl rfl ?_
        refine wp_st 2 (f' := (155, [some (.ref (r)), some (.int (Int32.ofNat i)), some (.ref (rs.getD j 0)), some (.int (Int32.ofNat l)), some (.long (Int64.ofNat (10 ^ k))), none, some (.long (Int64.ofInt (wr_rest M i y k))), none, some (.int ((-1))), some (.int (Int32.ofNat 0)), some (.int (Int32.ofNat (ct_cat S0 (wr_rest M i y k).natAbs k 5 0)))], [.long ((478694368626)), .int (Int32.ofNat i), .ref (m)], A3)) rfl ?_
        rcases hb : mg_bw M i (sb_OTH) (mg_B M) 0 with _ | jhb
        · skip
          refine wp_cv (A' := A3) (v := some (.int ((-1)))) rfl rfl rfl rfl rfl h12.mc (by omega) (by have q := mn_with (d := d - 1) (o := i) (s := sb_OTH) (by omega) h12.N; rw [hb] at q; exact q) rfl ?_
          show am_wp d 112 (158, [some (.ref (r)), some (.int (Int32.ofNat i)), some (.ref (rs.getD j 0)), some (.int (Int32.ofNat l)), some (.long (Int64.ofNat (10 ^ k))), none, some (.long (Int64.ofInt (wr_rest M i y k))), none, some (.int ((-1))), some (.int (Int32.ofNat 0)), some (.int (Int32.ofNat (ct_cat S0 (wr_rest M i y k).natAbs k 5 0)))], [.int ((-1))], A3) _
          refine wp_st 6 (f' := (167, [some (.ref (r)), some (.int (Int32.ofNat i)), some (.ref (rs.getD j 0)), some (.int (Int32.ofNat l)), some (.long (Int64.ofNat (10 ^ k))), none, some (.long (Int64.ofInt (wr_rest M i y k))), none, some (.int ((-1))), some (.int (Int32.ofNat 0)), some (.int (Int32.ofNat (ct_cat S0 (wr_rest M i y k).natAbs k 5 0)))], [.ref (rs.getD j 0), .long (Int64.ofInt (wr_rest M i y k)), .int (Int32.ofNat l), .int ((-1)), .ref (r)], A3)) rfl ?_
          refine wp_gf rfl rfl (h12.vc hj hxj) rfl rfl ?_
          rcases hr9 : wr_br M inner none (wr_rest M i y k) k w with c9 | w9
          · skip
            obtain ⟨w17, A13, p18, c19, g14, h15, f16⟩ := wr_Q0 (wi_br (d := d - 1) (D0 := D0) (l := l) (inner := inner) (b := none) (y := wr_rest M i y k) (k := k) (by omega) (by omega) (by omega) (by omega) (by omega) (fun j e => by cases e <;> omega) hin hwf h12) hr9
            have f20 := f11.trans f16
            have p21 : c9 ≠ 3 → w <+: w17 := fun e => (List.prefix_refl w).trans (p18 e)
            refine wp_cv (A' := A13) (v := some (.int (Int32.ofNat c9))) rfl rfl rfl rfl rfl h12.rc (by omega) (g14) rfl ?_
            show am_wp d 112 (173, [some (.ref (r)), some (.int (Int32.ofNat i)), some (.ref (rs.getD j 0)), some (.int (Int32.ofNat l)), some (.long (Int64.ofNat (10 ^ k))), none, some (.long (Int64.ofInt (wr_rest M i y k))), none, some (.int ((-1))), some (.int (Int32.ofNat 0)), some (.int (Int32.ofNat (ct_cat S0 (wr_rest M i y k).natAbs k 5 0)))], [.int (Int32.ofNat c9)], A13) _
            refine wp_rt rfl rfl rfl ?_
            have hres : wr_br M inner (wr_plub M S0 S1 i y k) (wr_rest M i y k) k w = .error c9 := by simp only [wr_plub, wr_exb, wr_catb, wr_or, hy0, h2, hc, hb, hr9, ↓reduceIte]
            rw [hres]
            exact wr_Q_er c19 p21 h15 f20
          · skip
            obtain ⟨A22, g23, h24, f25⟩ := wr_Q1 (wi_br (d := d - 1) (D0 := D0) (l := l) (inner := inner) (b := none) (y := wr_rest M i y k) (k := k) (by omega) (by omega) (by omega) (by omega) (by omega) (fun j e => by cases e <;> omega) hin hwf h12) hr9
            have f26 := f11.trans f25
            refine wp_cv (A' := A22) (v := some (.int (Int32.ofNat 0))) rfl rfl rfl rfl rfl h12.rc (by omega) (g23) rfl ?_
            show am_wp d 112 (173, [some (.ref (r)), some (.int (Int32.ofNat i)), some (.ref (rs.getD j 0)), some (.int (Int32.ofNat l)), some (.long (Int64.ofNat (10 ^ k))), none, some (.long (Int64.ofInt (wr_rest M i y k))), none, some (.int ((-1))), some (.int (Int32.ofNat 0)), some (.int (Int32.ofNat (ct_cat S0 (wr_rest M i y k).natAbs k 5 0)))], [.int (Int32.ofNat 0)], A22) _
            refine wp_rt rfl rfl rfl ?_
            have hres : wr_br M inner (wr_plub M S0 S1 i y k) (wr_rest M i y k) k w = .ok w9 := by simp only [wr_plub, wr_exb, wr_catb, wr_or, hy0, h2, hc, hb, hr9, ↓reduceIte]
            rw [hres]
            exact wr_Q_ok h24 f26
        · skip
          have hbl := mg_bw_lt hb
          refine wp_cv (A' := A3) (v := some (.int (Int32.ofNat jhb))) rfl rfl rfl rfl rfl h12.mc (by omega) (by have q := mn_with (d := d - 1) (o := i) (s := sb_OTH) (by omega) h12.N; rw [hb] at q; exact q) rfl ?_
          show am_wp d 112 (158, [some (.ref (r)), some (.int (Int32.ofNat i)), some (.ref (rs.getD j 0)), some (.int (Int32.ofNat l)), some (.long (Int64.ofNat (10 ^ k))), none, some (.long (Int64.ofInt (wr_rest M i y k))), none, some (.int ((-1))), some (.int (Int32.ofNat 0)), some (.int (Int32.ofNat (ct_cat S0 (wr_rest M i y k).natAbs k 5 0)))], [.int (Int32.ofNat jhb)], A3) _
          refine wp_st 6 (f' := (167, [some (.ref (r)), some (.int (Int32.ofNat i)), some (.ref (rs.getD j 0)), some (.int (Int32.ofNat l)), some (.long (Int64.ofNat (10 ^ k))), none, some (.long (Int64.ofInt (wr_rest M i y k))), none, some (.int (Int32.ofNat jhb)), some (.int (Int32.ofNat 0)), some (.int (Int32.ofNat (ct_cat S0 (wr_rest M i y k).natAbs k 5 0)))], [.ref (rs.getD j 0), .long (Int64.ofInt (wr_rest M i y k)), .int (Int32.ofNat l), .int (Int32.ofNat jhb), .ref (r)], A3)) rfl ?_
          refine wp_gf rfl rfl (h12.vc hj hxj) rfl rfl ?_
          rcases hr9 : wr_br M inner (some jhb) (wr_rest M i y k) k w with c9 | w9
          · skip
            obtain ⟨w31, A27, p32, c33, g28, h29, f30⟩ := wr_Q0 (wi_br (d := d - 1) (D0 := D0) (l := l) (inner := inner) (b := (some jhb)) (y := wr_rest M i y k) (k := k) (by omega) (by omega) (by omega) (by omega) (by omega) (fun j e => by cases e <;> omega) hin hwf h12) hr9
            have f34 := f11.trans f30
            have p35 : c9 ≠ 3 → w <+: w31 := fun e => (List.prefix_refl w).trans (p32 e)
            refine wp_cv (A' := A27) (v := some (.int (Int32.ofNat c9))) rfl rfl rfl rfl rfl h12.rc (by omega) (g28) rfl ?_
            show am_wp d 112 (173, [some (.ref (r)), some (.int (Int32.ofNat i)), some (.ref (rs.getD j 0)), some (.int (Int32.ofNat l)), some (.long (Int64.ofNat (10 ^ k))), none, some (.long (Int64.ofInt (wr_rest M i y k))), none, some (.int (Int32.ofNat jhb)), some (.int (Int32.ofNat 0)), some (.int (Int32.ofNat (ct_cat S0 (wr_rest M i y k).natAbs k 5 0)))], [.int (Int32.ofNat c9)], A27) _
            refine wp_rt rfl rfl rfl ?_
            have hres : wr_br M inner (wr_plub M S0 S1 i y k) (wr_rest M i y k) k w = .error c9 := by simp only [wr_plub, wr_exb, wr_catb, wr_or, hy0, h2, hc, hb, hr9, ↓reduceIte]
            rw [hres]
            exact wr_Q_er c33 p35 h29 f34
          · skip
            obtain ⟨A36, g37, h38, f39⟩ := wr_Q1 (wi_br (d := d - 1) (D0 := D0) (l := l) (inner := inner) (b := (some jhb)) (y := wr_rest M i y k) (k := k) (by omega) (by omega) (by omega) (by omega) (by omega) (fun j e => by cases e <;> omega) hin hwf h12) hr9
            have f40 := f11.trans f39
            refine wp_cv (A' := A36) (v := some (.int (Int32.ofNat 0))) rfl rfl rfl rfl rfl h12.rc (by omega) (g37) rfl ?_
            show am_wp d 112 (173, [some (.ref (r)), some (.int (Int32.ofNat i)), some (.ref (rs.getD j 0)), some (.int (Int32.ofNat l)), some (.long (Int64.ofNat (10 ^ k))), none, some (.long (Int64.ofInt (wr_rest M i y k))), none, some (.int (Int32.ofNat jhb)), some (.int (Int32.ofNat 0)), some (.int (Int32.ofNat (ct_cat S0 (wr_rest M i y k).natAbs k 5 0)))], [.int (Int32.ofNat 0)], A36) _
            refine wp_rt rfl rfl rfl ?_
            have hres : wr_br M inner (wr_plub M S0 S1 i y k) (wr_rest M i y k) k w = .ok w9 := by simp only [wr_plub, wr_exb, wr_catb, wr_or, hy0, h2, hc, hb, hr9, ↓reduceIte]
            rw [hres]
            exact wr_Q_ok h38 f40
      · skip
        have hcl := mg_bw_lt hc
        refine wp_cv (A' := A3) (v := some (.int (Int32.ofNat jhc))) rfl rfl rfl rfl rfl h12.mc (by omega) (by have q := mn_with (d := d - 1) (o := i) (s := ru_CW.getD (ct_cat S0 (wr_rest M i y k).natAbs k 5 0) 0) (by omega) h12.N; rw [hc] at q; exact q) rfl ?_
        show am_wp d 112 (139, [some (.ref (r)), some (.int (Int32.ofNat i)), some (.ref (rs.getD j 0)), some (.int (Int32.ofNat l)), some (.long (Int64.ofNat (10 ^ k))), none, some (.long (Int64.ofInt (wr_rest M i y k))), none, some (.int ((-1))), some (.int (Int32.ofNat 0)), some (.int (Int32.ofNat (ct_cat S0 (wr_rest M i y k).natAbs k 5 0)))], [.int (Int32.ofNat jhc)], A3) _
        refine wp_st 3 (f' := (144, [some (.ref (r)), some (.int (Int32.ofNat i)), some (.ref (rs.getD j 0)), some (.int (Int32.ofNat l)), some (.long (Int64.ofNat (10 ^ k))), none, some (.long (Int64.ofInt (wr_rest M i y k))), none, some (.int (Int32.ofNat jhc)), some (.int (Int32.ofNat 0)), some (.int (Int32.ofNat (ct_cat S0 (wr_rest M i y k).natAbs k 5 0)))], [.int ((-1)), .int (Int32.ofNat jhc)], A3)) rfl ?_
        refine wp_ifT rfl rfl (i32_neg1 (by omega)) ?_
        refine wp_st 5 (f' := (167, [some (.ref (r)), some (.int (Int32.ofNat i)), some (.ref (rs.getD j 0)), some (.int (Int32.ofNat l)), some (.long (Int64.ofNat (10 ^ k))), none, some (.long (Int64.ofInt (wr_rest M i y k))), none, some (.int (Int32.ofNat jhc)), some (.int (Int32.ofNat 0)), some (.int (Int32.ofNat (ct_cat S0 (wr_rest M i y k).natAbs k 5 0)))], [.ref (rs.getD j 0), .long (Int64.ofInt (wr_rest M i y k)), .int (Int32.ofNat l), .int (Int32.ofNat jhc), .ref (r)], A3)) rfl ?_
        refine wp_gf rfl rfl (h12.vc hj hxj) rfl rfl ?_
        rcases hr9 : wr_br M inner (some jhc) (wr_rest M i y k) k w with c9 | w9
        · skip
          obtain ⟨w45, A41, p46, c47, g42, h43, f44⟩ := wr_Q0 (wi_br (d := d - 1) (D0 := D0) (l := l) (inner := inner) (b := (some jhc)) (y := wr_rest M i y k) (k := k) (by omega) (by omega) (by omega) (by omega) (by omega) (fun j e => by cases e <;> omega) hin hwf h12) hr9
          have f48 := f11.trans f44
          have p49 : c9 ≠ 3 → w <+: w45 := fun e => (List.prefix_refl w).trans (p46 e)
          refine wp_cv (A' := A41) (v := some (.int (Int32.ofNat c9))) rfl rfl rfl rfl rfl h12.rc (by omega) (g42) rfl ?_
          show am_wp d 112 (173, [some (.ref (r)), some (.int (Int32.ofNat i)), some (.ref (rs.getD j 0)), some (.int (Int32.ofNat l)), some (.long (Int64.ofNat (10 ^ k))), none, some (.long (Int64.ofInt (wr_rest M i y k))), none, some (.int (Int32.ofNat jhc)), some (.int (Int32.ofNat 0)), some (.int (Int32.ofNat (ct_cat S0 (wr_rest M i y k).natAbs k 5 0)))], [.int (Int32.ofNat c9)], A41) _
          refine wp_rt rfl rfl rfl ?_
          have hres : wr_br M inner (wr_plub M S0 S1 i y k) (wr_rest M i y k) k w = .error c9 := by simp only [wr_plub, wr_exb, wr_catb, wr_or, hy0, h2, hc, hr9, ↓reduceIte]
          rw [hres]
          exact wr_Q_er c47 p49 h43 f48
        · skip
          obtain ⟨A50, g51, h52, f53⟩ := wr_Q1 (wi_br (d := d - 1) (D0 := D0) (l := l) (inner := inner) (b := (some jhc)) (y := wr_rest M i y k) (k := k) (by omega) (by omega) (by omega) (by omega) (by omega) (fun j e => by cases e <;> omega) hin hwf h12) hr9
          have f54 := f11.trans f53
          refine wp_cv (A' := A50) (v := some (.int (Int32.ofNat 0))) rfl rfl rfl rfl rfl h12.rc (by omega) (g51) rfl ?_
          show am_wp d 112 (173, [some (.ref (r)), some (.int (Int32.ofNat i)), some (.ref (rs.getD j 0)), some (.int (Int32.ofNat l)), some (.long (Int64.ofNat (10 ^ k))), none, some (.long (Int64.ofInt (wr_rest M i y k))), none, some (.int (Int32.ofNat jhc)), some (.int (Int32.ofNat 0)), some (.int (Int32.ofNat (ct_cat S0 (wr_rest M i y k).natAbs k 5 0)))], [.int (Int32.ofNat 0)], A50) _
          refine wp_rt rfl rfl rfl ?_
          have hres : wr_br M inner (wr_plub M S0 S1 i y k) (wr_rest M i y k) k w = .ok w9 := by simp only [wr_plub, wr_exb, wr_catb, wr_or, hy0, h2, hc, hr9, ↓reduceIte]
          rw [hres]
          exact wr_Q_ok h52 f54
    · skip
      rw [ne_eq, i32_eq (by omega) (by omega)] at h2
      replace h2 := Decidable.not_not.mp h2
      refine wp_st 4 (f' := (108, [some (.ref (r)), some (.int (Int32.ofNat i)), some (.ref (rs.getD j 0)), some (.int (Int32.ofNat l)), some (.long (Int64.ofNat (10 ^ k))), none, some (.long (Int64.ofInt (wr_rest M i y k))), none, some (.int ((-1))), some (.int (Int32.ofNat 1)), none], [.ref (r)], A)) rfl ?_
      refine wp_gf rfl rfl h.rc rfl rfl ?_
      refine wp_st 1 (f' := (113, [some (.ref (r)), some (.int (Int32.ofNat i)), some (.ref (rs.getD j 0)), some (.int (Int32.ofNat l)), some (.long (Int64.ofNat (10 ^ k))), none, some (.long (Int64.ofInt (wr_rest M i y k))), none, some (.int ((-1))), some (.int (Int32.ofNat 1)), none], [.int (Int32.ofNat 1), .ref (q)], A)) rfl ?_
      refine wp_al rfl (Or.inr (Or.inr (Or.inr (Or.inr ⟨rfl, rfl⟩)))) rfl h.qc (by omega) rfl rfl ?_
      refine wp_st 2 (f' := (117, [some (.ref (r)), some (.int (Int32.ofNat i)), some (.ref (rs.getD j 0)), some (.int (Int32.ofNat l)), some (.long (Int64.ofNat (10 ^ k))), none, some (.long (Int64.ofInt (wr_rest M i y k))), none, some (.int ((-1))), some (.int (Int32.ofNat 1)), none], [.ref (rs.getD j 0), .long (Int64.ofInt (wr_rest M i y k)), .ref (s1)], A)) rfl ?_
      refine wp_gf rfl rfl (h.vc hj hxj) rfl rfl ?_
      obtain ⟨am9, un9, hP9⟩ := h.2.2.2.2.2.2.2.1
      obtain ⟨A55, g56, a57, a58, a59⟩ := gn_catz (d := d - 1) (z := wr_rest M i y k) (k := k) (by omega) hk hrest hw1 h.K.ten hP9 h.2.2.2.2.2.1
      have h60 := h.cat1 a57 a58 a59
      obtain ⟨v61, v62⟩ := h.gc1
      have f63 := (wr_F.refl A s0 s1 u).trans h60.2
      have h64 := h60.1
      have hcl := ct_cat_le S1 (wr_rest M i y k).natAbs k 5 0 rfl
      refine wp_cv (A' := A55) (v := some (.int (Int32.ofNat (ct_cat S1 (wr_rest M i y k).natAbs k 5 0)))) rfl rfl rfl rfl rfl v62 (by omega) (g56) rfl ?_
      show am_wp d 112 (123, [some (.ref (r)), some (.int (Int32.ofNat i)), some (.ref (rs.getD j 0)), some (.int (Int32.ofNat l)), some (.long (Int64.ofNat (10 ^ k))), none, some (.long (Int64.ofInt (wr_rest M i y k))), none, some (.int ((-1))), some (.int (Int32.ofNat 1)), none], [.int (Int32.ofNat (ct_cat S1 (wr_rest M i y k).natAbs k 5 0))], A55) _
      refine wp_st 2 (f' := (126, [some (.ref (r)), some (.int (Int32.ofNat i)), some (.ref (rs.getD j 0)), some (.int (Int32.ofNat l)), some (.long (Int64.ofNat (10 ^ k))), none, some (.long (Int64.ofInt (wr_rest M i y k))), none, some (.int ((-1))), some (.int (Int32.ofNat 1)), some (.int (Int32.ofNat (ct_cat S1 (wr_rest M i y k).natAbs k 5 0)))], [.ref (r)], A55)) rfl ?_
      refine wp_gf rfl rfl h64.rc rfl rfl ?_
      refine wp_st 3 (f' := (135, [some (.ref (r)), some (.int (Int32.ofNat i)), some (.ref (rs.getD j 0)), some (.int (Int32.ofNat l)), some (.long (Int64.ofNat (10 ^ k))), none, some (.long (Int64.ofInt (wr_rest M i y k))), none, some (.int ((-1))), some (.int (Int32.ofNat 1)), some (.int (Int32.ofNat (ct_cat S1 (wr_rest M i y k).natAbs k 5 0)))], [.int (Int32.ofNat (ct_cat S1 (wr_rest M i y k).natAbs k 5 0)), .ref (2), .int (Int32.ofNat i), .ref (m)], A55)) rfl ?_
      refine wp_al rfl (Or.inr (Or.inl ⟨rfl, rfl⟩)) rfl (show _ = some (101, ru_CW.map Value.long) from h64.K.cat) (by omega) (sb_gd 0 (show _ < 6 by omega)) rfl ?_
      rcases hc : mg_bw M i (ru_CW.getD (ct_cat S1 (wr_rest M i y k).natAbs k 5 0) 0) (mg_B M) 0 with _ | jhc
      · skip
        refine wp_cv (A' := A55) (v := some (.int ((-1)))) rfl rfl rfl rfl rfl h64.mc (by omega) (by have q := mn_with (d := d - 1) (o := i) (s := ru_CW.getD (ct_cat S1 (wr_rest M i y k).natAbs k 5 0) 0) (by omega) h64.N; rw [hc] at q; exact q) rfl ?_
        show am_wp d 112 (139, [some (.ref (r)), some (.int (Int32.ofNat i)), some (.ref (rs.getD j 0)), some (.int (Int32.ofNat l)), some (.long (Int64.ofNat (10 ^ k))), none, some (.long (Int64.ofInt (wr_rest M i y k))), none, some (.int ((-1))), some (.int (Int32.ofNat 1)), some (.int (Int32.ofNat (ct_cat S1 (wr_rest M i y k).natAbs k 5 0)))], [.int ((-1))], A55) _
        refine wp_st 3 (f' := (144, [some (.ref (r)), some (.int (Int32.ofNat i)), some (.ref (rs.getD j 0)), some (.int (Int32.ofNat l)), some (.long (Int64.ofNat (10 ^ k))), none, some (.long (Int64.ofInt (wr_rest M i y k))), none, some (.int ((-1))), some (.int (Int32.ofNat 1)), some (.int (Int32.ofNat (ct_cat S1 (wr_rest M i y k).natAbs k 5 0)))], [.int ((-1)), .int ((-1))], A55)) rfl ?_
        refine wp_ifF rfl rfl (fun q => q rfl) ?_
        refine wp_st 1 (f' := (148, [some (.ref (r)), some (.int (Int32.ofNat i)), some (.ref (rs.getD j 0)), some (.int (Int32.ofNat l)), some (.long (Int64.ofNat (10 ^ k))), none, some (.long (Int64.ofInt (wr_rest M i y k))), none, some (.int ((-1))), some (.int (Int32.ofNat 1)), some (.int (Int32.ofNat (ct_cat S1 (wr_rest M i y k).natAbs k 5 0)))], [.ref (r)], A55)) rfl ?_
        refine wp_gf rfl rfl h64.rc rfl rfl ?_
        refine wp_st 2 (f' := (155, [some (.ref (r)), some (.int (Int32.ofNat i)), some (.ref (rs.getD j 0)), some (.int (Int32.ofNat l)), some (.long (Int64.ofNat (10 ^ k))), none, some (.long (Int64.ofInt (wr_rest M i y k))), none, some (.int ((-1))), some (.int (Int32.ofNat 1)), some (.int (Int32.ofNat (ct_cat S1 (wr_rest M i y k).natAbs k 5 0)))], [.long ((478694368626)), .int (Int32.ofNat i), .ref (m)], A55)) rfl ?_
        rcases hb : mg_bw M i (sb_OTH) (mg_B M) 0 with _ | jhb
        · skip
          refine wp_cv (A' := A55) (v := some (.int ((-1)))) rfl rfl rfl rfl rfl h64.mc (by omega) (by have q := mn_with (d := d - 1) (o := i) (s := sb_OTH) (by omega) h64.N; rw [hb] at q; exact q) rfl ?_
          show am_wp d 112 (158, [some (.ref (r)), some (.int (Int32.ofNat i)), some (.ref (rs.getD j 0)), some (.int (Int32.ofNat l)), some (.long (Int64.ofNat (10 ^ k))), none, some (.long (Int64.ofInt (wr_rest M i y k))), none, some (.int ((-1))), some (.int (Int32.ofNat 1)), some (.int (Int32.ofNat (ct_cat S1 (wr_rest M i y k).natAbs k 5 0)))], [.int ((-1))], A55) _
          refine wp_st 6 (f' := (167, [some (.ref (r)), some (.int (Int32.ofNat i)), some (.ref (rs.getD j 0)), some (.int (Int32.ofNat l)), some (.long (Int64.ofNat (10 ^ k))), none, some (.long (Int64.ofInt (wr_rest M i y k))), none, some (.int ((-1))), some (.int (Int32.ofNat 1)), some (.int (Int32.ofNat (ct_cat S1 (wr_rest M i y k).natAbs k 5 0)))], [.ref (rs.getD j 0), .long (Int64.ofInt (wr_rest M i y k)), .int (Int32.ofNat l), .int ((-1)), .ref (r)], A55)) rfl ?_
          refine wp_gf rfl rfl (h64.vc hj hxj) rfl rfl ?_
          rcases hr9 : wr_br M inner none (wr_rest M i y k) k w with c9 | w9
          · skip
            obtain ⟨w69, A65, p70, c71, g66, h67, f68⟩ := wr_Q0 (wi_br (d := d - 1) (D0 := D0) (l := l) (inner := inner) (b := none) (y := wr_rest M i y k) (k := k) (by omega) (by omega) (by omega) (by omega) (by omega) (fun j e => by cases e <;> omega) hin hwf h64) hr9
            have f72 := f63.trans f68
            have p73 : c9 ≠ 3 → w <+: w69 := fun e => (List.prefix_refl w).trans (p70 e)
            refine wp_cv (A' := A65) (v := some (.int (Int32.ofNat c9))) rfl rfl rfl rfl rfl h64.rc (by omega) (g66) rfl ?_
            show am_wp d 112 (173, [some (.ref (r)), some (.int (Int32.ofNat i)), some (.ref (rs.getD j 0)), some (.int (Int32.ofNat l)), some (.long (Int64.ofNat (10 ^ k))), none, some (.long (Int64.ofInt (wr_rest M i y k))), none, some (.int ((-1))), some (.int (Int32.ofNat 1)), some (.int (Int32.ofNat (ct_cat S1 (wr_rest M i y k).natAbs k 5 0)))], [.int (Int32.ofNat c9)], A65) _
            refine wp_rt rfl rfl rfl ?_
            have hres : wr_br M inner (wr_plub M S0 S1 i y k) (wr_rest M i y k) k w = .error c9 := by simp only [wr_plub, wr_exb, wr_catb, wr_or, hy0, h2, hc, hb, hr9, ↓reduceIte]
            rw [hres]
            exact wr_Q_er c71 p73 h67 f72
          · skip
            obtain ⟨A74, g75, h76, f77⟩ := wr_Q1 (wi_br (d := d - 1) (D0 := D0) (l := l) (inner := inner) (b := none) (y := wr_rest M i y k) (k := k) (by omega) (by omega) (by omega) (by omega) (by omega) (fun j e => by cases e <;> omega) hin hwf h64) hr9
            have f78 := f63.trans f77
            refine wp_cv (A' := A74) (v := some (.int (Int32.ofNat 0))) rfl rfl rfl rfl rfl h64.rc (by omega) (g75) rfl ?_
            show am_wp d 112 (173, [some (.ref (r)), some (.int (Int32.ofNat i)), some (.ref (rs.getD j 0)), some (.int (Int32.ofNat l)), some (.long (Int64.ofNat (10 ^ k))), none, some (.long (Int64.ofInt (wr_rest M i y k))), none, some (.int ((-1))), some (.int (Int32.ofNat 1)), some (.int (Int32.ofNat (ct_cat S1 (wr_rest M i y k).natAbs k 5 0)))], [.int (Int32.ofNat 0)], A74) _
            refine wp_rt rfl rfl rfl ?_
            have hres : wr_br M inner (wr_plub M S0 S1 i y k) (wr_rest M i y k) k w = .ok w9 := by simp only [wr_plub, wr_exb, wr_catb, wr_or, hy0, h2, hc, hb, hr9, ↓reduceIte]
            rw [hres]
            exact wr_Q_ok h76 f78
        · skip
          have hbl := mg_bw_lt hb
          refine wp_cv (A' := A55) (v := some (.int (Int32.ofNat jhb))) rfl rfl rfl rfl rfl h64.mc (by omega) (by have q := mn_with (d := d - 1) (o := i) (s := sb_OTH) (by omega) h64.N; rw [hb] at q; exact q) rfl ?_
          show am_wp d 112 (158, [some (.ref (r)), some (.int (Int32.ofNat i)), some (.ref (rs.getD j 0)), some (.int (Int32.ofNat l)), some (.long (Int64.ofNat (10 ^ k))), none, some (.long (Int64.ofInt (wr_rest M i y k))), none, some (.int ((-1))), some (.int (Int32.ofNat 1)), some (.int (Int32.ofNat (ct_cat S1 (wr_rest M i y k).natAbs k 5 0)))], [.int (Int32.ofNat jhb)], A55) _
          refine wp_st 6 (f' := (167, [some (.ref (r)), some (.int (Int32.ofNat i)), some (.ref (rs.getD j 0)), some (.int (Int32.ofNat l)), some (.long (Int64.ofNat (10 ^ k))), none, some (.long (Int64.ofInt (wr_rest M i y k))), none, some (.int (Int32.ofNat jhb)), some (.int (Int32.ofNat 1)), some (.int (Int32.ofNat (ct_cat S1 (wr_rest M i y k).natAbs k 5 0)))], [.ref (rs.getD j 0), .long (Int64.ofInt (wr_rest M i y k)), .int (Int32.ofNat l), .int (Int32.ofNat jhb), .ref (r)], A55)) rfl ?_
          refine wp_gf rfl rfl (h64.vc hj hxj) rfl rfl ?_
          rcases hr9 : wr_br M inner (some jhb) (wr_rest M i y k) k w with c9 | w9
          · skip
            obtain ⟨w83, A79, p84, c85, g80, h81, f82⟩ := wr_Q0 (wi_br (d := d - 1) (D0 := D0) (l := l) (inner := inner) (b := (some jhb)) (y := wr_rest M i y k) (k := k) (by omega) (by omega) (by omega) (by omega) (by omega) (fun j e => by cases e <;> omega) hin hwf h64) hr9
            have f86 := f63.trans f82
            have p87 : c9 ≠ 3 → w <+: w83 := fun e => (List.prefix_refl w).trans (p84 e)
            refine wp_cv (A' := A79) (v := some (.int (Int32.ofNat c9))) rfl rfl rfl rfl rfl h64.rc (by omega) (g80) rfl ?_
            show am_wp d 112 (173, [some (.ref (r)), some (.int (Int32.ofNat i)), some (.ref (rs.getD j 0)), some (.int (Int32.ofNat l)), some (.long (Int64.ofNat (10 ^ k))), none, some (.long (Int64.ofInt (wr_rest M i y k))), none, some (.int (Int32.ofNat jhb)), some (.int (Int32.ofNat 1)), some (.int (Int32.ofNat (ct_cat S1 (wr_rest M i y k).natAbs k 5 0)))], [.int (Int32.ofNat c9)], A79) _
            refine wp_rt rfl rfl rfl ?_
            have hres : wr_br M inner (wr_plub M S0 S1 i y k) (wr_rest M i y k) k w = .error c9 := by simp only [wr_plub, wr_exb, wr_catb, wr_or, hy0, h2, hc, hb, hr9, ↓reduceIte]
            rw [hres]
            exact wr_Q_er c85 p87 h81 f86
          · skip
            obtain ⟨A88, g89, h90, f91⟩ := wr_Q1 (wi_br (d := d - 1) (D0 := D0) (l := l) (inner := inner) (b := (some jhb)) (y := wr_rest M i y k) (k := k) (by omega) (by omega) (by omega) (by omega) (by omega) (fun j e => by cases e <;> omega) hin hwf h64) hr9
            have f92 := f63.trans f91
            refine wp_cv (A' := A88) (v := some (.int (Int32.ofNat 0))) rfl rfl rfl rfl rfl h64.rc (by omega) (g89) rfl ?_
            show am_wp d 112 (173, [some (.ref (r)), some (.int (Int32.ofNat i)), some (.ref (rs.getD j 0)), some (.int (Int32.ofNat l)), some (.long (Int64.ofNat (10 ^ k))), none, some (.long (Int64.ofInt (wr_rest M i y k))), none, some (.int (Int32.ofNat jhb)), some (.int (Int32.ofNat 1)), some (.int (Int32.ofNat (ct_cat S1 (wr_rest M i y k).natAbs k 5 0)))], [.int (Int32.ofNat 0)], A88) _
            refine wp_rt rfl rfl rfl ?_
            have hres : wr_br M inner (wr_plub M S0 S1 i y k) (wr_rest M i y k) k w = .ok w9 := by simp only [wr_plub, wr_exb, wr_catb, wr_or, hy0, h2, hc, hb, hr9, ↓reduceIte]
            rw [hres]
            exact wr_Q_ok h90 f92
      · skip
        have hcl := mg_bw_lt hc
        refine wp_cv (A' := A55) (v := some (.int (Int32.ofNat jhc))) rfl rfl rfl rfl rfl h64.mc (by omega) (by have q := mn_with (d := d - 1) (o := i) (s := ru_CW.getD (ct_cat S1 (wr_rest M i y k).natAbs k 5 0) 0) (by omega) h64.N; rw [hc] at q; exact q) rfl ?_
        show am_wp d 112 (139, [some (.ref (r)), some (.int (Int32.ofNat i)), some (.ref (rs.getD j 0)), some (.int (Int32.ofNat l)), some (.long (Int64.ofNat (10 ^ k))), none, some (.long (Int64.ofInt (wr_rest M i y k))), none, some (.int ((-1))), some (.int (Int32.ofNat 1)), some (.int (Int32.ofNat (ct_cat S1 (wr_rest M i y k).natAbs k 5 0)))], [.int (Int32.ofNat jhc)], A55) _
        refine wp_st 3 (f' := (144, [some (.ref (r)), some (.int (Int32.ofNat i)), some (.ref (rs.getD j 0)), some (.int (Int32.ofNat l)), some (.long (Int64.ofNat (10 ^ k))), none, some (.long (Int64.ofInt (wr_rest M i y k))), none, some (.int (Int32.ofNat jhc)), some (.int (Int32.ofNat 1)), some (.int (Int32.ofNat (ct_cat S1 (wr_rest M i y k).natAbs k 5 0)))], [.int ((-1)), .int (Int32.ofNat jhc)], A55)) rfl ?_
        refine wp_ifT rfl rfl (i32_neg1 (by omega)) ?_
        refine wp_st 5 (f' := (167, [some (.ref (r)), some (.int (Int32.ofNat i)), some (.ref (rs.getD j 0)), some (.int (Int32.ofNat l)), some (.long (Int64.ofNat (10 ^ k))), none, some (.long (Int64.ofInt (wr_rest M i y k))), none, some (.int (Int32.ofNat jhc)), some (.int (Int32.ofNat 1)), some (.int (Int32.ofNat (ct_cat S1 (wr_rest M i y k).natAbs k 5 0)))], [.ref (rs.getD j 0), .long (Int64.ofInt (wr_rest M i y k)), .int (Int32.ofNat l), .int (Int32.ofNat jhc), .ref (r)], A55)) rfl ?_
        refine wp_gf rfl rfl (h64.vc hj hxj) rfl rfl ?_
        rcases hr9 : wr_br M inner (some jhc) (wr_rest M i y k) k w with c9 | w9
        · skip
          obtain ⟨w97, A93, p98, c99, g94, h95, f96⟩ := wr_Q0 (wi_br (d := d - 1) (D0 := D0) (l := l) (inner := inner) (b := (some jhc)) (y := wr_rest M i y k) (k := k) (by omega) (by omega) (by omega) (by omega) (by omega) (fun j e => by cases e <;> omega) hin hwf h64) hr9
          have f100 := f63.trans f96
          have p101 : c9 ≠ 3 → w <+: w97 := fun e => (List.prefix_refl w).trans (p98 e)
          refine wp_cv (A' := A93) (v := some (.int (Int32.ofNat c9))) rfl rfl rfl rfl rfl h64.rc (by omega) (g94) rfl ?_
          show am_wp d 112 (173, [some (.ref (r)), some (.int (Int32.ofNat i)), some (.ref (rs.getD j 0)), some (.int (Int32.ofNat l)), some (.long (Int64.ofNat (10 ^ k))), none, some (.long (Int64.ofInt (wr_rest M i y k))), none, some (.int (Int32.ofNat jhc)), some (.int (Int32.ofNat 1)), some (.int (Int32.ofNat (ct_cat S1 (wr_rest M i y k).natAbs k 5 0)))], [.int (Int32.ofNat c9)], A93) _
          refine wp_rt rfl rfl rfl ?_
          have hres : wr_br M inner (wr_plub M S0 S1 i y k) (wr_rest M i y k) k w = .error c9 := by simp only [wr_plub, wr_exb, wr_catb, wr_or, hy0, h2, hc, hr9, ↓reduceIte]
          rw [hres]
          exact wr_Q_er c99 p101 h95 f100
        · skip
          obtain ⟨A102, g103, h104, f105⟩ := wr_Q1 (wi_br (d := d - 1) (D0 := D0) (l := l) (inner := inner) (b := (some jhc)) (y := wr_rest M i y k) (k := k) (by omega) (by omega) (by omega) (by omega) (by omega) (fun j e => by cases e <;> omega) hin hwf h64) hr9
          have f106 := f63.trans f105
          refine wp_cv (A' := A102) (v := some (.int (Int32.ofNat 0))) rfl rfl rfl rfl rfl h64.rc (by omega) (g103) rfl ?_
          show am_wp d 112 (173, [some (.ref (r)), some (.int (Int32.ofNat i)), some (.ref (rs.getD j 0)), some (.int (Int32.ofNat l)), some (.long (Int64.ofNat (10 ^ k))), none, some (.long (Int64.ofInt (wr_rest M i y k))), none, some (.int (Int32.ofNat jhc)), some (.int (Int32.ofNat 1)), some (.int (Int32.ofNat (ct_cat S1 (wr_rest M i y k).natAbs k 5 0)))], [.int (Int32.ofNat 0)], A102) _
          refine wp_rt rfl rfl rfl ?_
          have hres : wr_br M inner (wr_plub M S0 S1 i y k) (wr_rest M i y k) k w = .ok w9 := by simp only [wr_plub, wr_exb, wr_catb, wr_or, hy0, h2, hc, hr9, ↓reduceIte]
          rw [hres]
          exact wr_Q_ok h104 f106
  · skip
    have hy0 : ¬ y < 0 := fun e => h1 ((lg_cmp_lt _ _).mpr (by rw [i64_negz e]; exact Int64.not_le.mp (i64_neg (by omega) (by omega))))
    refine wp_st 1 (f' := (49, [some (.ref (r)), some (.int (Int32.ofNat i)), some (.ref (rs.getD j 0)), some (.int (Int32.ofNat l)), some (.long (Int64.ofNat (10 ^ k))), none, some (.long (Int64.ofInt (wr_rest M i y k))), none, some (.int ((-1))), none, none], [.ref (rs.getD j 0)], A)) rfl ?_
    refine wp_gf rfl rfl (h.vc hj hxj) rfl rfl ?_
    refine wp_st 1 (f' := (54, [some (.ref (r)), some (.int (Int32.ofNat i)), some (.ref (rs.getD j 0)), some (.int (Int32.ofNat l)), some (.long (Int64.ofNat (10 ^ k))), none, some (.long (Int64.ofInt (wr_rest M i y k))), none, some (.int ((-1))), none, none], [.long (Int64.ofNat (10 ^ k)), .long (Int64.ofInt y)], A)) rfl ?_
    refine wp_lr rfl (fun q => absurd ((i64_eq (a := 10 ^ k) (b := 0) (by omega) (by omega)).mp q) (by omega)) rfl ?_
    rw [show Int64.ofInt y - Int64.ofInt y / Int64.ofNat (10 ^ k) * Int64.ofNat (10 ^ k) = Int64.ofNat (y.natAbs % 10 ^ k) from by rw [i64_pos hy0]; exact i64_rem (by omega) (by omega)]
    refine wp_st 2 (f' := (57, [some (.ref (r)), some (.int (Int32.ofNat i)), some (.ref (rs.getD j 0)), some (.int (Int32.ofNat l)), some (.long (Int64.ofNat (10 ^ k))), none, some (.long (Int64.ofInt (wr_rest M i y k))), none, some (.int ((-1))), none, none], [.int (lg_cmp (Int64.ofNat (y.natAbs % 10 ^ k)) (Int64.ofNat 0))], A)) rfl ?_
    refine wp_iz rfl rfl rfl (fun (h107 : (lg_cmp (Int64.ofNat (y.natAbs % 10 ^ k)) (Int64.ofNat 0)) ≠ (Int32.ofNat 0)) => ?_) (fun (h107 : ¬ ((lg_cmp (Int64.ofNat (y.natAbs % 10 ^ k)) (Int64.ofNat 0)) ≠ (Int32.ofNat 0))) => ?_)
    · skip
      have hym : ¬ y.natAbs % 10 ^ k = 0 := fun e => h107 ((lg_cmp_eq _ _).mpr ((i64_eq (by omega) (by omega)).mpr e))
      refine wp_st 2 (f' := (83, [some (.ref (r)), some (.int (Int32.ofNat i)), some (.ref (rs.getD j 0)), some (.int (Int32.ofNat l)), some (.long (Int64.ofNat (10 ^ k))), none, some (.long (Int64.ofInt (wr_rest M i y k))), none, some (.int ((-1))), none, none], [.int ((-1)), .int ((-1))], A)) rfl ?_
      refine wp_ifF rfl rfl (fun q => q rfl) ?_
      refine wp_st 1 (f' := (87, [some (.ref (r)), some (.int (Int32.ofNat i)), some (.ref (rs.getD j 0)), some (.int (Int32.ofNat l)), some (.long (Int64.ofNat (10 ^ k))), none, some (.long (Int64.ofInt (wr_rest M i y k))), none, some (.int ((-1))), none, none], [.ref (r)], A)) rfl ?_
      refine wp_gf rfl rfl h.rc rfl rfl ?_
      refine wp_gf rfl rfl h.mc rfl rfl ?_
      refine wp_st 1 (f' := (94, [some (.ref (r)), some (.int (Int32.ofNat i)), some (.ref (rs.getD j 0)), some (.int (Int32.ofNat l)), some (.long (Int64.ofNat (10 ^ k))), none, some (.long (Int64.ofInt (wr_rest M i y k))), none, some (.int ((-1))), none, none], [.int (Int32.ofNat i), .ref (m + 1)], A)) rfl ?_
      refine wp_mgk h.N rfl (by omega) rfl ?_
      refine wp_st 1 (f' := (97, [some (.ref (r)), some (.int (Int32.ofNat i)), some (.ref (rs.getD j 0)), some (.int (Int32.ofNat l)), some (.long (Int64.ofNat (10 ^ k))), none, some (.long (Int64.ofInt (wr_rest M i y k))), none, some (.int ((-1))), none, none], [.int (Int32.ofNat 8), .int (Int32.ofNat (mg_k M i))], A)) rfl ?_
      refine wp_if rfl rfl rfl (fun (h108 : (Int32.ofNat (mg_k M i)) ≠ (Int32.ofNat 8)) => ?_) (fun (h108 : ¬ ((Int32.ofNat (mg_k M i)) ≠ (Int32.ofNat 8))) => ?_)
      · skip
        rw [ne_eq, i32_eq (by omega) (by omega)] at h108
        refine wp_st 3 (f' := (108, [some (.ref (r)), some (.int (Int32.ofNat i)), some (.ref (rs.getD j 0)), some (.int (Int32.ofNat l)), some (.long (Int64.ofNat (10 ^ k))), none, some (.long (Int64.ofInt (wr_rest M i y k))), none, some (.int ((-1))), some (.int (Int32.ofNat 0)), none], [.ref (r)], A)) rfl ?_
        refine wp_gf rfl rfl h.rc rfl rfl ?_
        refine wp_st 1 (f' := (113, [some (.ref (r)), some (.int (Int32.ofNat i)), some (.ref (rs.getD j 0)), some (.int (Int32.ofNat l)), some (.long (Int64.ofNat (10 ^ k))), none, some (.long (Int64.ofInt (wr_rest M i y k))), none, some (.int ((-1))), some (.int (Int32.ofNat 0)), none], [.int (Int32.ofNat 0), .ref (q)], A)) rfl ?_
        refine wp_al rfl (Or.inr (Or.inr (Or.inr (Or.inr ⟨rfl, rfl⟩)))) rfl h.qc (by omega) rfl rfl ?_
        refine wp_st 2 (f' := (117, [some (.ref (r)), some (.int (Int32.ofNat i)), some (.ref (rs.getD j 0)), some (.int (Int32.ofNat l)), some (.long (Int64.ofNat (10 ^ k))), none, some (.long (Int64.ofInt (wr_rest M i y k))), none, some (.int ((-1))), some (.int (Int32.ofNat 0)), none], [.ref (rs.getD j 0), .long (Int64.ofInt (wr_rest M i y k)), .ref (s0)], A)) rfl ?_
        refine wp_gf rfl rfl (h.vc hj hxj) rfl rfl ?_
        obtain ⟨am9, un9, hP9⟩ := h.2.2.2.2.2.2.1
        obtain ⟨A109, g110, a111, a112, a113⟩ := gn_catz (d := d - 1) (z := wr_rest M i y k) (k := k) (by omega) hk hrest hw0 h.K.ten hP9 h.2.2.2.2.1
        have h114 := h.cat0 a111 a112 a113
        obtain ⟨v115, v116⟩ := h.gc0
        have f117 := (wr_F.refl A s0 s1 u).trans h114.2
        have h118 := h114.1
        have hcl := ct_cat_le S0 (wr_rest M i y k).natAbs k 5 0 rfl
        refine wp_cv (A' := A109) (v := some (.int (Int32.ofNat (ct_cat S0 (wr_rest M i y k).natAbs k 5 0)))) rfl rfl rfl rfl rfl v116 (by omega) (g110) rfl ?_
        show am_wp d 112 (123, [some (.ref (r)), some (.int (Int32.ofNat i)), some (.ref (rs.getD j 0)), some (.int (Int32.ofNat l)), some (.long (Int64.ofNat (10 ^ k))), none, some (.long (Int64.ofInt (wr_rest M i y k))), none, some (.int ((-1))), some (.int (Int32.ofNat 0)), none], [.int (Int32.ofNat (ct_cat S0 (wr_rest M i y k).natAbs k 5 0))], A109) _
        refine wp_st 2 (f' := (126, [some (.ref (r)), some (.int (Int32.ofNat i)), some (.ref (rs.getD j 0)), some (.int (Int32.ofNat l)), some (.long (Int64.ofNat (10 ^ k))), none, some (.long (Int64.ofInt (wr_rest M i y k))), none, some (.int ((-1))), some (.int (Int32.ofNat 0)), some (.int (Int32.ofNat (ct_cat S0 (wr_rest M i y k).natAbs k 5 0)))], [.ref (r)], A109)) rfl ?_
        refine wp_gf rfl rfl h118.rc rfl rfl ?_
        refine wp_st 3 (f' := (135, [some (.ref (r)), some (.int (Int32.ofNat i)), some (.ref (rs.getD j 0)), some (.int (Int32.ofNat l)), some (.long (Int64.ofNat (10 ^ k))), none, some (.long (Int64.ofInt (wr_rest M i y k))), none, some (.int ((-1))), some (.int (Int32.ofNat 0)), some (.int (Int32.ofNat (ct_cat S0 (wr_rest M i y k).natAbs k 5 0)))], [.int (Int32.ofNat (ct_cat S0 (wr_rest M i y k).natAbs k 5 0)), .ref (2), .int (Int32.ofNat i), .ref (m)], A109)) rfl ?_
        refine wp_al rfl (Or.inr (Or.inl ⟨rfl, rfl⟩)) rfl (show _ = some (101, ru_CW.map Value.long) from h118.K.cat) (by omega) (sb_gd 0 (show _ < 6 by omega)) rfl ?_
        rcases hc : mg_bw M i (ru_CW.getD (ct_cat S0 (wr_rest M i y k).natAbs k 5 0) 0) (mg_B M) 0 with _ | jhc
        · skip
          refine wp_cv (A' := A109) (v := some (.int ((-1)))) rfl rfl rfl rfl rfl h118.mc (by omega) (by have q := mn_with (d := d - 1) (o := i) (s := ru_CW.getD (ct_cat S0 (wr_rest M i y k).natAbs k 5 0) 0) (by omega) h118.N; rw [hc] at q; exact q) rfl ?_
          show am_wp d 112 (139, [some (.ref (r)), some (.int (Int32.ofNat i)), some (.ref (rs.getD j 0)), some (.int (Int32.ofNat l)), some (.long (Int64.ofNat (10 ^ k))), none, some (.long (Int64.ofInt (wr_rest M i y k))), none, some (.int ((-1))), some (.int (Int32.ofNat 0)), some (.int (Int32.ofNat (ct_cat S0 (wr_rest M i y k).natAbs k 5 0)))], [.int ((-1))], A109) _
          refine wp_st 3 (f' := (144, [some (.ref (r)), some (.int (Int32.ofNat i)), some (.ref (rs.getD j 0)), some (.int (Int32.ofNat l)), some (.long (Int64.ofNat (10 ^ k))), none, some (.long (Int64.ofInt (wr_rest M i y k))), none, some (.int ((-1))), some (.int (Int32.ofNat 0)), some (.int (Int32.ofNat (ct_cat S0 (wr_rest M i y k).natAbs k 5 0)))], [.int ((-1)), .int ((-1))], A109)) rfl ?_
          refine wp_ifF rfl rfl (fun q => q rfl) ?_
          refine wp_st 1 (f' := (148, [some (.ref (r)), some (.int (Int32.ofNat i)), some (.ref (rs.getD j 0)), some (.int (Int32.ofNat l)), some (.long (Int64.ofNat (10 ^ k))), none, some (.long (Int64.ofInt (wr_rest M i y k))), none, some (.int ((-1))), some (.int (Int32.ofNat 0)), some (.int (Int32.ofNat (ct_cat S0 (wr_rest M i y k).natAbs k 5 0)))], [.ref (r)], A109)) rfl ?_
          refine wp_gf rfl rfl h118.rc rfl rfl ?_
          refine wp_st 2 (f' := (155, [some (.ref (r)), some (.int (Int32.ofNat i)), some (.ref (rs.getD j 0)), some (.int (Int32.ofNat l)), some (.long (Int64.ofNat (10 ^ k))), none, some (.long (Int64.ofInt (wr_rest M i y k))), none, some (.int ((-1))), some (.int (Int32.ofNat 0)), some (.int (Int32.ofNat (ct_cat S0 (wr_rest M i y k).natAbs k 5 0)))], [.long ((478694368626)), .int (Int32.ofNat i), .ref (m)], A109)) rfl ?_
          rcases hb : mg_bw M i (sb_OTH) (mg_B M) 0 with _ | jhb
          · skip
            refine wp_cv (A' := A109) (v := some (.int ((-1)))) rfl rfl rfl rfl rfl h118.mc (by omega) (by have q := mn_with (d := d - 1) (o := i) (s := sb_OTH) (by omega) h118.N; rw [hb] at q; exact q) rfl ?_
            show am_wp d 112 (158, [some (.ref (r)), some (.int (Int32.ofNat i)), some (.ref (rs.getD j 0)), some (.int (Int32.ofNat l)), some (.long (Int64.ofNat (10 ^ k))), none, some (.long (Int64.ofInt (wr_rest M i y k))), none, some (.int ((-1))), some (.int (Int32.ofNat 0)), some (.int (Int32.ofNat (ct_cat S0 (wr_rest M i y k).natAbs k 5 0)))], [.int ((-1))], A109) _
            refine wp_st 6 (f' := (167, [some (.ref (r)), some (.int (Int32.ofNat i)), some (.ref (rs.getD j 0)), some (.int (Int32.ofNat l)), some (.long (Int64.ofNat (10 ^ k))), none, some (.long (Int64.ofInt (wr_rest M i y k))), none, some (.int ((-1))), some (.int (Int32.ofNat 0)), some (.int (Int32.ofNat (ct_cat S0 (wr_rest M i y k).natAbs k 5 0)))], [.ref (rs.getD j 0), .long (Int64.ofInt (wr_rest M i y k)), .int (Int32.ofNat l), .int ((-1)), .ref (r)], A109)) rfl ?_
            refine wp_gf rfl rfl (h118.vc hj hxj) rfl rfl ?_
            rcases hr9 : wr_br M inner none (wr_rest M i y k) k w with c9 | w9
            · skip
              obtain ⟨w123, A119, p124, c125, g120, h121, f122⟩ := wr_Q0 (wi_br (d := d - 1) (D0 := D0) (l := l) (inner := inner) (b := none) (y := wr_rest M i y k) (k := k) (by omega) (by omega) (by omega) (by omega) (by omega) (fun j e => by cases e <;> omega) hin hwf h118) hr9
              have f126 := f117.trans f122
              have p127 : c9 ≠ 3 → w <+: w123 := fun e => (List.prefix_refl w).trans (p124 e)
              refine wp_cv (A' := A119) (v := some (.int (Int32.ofNat c9))) rfl rfl rfl rfl rfl h118.rc (by omega) (g120) rfl ?_
              show am_wp d 112 (173, [some (.ref (r)), some (.int (Int32.ofNat i)), some (.ref (rs.getD j 0)), some (.int (Int32.ofNat l)), some (.long (Int64.ofNat (10 ^ k))), none, some (.long (Int64.ofInt (wr_rest M i y k))), none, some (.int ((-1))), some (.int (Int32.ofNat 0)), some (.int (Int32.ofNat (ct_cat S0 (wr_rest M i y k).natAbs k 5 0)))], [.int (Int32.ofNat c9)], A119) _
              refine wp_rt rfl rfl rfl ?_
              have hres : wr_br M inner (wr_plub M S0 S1 i y k) (wr_rest M i y k) k w = .error c9 := by simp only [wr_plub, wr_exb, wr_catb, wr_or, hy0, hym, h108, hc, hb, hr9, ↓reduceIte]
              rw [hres]
              exact wr_Q_er c125 p127 h121 f126
            · skip
              obtain ⟨A128, g129, h130, f131⟩ := wr_Q1 (wi_br (d := d - 1) (D0 := D0) (l := l) (inner := inner) (b := none) (y := wr_rest M i y k) (k := k) (by omega) (by omega) (by omega) (by omega) (by omega) (fun j e => by cases e <;> omega) hin hwf h118) hr9
              have f132 := f117.trans f131
              refine wp_cv (A' := A128) (v := some (.int (Int32.ofNat 0))) rfl rfl rfl rfl rfl h118.rc (by omega) (g129) rfl ?_
              show am_wp d 112 (173, [some (.ref (r)), some (.int (Int32.ofNat i)), some (.ref (rs.getD j 0)), some (.int (Int32.ofNat l)), some (.long (Int64.ofNat (10 ^ k))), none, some (.long (Int64.ofInt (wr_rest M i y k))), none, some (.int ((-1))), some (.int (Int32.ofNat 0)), some (.int (Int32.ofNat (ct_cat S0 (wr_rest M i y k).natAbs k 5 0)))], [.int (Int32.ofNat 0)], A128) _
              refine wp_rt rfl rfl rfl ?_
              have hres : wr_br M inner (wr_plub M S0 S1 i y k) (wr_rest M i y k) k w = .ok w9 := by simp only [wr_plub, wr_exb, wr_catb, wr_or, hy0, hym, h108, hc, hb, hr9, ↓reduceIte]
              rw [hres]
              exact wr_Q_ok h130 f132
          · skip
            have hbl := mg_bw_lt hb
            refine wp_cv (A' := A109) (v := some (.int (Int32.ofNat jhb))) rfl rfl rfl rfl rfl h118.mc (by omega) (by have q := mn_with (d := d - 1) (o := i) (s := sb_OTH) (by omega) h118.N; rw [hb] at q; exact q) rfl ?_
            show am_wp d 112 (158, [some (.ref (r)), some (.int (Int32.ofNat i)), some (.ref (rs.getD j 0)), some (.int (Int32.ofNat l)), some (.long (Int64.ofNat (10 ^ k))), none, some (.long (Int64.ofInt (wr_rest M i y k))), none, some (.int ((-1))), some (.int (Int32.ofNat 0)), some (.int (Int32.ofNat (ct_cat S0 (wr_rest M i y k).natAbs k 5 0)))], [.int (Int32.ofNat jhb)], A109) _
            refine wp_st 6 (f' := (167, [some (.ref (r)), some (.int (Int32.ofNat i)), some (.ref (rs.getD j 0)), some (.int (Int32.ofNat l)), some (.long (Int64.ofNat (10 ^ k))), none, some (.long (Int64.ofInt (wr_rest M i y k))), none, some (.int (Int32.ofNat jhb)), some (.int (Int32.ofNat 0)), some (.int (Int32.ofNat (ct_cat S0 (wr_rest M i y k).natAbs k 5 0)))], [.ref (rs.getD j 0), .long (Int64.ofInt (wr_rest M i y k)), .int (Int32.ofNat l), .int (Int32.ofNat jhb), .ref (r)], A109)) rfl ?_
            refine wp_gf rfl rfl (h118.vc hj hxj) rfl rfl ?_
            rcases hr9 : wr_br M inner (some jhb) (wr_rest M i y k) k w with c9 | w9
            · skip
              obtain ⟨w137, A133, p138, c139, g134, h135, f136⟩ := wr_Q0 (wi_br (d := d - 1) (D0 := D0) (l := l) (inner := inner) (b := (some jhb)) (y := wr_rest M i y k) (k := k) (by omega) (by omega) (by omega) (by omega) (by omega) (fun j e => by cases e <;> omega) hin hwf h118) hr9
              have f140 := f117.trans f136
              have p141 : c9 ≠ 3 → w <+: w137 := fun e => (List.prefix_refl w).trans (p138 e)
              refine wp_cv (A' := A133) (v := some (.int (Int32.ofNat c9))) rfl rfl rfl rfl rfl h118.rc (by omega) (g134) rfl ?_
              show am_wp d 112 (173, [some (.ref (r)), some (.int (Int32.ofNat i)), some (.ref (rs.getD j 0)), some (.int (Int32.ofNat l)), some (.long (Int64.ofNat (10 ^ k))), none, some (.long (Int64.ofInt (wr_rest M i y k))), none, some (.int (Int32.ofNat jhb)), some (.int (Int32.ofNat 0)), some (.int (Int32.ofNat (ct_cat S0 (wr_rest M i y k).natAbs k 5 0)))], [.int (Int32.ofNat c9)], A133) _
              refine wp_rt rfl rfl rfl ?_
              have hres : wr_br M inner (wr_plub M S0 S1 i y k) (wr_rest M i y k) k w = .error c9 := by simp only [wr_plub, wr_exb, wr_catb, wr_or, hy0, hym, h108, hc, hb, hr9, ↓reduceIte]
              rw [hres]
              exact wr_Q_er c139 p141 h135 f140
            · skip
              obtain ⟨A142, g143, h144, f145⟩ := wr_Q1 (wi_br (d := d - 1) (D0 := D0) (l := l) (inner := inner) (b := (some jhb)) (y := wr_rest M i y k) (k := k) (by omega) (by omega) (by omega) (by omega) (by omega) (fun j e => by cases e <;> omega) hin hwf h118) hr9
              have f146 := f117.trans f145
              refine wp_cv (A' := A142) (v := some (.int (Int32.ofNat 0))) rfl rfl rfl rfl rfl h118.rc (by omega) (g143) rfl ?_
              show am_wp d 112 (173, [some (.ref (r)), some (.int (Int32.ofNat i)), some (.ref (rs.getD j 0)), some (.int (Int32.ofNat l)), some (.long (Int64.ofNat (10 ^ k))), none, some (.long (Int64.ofInt (wr_rest M i y k))), none, some (.int (Int32.ofNat jhb)), some (.int (Int32.ofNat 0)), some (.int (Int32.ofNat (ct_cat S0 (wr_rest M i y k).natAbs k 5 0)))], [.int (Int32.ofNat 0)], A142) _
              refine wp_rt rfl rfl rfl ?_
              have hres : wr_br M inner (wr_plub M S0 S1 i y k) (wr_rest M i y k) k w = .ok w9 := by simp only [wr_plub, wr_exb, wr_catb, wr_or, hy0, hym, h108, hc, hb, hr9, ↓reduceIte]
              rw [hres]
              exact wr_Q_ok h144 f146
        · skip
          have hcl := mg_bw_lt hc
          refine wp_cv (A' := A109) (v := some (.int (Int32.ofNat jhc))) rfl rfl rfl rfl rfl h118.mc (by omega) (by have q := mn_with (d := d - 1) (o := i) (s := ru_CW.getD (ct_cat S0 (wr_rest M i y k).natAbs k 5 0) 0) (by omega) h118.N; rw [hc] at q; exact q) rfl ?_
          show am_wp d 112 (139, [some (.ref (r)), some (.int (Int32.ofNat i)), some (.ref (rs.getD j 0)), some (.int (Int32.ofNat l)), some (.long (Int64.ofNat (10 ^ k))), none, some (.long (Int64.ofInt (wr_rest M i y k))), none, some (.int ((-1))), some (.int (Int32.ofNat 0)), some (.int (Int32.ofNat (ct_cat S0 (wr_rest M i y k).natAbs k 5 0)))], [.int (Int32.ofNat jhc)], A109) _
          refine wp_st 3 (f' := (144, [some (.ref (r)), some (.int (Int32.ofNat i)), some (.ref (rs.getD j 0)), some (.int (Int32.ofNat l)), some (.long (Int64.ofNat (10 ^ k))), none, some (.long (Int64.ofInt (wr_rest M i y k))), none, some (.int (Int32.ofNat jhc)), some (.int (Int32.ofNat 0)), some (.int (Int32.ofNat (ct_cat S0 (wr_rest M i y k).natAbs k 5 0)))], [.int ((-1)), .int (Int32.ofNat jhc)], A109)) rfl ?_
          refine wp_ifT rfl rfl (i32_neg1 (by omega)) ?_
          refine wp_st 5 (f' := (167, [some (.ref (r)), some (.int (Int32.ofNat i)), some (.ref (rs.getD j 0)), some (.int (Int32.ofNat l)), some (.long (Int64.ofNat (10 ^ k))), none, some (.long (Int64.ofInt (wr_rest M i y k))), none, some (.int (Int32.ofNat jhc)), some (.int (Int32.ofNat 0)), some (.int (Int32.ofNat (ct_cat S0 (wr_rest M i y k).natAbs k 5 0)))], [.ref (rs.getD j 0), .long (Int64.ofInt (wr_rest M i y k)), .int (Int32.ofNat l), .int (Int32.ofNat jhc), .ref (r)], A109)) rfl ?_
          refine wp_gf rfl rfl (h118.vc hj hxj) rfl rfl ?_
          rcases hr9 : wr_br M inner (some jhc) (wr_rest M i y k) k w with c9 | w9
          · skip
            obtain ⟨w151, A147, p152, c153, g148, h149, f150⟩ := wr_Q0 (wi_br (d := d - 1) (D0 := D0) (l := l) (inner := inner) (b := (some jhc)) (y := wr_rest M i y k) (k := k) (by omega) (by omega) (by omega) (by omega) (by omega) (fun j e => by cases e <;> omega) hin hwf h118) hr9
            have f154 := f117.trans f150
            have p155 : c9 ≠ 3 → w <+: w151 := fun e => (List.prefix_refl w).trans (p152 e)
            refine wp_cv (A' := A147) (v := some (.int (Int32.ofNat c9))) rfl rfl rfl rfl rfl h118.rc (by omega) (g148) rfl ?_
            show am_wp d 112 (173, [some (.ref (r)), some (.int (Int32.ofNat i)), some (.ref (rs.getD j 0)), some (.int (Int32.ofNat l)), some (.long (Int64.ofNat (10 ^ k))), none, some (.long (Int64.ofInt (wr_rest M i y k))), none, some (.int (Int32.ofNat jhc)), some (.int (Int32.ofNat 0)), some (.int (Int32.ofNat (ct_cat S0 (wr_rest M i y k).natAbs k 5 0)))], [.int (Int32.ofNat c9)], A147) _
            refine wp_rt rfl rfl rfl ?_
            have hres : wr_br M inner (wr_plub M S0 S1 i y k) (wr_rest M i y k) k w = .error c9 := by simp only [wr_plub, wr_exb, wr_catb, wr_or, hy0, hym, h108, hc, hr9, ↓reduceIte]
            rw [hres]
            exact wr_Q_er c153 p155 h149 f154
          · skip
            obtain ⟨A156, g157, h158, f159⟩ := wr_Q1 (wi_br (d := d - 1) (D0 := D0) (l := l) (inner := inner) (b := (some jhc)) (y := wr_rest M i y k) (k := k) (by omega) (by omega) (by omega) (by omega) (by omega) (fun j e => by cases e <;> omega) hin hwf h118) hr9
            have f160 := f117.trans f159
            refine wp_cv (A' := A156) (v := some (.int (Int32.ofNat 0))) rfl rfl rfl rfl rfl h118.rc (by omega) (g157) rfl ?_
            show am_wp d 112 (173, [some (.ref (r)), some (.int (Int32.ofNat i)), some (.ref (rs.getD j 0)), some (.int (Int32.ofNat l)), some (.long (Int64.ofNat (10 ^ k))), none, some (.long (Int64.ofInt (wr_rest M i y k))), none, some (.int (Int32.ofNat jhc)), some (.int (Int32.ofNat 0)), some (.int (Int32.ofNat (ct_cat S0 (wr_rest M i y k).natAbs k 5 0)))], [.int (Int32.ofNat 0)], A156) _
            refine wp_rt rfl rfl rfl ?_
            have hres : wr_br M inner (wr_plub M S0 S1 i y k) (wr_rest M i y k) k w = .ok w9 := by simp only [wr_plub, wr_exb, wr_catb, wr_or, hy0, hym, h108, hc, hr9, ↓reduceIte]
            rw [hres]
            exact wr_Q_ok h158 f160
      · skip
        rw [ne_eq, i32_eq (by omega) (by omega)] at h108
        replace h108 := Decidable.not_not.mp h108
        refine wp_st 4 (f' := (108, [some (.ref (r)), some (.int (Int32.ofNat i)), some (.ref (rs.getD j 0)), some (.int (Int32.ofNat l)), some (.long (Int64.ofNat (10 ^ k))), none, some (.long (Int64.ofInt (wr_rest M i y k))), none, some (.int ((-1))), some (.int (Int32.ofNat 1)), none], [.ref (r)], A)) rfl ?_
        refine wp_gf rfl rfl h.rc rfl rfl ?_
        refine wp_st 1 (f' := (113, [some (.ref (r)), some (.int (Int32.ofNat i)), some (.ref (rs.getD j 0)), some (.int (Int32.ofNat l)), some (.long (Int64.ofNat (10 ^ k))), none, some (.long (Int64.ofInt (wr_rest M i y k))), none, some (.int ((-1))), some (.int (Int32.ofNat 1)), none], [.int (Int32.ofNat 1), .ref (q)], A)) rfl ?_
        refine wp_al rfl (Or.inr (Or.inr (Or.inr (Or.inr ⟨rfl, rfl⟩)))) rfl h.qc (by omega) rfl rfl ?_
        refine wp_st 2 (f' := (117, [some (.ref (r)), some (.int (Int32.ofNat i)), some (.ref (rs.getD j 0)), some (.int (Int32.ofNat l)), some (.long (Int64.ofNat (10 ^ k))), none, some (.long (Int64.ofInt (wr_rest M i y k))), none, some (.int ((-1))), some (.int (Int32.ofNat 1)), none], [.ref (rs.getD j 0), .long (Int64.ofInt (wr_rest M i y k)), .ref (s1)], A)) rfl ?_
        refine wp_gf rfl rfl (h.vc hj hxj) rfl rfl ?_
        obtain ⟨am9, un9, hP9⟩ := h.2.2.2.2.2.2.2.1
        obtain ⟨A161, g162, a163, a164, a165⟩ := gn_catz (d := d - 1) (z := wr_rest M i y k) (k := k) (by omega) hk hrest hw1 h.K.ten hP9 h.2.2.2.2.2.1
        have h166 := h.cat1 a163 a164 a165
        obtain ⟨v167, v168⟩ := h.gc1
        have f169 := (wr_F.refl A s0 s1 u).trans h166.2
        have h170 := h166.1
        have hcl := ct_cat_le S1 (wr_rest M i y k).natAbs k 5 0 rfl
        refine wp_cv (A' := A161) (v := some (.int (Int32.ofNat (ct_cat S1 (wr_rest M i y k).natAbs k 5 0)))) rfl rfl rfl rfl rfl v168 (by omega) (g162) rfl ?_
        show am_wp d 112 (123, [some (.ref (r)), some (.int (Int32.ofNat i)), some (.ref (rs.getD j 0)), some (.int (Int32.ofNat l)), some (.long (Int64.ofNat (10 ^ k))), none, some (.long (Int64.ofInt (wr_rest M i y k))), none, some (.int ((-1))), some (.int (Int32.ofNat 1)), none], [.int (Int32.ofNat (ct_cat S1 (wr_rest M i y k).natAbs k 5 0))], A161) _
        refine wp_st 2 (f' := (126, [some (.ref (r)), some (.int (Int32.ofNat i)), some (.ref (rs.getD j 0)), some (.int (Int32.ofNat l)), some (.long (Int64.ofNat (10 ^ k))), none, some (.long (Int64.ofInt (wr_rest M i y k))), none, some (.int ((-1))), some (.int (Int32.ofNat 1)), some (.int (Int32.ofNat (ct_cat S1 (wr_rest M i y k).natAbs k 5 0)))], [.ref (r)], A161)) rfl ?_
        refine wp_gf rfl rfl h170.rc rfl rfl ?_
        refine wp_st 3 (f' := (135, [some (.ref (r)), some (.int (Int32.ofNat i)), some (.ref (rs.getD j 0)), some (.int (Int32.ofNat l)), some (.long (Int64.ofNat (10 ^ k))), none, some (.long (Int64.ofInt (wr_rest M i y k))), none, some (.int ((-1))), some (.int (Int32.ofNat 1)), some (.int (Int32.ofNat (ct_cat S1 (wr_rest M i y k).natAbs k 5 0)))], [.int (Int32.ofNat (ct_cat S1 (wr_rest M i y k).natAbs k 5 0)), .ref (2), .int (Int32.ofNat i), .ref (m)], A161)) rfl ?_
        refine wp_al rfl (Or.inr (Or.inl ⟨rfl, rfl⟩)) rfl (show _ = some (101, ru_CW.map Value.long) from h170.K.cat) (by omega) (sb_gd 0 (show _ < 6 by omega)) rfl ?_
        rcases hc : mg_bw M i (ru_CW.getD (ct_cat S1 (wr_rest M i y k).natAbs k 5 0) 0) (mg_B M) 0 with _ | jhc
        · skip
          refine wp_cv (A' := A161) (v := some (.int ((-1)))) rfl rfl rfl rfl rfl h170.mc (by omega) (by have q := mn_with (d := d - 1) (o := i) (s := ru_CW.getD (ct_cat S1 (wr_rest M i y k).natAbs k 5 0) 0) (by omega) h170.N; rw [hc] at q; exact q) rfl ?_
          show am_wp d 112 (139, [some (.ref (r)), some (.int (Int32.ofNat i)), some (.ref (rs.getD j 0)), some (.int (Int32.ofNat l)), some (.long (Int64.ofNat (10 ^ k))), none, some (.long (Int64.ofInt (wr_rest M i y k))), none, some (.int ((-1))), some (.int (Int32.ofNat 1)), some (.int (Int32.ofNat (ct_cat S1 (wr_rest M i y k).natAbs k 5 0)))], [.int ((-1))], A161) _
          refine wp_st 3 (f' := (144, [some (.ref (r)), some (.int (Int32.ofNat i)), some (.ref (rs.getD j 0)), some (.int (Int32.ofNat l)), some (.long (Int64.ofNat (10 ^ k))), none, some (.long (Int64.ofInt (wr_rest M i y k))), none, some (.int ((-1))), some (.int (Int32.ofNat 1)), some (.int (Int32.ofNat (ct_cat S1 (wr_rest M i y k).natAbs k 5 0)))], [.int ((-1)), .int ((-1))], A161)) rfl ?_
          refine wp_ifF rfl rfl (fun q => q rfl) ?_
          refine wp_st 1 (f' := (148, [some (.ref (r)), some (.int (Int32.ofNat i)), some (.ref (rs.getD j 0)), some (.int (Int32.ofNat l)), some (.long (Int64.ofNat (10 ^ k))), none, some (.long (Int64.ofInt (wr_rest M i y k))), none, some (.int ((-1))), some (.int (Int32.ofNat 1)), some (.int (Int32.ofNat (ct_cat S1 (wr_rest M i y k).natAbs k 5 0)))], [.ref (r)], A161)) rfl ?_
          refine wp_gf rfl rfl h170.rc rfl rfl ?_
          refine wp_st 2 (f' := (155, [some (.ref (r)), some (.int (Int32.ofNat i)), some (.ref (rs.getD j 0)), some (.int (Int32.ofNat l)), some (.long (Int64.ofNat (10 ^ k))), none, some (.long (Int64.ofInt (wr_rest M i y k))), none, some (.int ((-1))), some (.int (Int32.ofNat 1)), some (.int (Int32.ofNat (ct_cat S1 (wr_rest M i y k).natAbs k 5 0)))], [.long ((478694368626)), .int (Int32.ofNat i), .ref (m)], A161)) rfl ?_
          rcases hb : mg_bw M i (sb_OTH) (mg_B M) 0 with _ | jhb
          · skip
            refine wp_cv (A' := A161) (v := some (.int ((-1)))) rfl rfl rfl rfl rfl h170.mc (by omega) (by have q := mn_with (d := d - 1) (o := i) (s := sb_OTH) (by omega) h170.N; rw [hb] at q; exact q) rfl ?_
            show am_wp d 112 (158, [some (.ref (r)), some (.int (Int32.ofNat i)), some (.ref (rs.getD j 0)), some (.int (Int32.ofNat l)), some (.long (Int64.ofNat (10 ^ k))), none, some (.long (Int64.ofInt (wr_rest M i y k))), none, some (.int ((-1))), some (.int (Int32.ofNat 1)), some (.int (Int32.ofNat (ct_cat S1 (wr_rest M i y k).natAbs k 5 0)))], [.int ((-1))], A161) _
            refine wp_st 6 (f' := (167, [some (.ref (r)), some (.int (Int32.ofNat i)), some (.ref (rs.getD j 0)), some (.int (Int32.ofNat l)), some (.long (Int64.ofNat (10 ^ k))), none, some (.long (Int64.ofInt (wr_rest M i y k))), none, some (.int ((-1))), some (.int (Int32.ofNat 1)), some (.int (Int32.ofNat (ct_cat S1 (wr_rest M i y k).natAbs k 5 0)))], [.ref (rs.getD j 0), .long (Int64.ofInt (wr_rest M i y k)), .int (Int32.ofNat l), .int ((-1)), .ref (r)], A161)) rfl ?_
            refine wp_gf rfl rfl (h170.vc hj hxj) rfl rfl ?_
            rcases hr9 : wr_br M inner none (wr_rest M i y k) k w with c9 | w9
            · skip
              obtain ⟨w175, A171, p176, c177, g172, h173, f174⟩ := wr_Q0 (wi_br (d := d - 1) (D0 := D0) (l := l) (inner := inner) (b := none) (y := wr_rest M i y k) (k := k) (by omega) (by omega) (by omega) (by omega) (by omega) (fun j e => by cases e <;> omega) hin hwf h170) hr9
              have f178 := f169.trans f174
              have p179 : c9 ≠ 3 → w <+: w175 := fun e => (List.prefix_refl w).trans (p176 e)
              refine wp_cv (A' := A171) (v := some (.int (Int32.ofNat c9))) rfl rfl rfl rfl rfl h170.rc (by omega) (g172) rfl ?_
              show am_wp d 112 (173, [some (.ref (r)), some (.int (Int32.ofNat i)), some (.ref (rs.getD j 0)), some (.int (Int32.ofNat l)), some (.long (Int64.ofNat (10 ^ k))), none, some (.long (Int64.ofInt (wr_rest M i y k))), none, some (.int ((-1))), some (.int (Int32.ofNat 1)), some (.int (Int32.ofNat (ct_cat S1 (wr_rest M i y k).natAbs k 5 0)))], [.int (Int32.ofNat c9)], A171) _
              refine wp_rt rfl rfl rfl ?_
              have hres : wr_br M inner (wr_plub M S0 S1 i y k) (wr_rest M i y k) k w = .error c9 := by simp only [wr_plub, wr_exb, wr_catb, wr_or, hy0, hym, h108, hc, hb, hr9, ↓reduceIte]
              rw [hres]
              exact wr_Q_er c177 p179 h173 f178
            · skip
              obtain ⟨A180, g181, h182, f183⟩ := wr_Q1 (wi_br (d := d - 1) (D0 := D0) (l := l) (inner := inner) (b := none) (y := wr_rest M i y k) (k := k) (by omega) (by omega) (by omega) (by omega) (by omega) (fun j e => by cases e <;> omega) hin hwf h170) hr9
              have f184 := f169.trans f183
              refine wp_cv (A' := A180) (v := some (.int (Int32.ofNat 0))) rfl rfl rfl rfl rfl h170.rc (by omega) (g181) rfl ?_
              show am_wp d 112 (173, [some (.ref (r)), some (.int (Int32.ofNat i)), some (.ref (rs.getD j 0)), some (.int (Int32.ofNat l)), some (.long (Int64.ofNat (10 ^ k))), none, some (.long (Int64.ofInt (wr_rest M i y k))), none, some (.int ((-1))), some (.int (Int32.ofNat 1)), some (.int (Int32.ofNat (ct_cat S1 (wr_rest M i y k).natAbs k 5 0)))], [.int (Int32.ofNat 0)], A180) _
              refine wp_rt rfl rfl rfl ?_
              have hres : wr_br M inner (wr_plub M S0 S1 i y k) (wr_rest M i y k) k w = .ok w9 := by simp only [wr_plub, wr_exb, wr_catb, wr_or, hy0, hym, h108, hc, hb, hr9, ↓reduceIte]
              rw [hres]
              exact wr_Q_ok h182 f184
          · skip
            have hbl := mg_bw_lt hb
            refine wp_cv (A' := A161) (v := some (.int (Int32.ofNat jhb))) rfl rfl rfl rfl rfl h170.mc (by omega) (by have q := mn_with (d := d - 1) (o := i) (s := sb_OTH) (by omega) h170.N; rw [hb] at q; exact q) rfl ?_
            show am_wp d 112 (158, [some (.ref (r)), some (.int (Int32.ofNat i)), some (.ref (rs.getD j 0)), some (.int (Int32.ofNat l)), some (.long (Int64.ofNat (10 ^ k))), none, some (.long (Int64.ofInt (wr_rest M i y k))), none, some (.int ((-1))), some (.int (Int32.ofNat 1)), some (.int (Int32.ofNat (ct_cat S1 (wr_rest M i y k).natAbs k 5 0)))], [.int (Int32.ofNat jhb)], A161) _
            refine wp_st 6 (f' := (167, [some (.ref (r)), some (.int (Int32.ofNat i)), some (.ref (rs.getD j 0)), some (.int (Int32.ofNat l)), some (.long (Int64.ofNat (10 ^ k))), none, some (.long (Int64.ofInt (wr_rest M i y k))), none, some (.int (Int32.ofNat jhb)), some (.int (Int32.ofNat 1)), some (.int (Int32.ofNat (ct_cat S1 (wr_rest M i y k).natAbs k 5 0)))], [.ref (rs.getD j 0), .long (Int64.ofInt (wr_rest M i y k)), .int (Int32.ofNat l), .int (Int32.ofNat jhb), .ref (r)], A161)) rfl ?_
            refine wp_gf rfl rfl (h170.vc hj hxj) rfl rfl ?_
            rcases hr9 : wr_br M inner (some jhb) (wr_rest M i y k) k w with c9 | w9
            · skip
              obtain ⟨w189, A185, p190, c191, g186, h187, f188⟩ := wr_Q0 (wi_br (d := d - 1) (D0 := D0) (l := l) (inner := inner) (b := (some jhb)) (y := wr_rest M i y k) (k := k) (by omega) (by omega) (by omega) (by omega) (by omega) (fun j e => by cases e <;> omega) hin hwf h170) hr9
              have f192 := f169.trans f188
              have p193 : c9 ≠ 3 → w <+: w189 := fun e => (List.prefix_refl w).trans (p190 e)
              refine wp_cv (A' := A185) (v := some (.int (Int32.ofNat c9))) rfl rfl rfl rfl rfl h170.rc (by omega) (g186) rfl ?_
              show am_wp d 112 (173, [some (.ref (r)), some (.int (Int32.ofNat i)), some (.ref (rs.getD j 0)), some (.int (Int32.ofNat l)), some (.long (Int64.ofNat (10 ^ k))), none, some (.long (Int64.ofInt (wr_rest M i y k))), none, some (.int (Int32.ofNat jhb)), some (.int (Int32.ofNat 1)), some (.int (Int32.ofNat (ct_cat S1 (wr_rest M i y k).natAbs k 5 0)))], [.int (Int32.ofNat c9)], A185) _
              refine wp_rt rfl rfl rfl ?_
              have hres : wr_br M inner (wr_plub M S0 S1 i y k) (wr_rest M i y k) k w = .error c9 := by simp only [wr_plub, wr_exb, wr_catb, wr_or, hy0, hym, h108, hc, hb, hr9, ↓reduceIte]
              rw [hres]
              exact wr_Q_er c191 p193 h187 f192
            · skip
              obtain ⟨A194, g195, h196, f197⟩ := wr_Q1 (wi_br (d := d - 1) (D0 := D0) (l := l) (inner := inner) (b := (some jhb)) (y := wr_rest M i y k) (k := k) (by omega) (by omega) (by omega) (by omega) (by omega) (fun j e => by cases e <;> omega) hin hwf h170) hr9
              have f198 := f169.trans f197
              refine wp_cv (A' := A194) (v := some (.int (Int32.ofNat 0))) rfl rfl rfl rfl rfl h170.rc (by omega) (g195) rfl ?_
              show am_wp d 112 (173, [some (.ref (r)), some (.int (Int32.ofNat i)), some (.ref (rs.getD j 0)), some (.int (Int32.ofNat l)), some (.long (Int64.ofNat (10 ^ k))), none, some (.long (Int64.ofInt (wr_rest M i y k))), none, some (.int (Int32.ofNat jhb)), some (.int (Int32.ofNat 1)), some (.int (Int32.ofNat (ct_cat S1 (wr_rest M i y k).natAbs k 5 0)))], [.int (Int32.ofNat 0)], A194) _
              refine wp_rt rfl rfl rfl ?_
              have hres : wr_br M inner (wr_plub M S0 S1 i y k) (wr_rest M i y k) k w = .ok w9 := by simp only [wr_plub, wr_exb, wr_catb, wr_or, hy0, hym, h108, hc, hb, hr9, ↓reduceIte]
              rw [hres]
              exact wr_Q_ok h196 f198
        · skip
          have hcl := mg_bw_lt hc
          refine wp_cv (A' := A161) (v := some (.int (Int32.ofNat jhc))) rfl rfl rfl rfl rfl h170.mc (by omega) (by have q := mn_with (d := d - 1) (o := i) (s := ru_CW.getD (ct_cat S1 (wr_rest M i y k).natAbs k 5 0) 0) (by omega) h170.N; rw [hc] at q; exact q) rfl ?_
          show am_wp d 112 (139, [some (.ref (r)), some (.int (Int32.ofNat i)), some (.ref (rs.getD j 0)), some (.int (Int32.ofNat l)), some (.long (Int64.ofNat (10 ^ k))), none, some (.long (Int64.ofInt (wr_rest M i y k))), none, some (.int ((-1))), some (.int (Int32.ofNat 1)), some (.int (Int32.ofNat (ct_cat S1 (wr_rest M i y k).natAbs k 5 0)))], [.int (Int32.ofNat jhc)], A161) _
          refine wp_st 3 (f' := (144, [some (.ref (r)), some (.int (Int32.ofNat i)), some (.ref (rs.getD j 0)), some (.int (Int32.ofNat l)), some (.long (Int64.ofNat (10 ^ k))), none, some (.long (Int64.ofInt (wr_rest M i y k))), none, some (.int (Int32.ofNat jhc)), some (.int (Int32.ofNat 1)), some (.int (Int32.ofNat (ct_cat S1 (wr_rest M i y k).natAbs k 5 0)))], [.int ((-1)), .int (Int32.ofNat jhc)], A161)) rfl ?_
          refine wp_ifT rfl rfl (i32_neg1 (by omega)) ?_
          refine wp_st 5 (f' := (167, [some (.ref (r)), some (.int (Int32.ofNat i)), some (.ref (rs.getD j 0)), some (.int (Int32.ofNat l)), some (.long (Int64.ofNat (10 ^ k))), none, some (.long (Int64.ofInt (wr_rest M i y k))), none, some (.int (Int32.ofNat jhc)), some (.int (Int32.ofNat 1)), some (.int (Int32.ofNat (ct_cat S1 (wr_rest M i y k).natAbs k 5 0)))], [.ref (rs.getD j 0), .long (Int64.ofInt (wr_rest M i y k)), .int (Int32.ofNat l), .int (Int32.ofNat jhc), .ref (r)], A161)) rfl ?_
          refine wp_gf rfl rfl (h170.vc hj hxj) rfl rfl ?_
          rcases hr9 : wr_br M inner (some jhc) (wr_rest M i y k) k w with c9 | w9
          · skip
            obtain ⟨w203, A199, p204, c205, g200, h201, f202⟩ := wr_Q0 (wi_br (d := d - 1) (D0 := D0) (l := l) (inner := inner) (b := (some jhc)) (y := wr_rest M i y k) (k := k) (by omega) (by omega) (by omega) (by omega) (by omega) (fun j e => by cases e <;> omega) hin hwf h170) hr9
            have f206 := f169.trans f202
            have p207 : c9 ≠ 3 → w <+: w203 := fun e => (List.prefix_refl w).trans (p204 e)
            refine wp_cv (A' := A199) (v := some (.int (Int32.ofNat c9))) rfl rfl rfl rfl rfl h170.rc (by omega) (g200) rfl ?_
            show am_wp d 112 (173, [some (.ref (r)), some (.int (Int32.ofNat i)), some (.ref (rs.getD j 0)), some (.int (Int32.ofNat l)), some (.long (Int64.ofNat (10 ^ k))), none, some (.long (Int64.ofInt (wr_rest M i y k))), none, some (.int (Int32.ofNat jhc)), some (.int (Int32.ofNat 1)), some (.int (Int32.ofNat (ct_cat S1 (wr_rest M i y k).natAbs k 5 0)))], [.int (Int32.ofNat c9)], A199) _
            refine wp_rt rfl rfl rfl ?_
            have hres : wr_br M inner (wr_plub M S0 S1 i y k) (wr_rest M i y k) k w = .error c9 := by simp only [wr_plub, wr_exb, wr_catb, wr_or, hy0, hym, h108, hc, hr9, ↓reduceIte]
            rw [hres]
            exact wr_Q_er c205 p207 h201 f206
          · skip
            obtain ⟨A208, g209, h210, f211⟩ := wr_Q1 (wi_br (d := d - 1) (D0 := D0) (l := l) (inner := inner) (b := (some jhc)) (y := wr_rest M i y k) (k := k) (by omega) (by omega) (by omega) (by omega) (by omega) (fun j e => by cases e <;> omega) hin hwf h170) hr9
            have f212 := f169.trans f211
            refine wp_cv (A' := A208) (v := some (.int (Int32.ofNat 0))) rfl rfl rfl rfl rfl h170.rc (by omega) (g209) rfl ?_
            show am_wp d 112 (173, [some (.ref (r)), some (.int (Int32.ofNat i)), some (.ref (rs.getD j 0)), some (.int (Int32.ofNat l)), some (.long (Int64.ofNat (10 ^ k))), none, some (.long (Int64.ofInt (wr_rest M i y k))), none, some (.int (Int32.ofNat jhc)), some (.int (Int32.ofNat 1)), some (.int (Int32.ofNat (ct_cat S1 (wr_rest M i y k).natAbs k 5 0)))], [.int (Int32.ofNat 0)], A208) _
            refine wp_rt rfl rfl rfl ?_
            have hres : wr_br M inner (wr_plub M S0 S1 i y k) (wr_rest M i y k) k w = .ok w9 := by simp only [wr_plub, wr_exb, wr_catb, wr_or, hy0, hym, h108, hc, hr9, ↓reduceIte]
            rw [hres]
            exact wr_Q_ok h210 f212
    · skip
      replace h107 := Decidable.not_not.mp h107
      have hym : y.natAbs % 10 ^ k = 0 := (i64_eq (by omega) (by omega)).mp ((lg_cmp_eq _ _).mp h107)
      refine wp_st 1 (f' := (61, [some (.ref (r)), some (.int (Int32.ofNat i)), some (.ref (rs.getD j 0)), some (.int (Int32.ofNat l)), some (.long (Int64.ofNat (10 ^ k))), none, some (.long (Int64.ofInt (wr_rest M i y k))), none, some (.int ((-1))), none, none], [.ref (r)], A)) rfl ?_
      refine wp_gf rfl rfl h.rc rfl rfl ?_
      refine wp_st 2 (f' := (66, [some (.ref (r)), some (.int (Int32.ofNat i)), some (.ref (rs.getD j 0)), some (.int (Int32.ofNat l)), some (.long (Int64.ofNat (10 ^ k))), none, some (.long (Int64.ofInt (wr_rest M i y k))), none, some (.int ((-1))), none, none], [.ref (rs.getD j 0), .int (Int32.ofNat i), .ref (m)], A)) rfl ?_
      refine wp_gf rfl rfl (h.vc hj hxj) rfl rfl ?_
      refine wp_st 1 (f' := (71, [some (.ref (r)), some (.int (Int32.ofNat i)), some (.ref (rs.getD j 0)), some (.int (Int32.ofNat l)), some (.long (Int64.ofNat (10 ^ k))), none, some (.long (Int64.ofInt (wr_rest M i y k))), none, some (.int ((-1))), none, none], [.long (Int64.ofNat (10 ^ k)), .long (Int64.ofInt y), .int (Int32.ofNat i), .ref (m)], A)) rfl ?_
      refine wp_dv rfl (fun q => absurd ((i64_eq (a := 10 ^ k) (b := 0) (by omega) (by omega)).mp q) (by omega)) rfl ?_
      rw [show Int64.ofInt y / Int64.ofNat (10 ^ k) = Int64.ofNat (y.natAbs / 10 ^ k) from by rw [i64_pos hy0]; exact i64_div (by omega) (by omega)]
      refine wp_cs (n := 0) (A' := A) (v := some (.long (rd_ex (y.natAbs / 10 ^ k)))) rfl rfl rfl (by omega) (mi_ex) rfl ?_
      show am_wp d 112 (75, [some (.ref (r)), some (.int (Int32.ofNat i)), some (.ref (rs.getD j 0)), some (.int (Int32.ofNat l)), some (.long (Int64.ofNat (10 ^ k))), none, some (.long (Int64.ofInt (wr_rest M i y k))), none, some (.int ((-1))), none, none], [.long (rd_ex (y.natAbs / 10 ^ k)), .int (Int32.ofNat i), .ref (m)], A) _
      rcases ha : mg_bw M i (rd_ex (y.natAbs / 10 ^ k)) (mg_B M) 0 with _ | jha
      · skip
        refine wp_cv (A' := A) (v := some (.int ((-1)))) rfl rfl rfl rfl rfl h.mc (by omega) (by have q := mn_with (d := d - 1) (o := i) (s := rd_ex (y.natAbs / 10 ^ k)) (by omega) h.N; rw [ha] at q; exact q) rfl ?_
        show am_wp d 112 (78, [some (.ref (r)), some (.int (Int32.ofNat i)), some (.ref (rs.getD j 0)), some (.int (Int32.ofNat l)), some (.long (Int64.ofNat (10 ^ k))), none, some (.long (Int64.ofInt (wr_rest M i y k))), none, some (.int ((-1))), none, none], [.int ((-1))], A) _
        refine wp_st 3 (f' := (83, [some (.ref (r)), some (.int (Int32.ofNat i)), some (.ref (rs.getD j 0)), some (.int (Int32.ofNat l)), some (.long (Int64.ofNat (10 ^ k))), none, some (.long (Int64.ofInt (wr_rest M i y k))), none, some (.int ((-1))), none, none], [.int ((-1)), .int ((-1))], A)) rfl ?_
        refine wp_ifF rfl rfl (fun q => q rfl) ?_
        refine wp_st 1 (f' := (87, [some (.ref (r)), some (.int (Int32.ofNat i)), some (.ref (rs.getD j 0)), some (.int (Int32.ofNat l)), some (.long (Int64.ofNat (10 ^ k))), none, some (.long (Int64.ofInt (wr_rest M i y k))), none, some (.int ((-1))), none, none], [.ref (r)], A)) rfl ?_
        refine wp_gf rfl rfl h.rc rfl rfl ?_
        refine wp_gf rfl rfl h.mc rfl rfl ?_
        refine wp_st 1 (f' := (94, [some (.ref (r)), some (.int (Int32.ofNat i)), some (.ref (rs.getD j 0)), some (.int (Int32.ofNat l)), some (.long (Int64.ofNat (10 ^ k))), none, some (.long (Int64.ofInt (wr_rest M i y k))), none, some (.int ((-1))), none, none], [.int (Int32.ofNat i), .ref (m + 1)], A)) rfl ?_
        refine wp_mgk h.N rfl (by omega) rfl ?_
        refine wp_st 1 (f' := (97, [some (.ref (r)), some (.int (Int32.ofNat i)), some (.ref (rs.getD j 0)), some (.int (Int32.ofNat l)), some (.long (Int64.ofNat (10 ^ k))), none, some (.long (Int64.ofInt (wr_rest M i y k))), none, some (.int ((-1))), none, none], [.int (Int32.ofNat 8), .int (Int32.ofNat (mg_k M i))], A)) rfl ?_
        refine wp_if rfl rfl rfl (fun (h213 : (Int32.ofNat (mg_k M i)) ≠ (Int32.ofNat 8)) => ?_) (fun (h213 : ¬ ((Int32.ofNat (mg_k M i)) ≠ (Int32.ofNat 8))) => ?_)
        · skip
          rw [ne_eq, i32_eq (by omega) (by omega)] at h213
          refine wp_st 3 (f' := (108, [some (.ref (r)), some (.int (Int32.ofNat i)), some (.ref (rs.getD j 0)), some (.int (Int32.ofNat l)), some (.long (Int64.ofNat (10 ^ k))), none, some (.long (Int64.ofInt (wr_rest M i y k))), none, some (.int ((-1))), some (.int (Int32.ofNat 0)), none], [.ref (r)], A)) rfl ?_
          refine wp_gf rfl rfl h.rc rfl rfl ?_
          refine wp_st 1 (f' := (113, [some (.ref (r)), some (.int (Int32.ofNat i)), some (.ref (rs.getD j 0)), some (.int (Int32.ofNat l)), some (.long (Int64.ofNat (10 ^ k))), none, some (.long (Int64.ofInt (wr_rest M i y k))), none, some (.int ((-1))), some (.int (Int32.ofNat 0)), none], [.int (Int32.ofNat 0), .ref (q)], A)) rfl ?_
          refine wp_al rfl (Or.inr (Or.inr (Or.inr (Or.inr ⟨rfl, rfl⟩)))) rfl h.qc (by omega) rfl rfl ?_
          refine wp_st 2 (f' := (117, [some (.ref (r)), some (.int (Int32.ofNat i)), some (.ref (rs.getD j 0)), some (.int (Int32.ofNat l)), some (.long (Int64.ofNat (10 ^ k))), none, some (.long (Int64.ofInt (wr_rest M i y k))), none, some (.int ((-1))), some (.int (Int32.ofNat 0)), none], [.ref (rs.getD j 0), .long (Int64.ofInt (wr_rest M i y k)), .ref (s0)], A)) rfl ?_
          refine wp_gf rfl rfl (h.vc hj hxj) rfl rfl ?_
          obtain ⟨am9, un9, hP9⟩ := h.2.2.2.2.2.2.1
          obtain ⟨A214, g215, a216, a217, a218⟩ := gn_catz (d := d - 1) (z := wr_rest M i y k) (k := k) (by omega) hk hrest hw0 h.K.ten hP9 h.2.2.2.2.1
          have h219 := h.cat0 a216 a217 a218
          obtain ⟨v220, v221⟩ := h.gc0
          have f222 := (wr_F.refl A s0 s1 u).trans h219.2
          have h223 := h219.1
          have hcl := ct_cat_le S0 (wr_rest M i y k).natAbs k 5 0 rfl
          refine wp_cv (A' := A214) (v := some (.int (Int32.ofNat (ct_cat S0 (wr_rest M i y k).natAbs k 5 0)))) rfl rfl rfl rfl rfl v221 (by omega) (g215) rfl ?_
          show am_wp d 112 (123, [some (.ref (r)), some (.int (Int32.ofNat i)), some (.ref (rs.getD j 0)), some (.int (Int32.ofNat l)), some (.long (Int64.ofNat (10 ^ k))), none, some (.long (Int64.ofInt (wr_rest M i y k))), none, some (.int ((-1))), some (.int (Int32.ofNat 0)), none], [.int (Int32.ofNat (ct_cat S0 (wr_rest M i y k).natAbs k 5 0))], A214) _
          refine wp_st 2 (f' := (126, [some (.ref (r)), some (.int (Int32.ofNat i)), some (.ref (rs.getD j 0)), some (.int (Int32.ofNat l)), some (.long (Int64.ofNat (10 ^ k))), none, some (.long (Int64.ofInt (wr_rest M i y k))), none, some (.int ((-1))), some (.int (Int32.ofNat 0)), some (.int (Int32.ofNat (ct_cat S0 (wr_rest M i y k).natAbs k 5 0)))], [.ref (r)], A214)) rfl ?_
          refine wp_gf rfl rfl h223.rc rfl rfl ?_
          refine wp_st 3 (f' := (135, [some (.ref (r)), some (.int (Int32.ofNat i)), some (.ref (rs.getD j 0)), some (.int (Int32.ofNat l)), some (.long (Int64.ofNat (10 ^ k))), none, some (.long (Int64.ofInt (wr_rest M i y k))), none, some (.int ((-1))), some (.int (Int32.ofNat 0)), some (.int (Int32.ofNat (ct_cat S0 (wr_rest M i y k).natAbs k 5 0)))], [.int (Int32.ofNat (ct_cat S0 (wr_rest M i y k).natAbs k 5 0)), .ref (2), .int (Int32.ofNat i), .ref (m)], A214)) rfl ?_
          refine wp_al rfl (Or.inr (Or.inl ⟨rfl, rfl⟩)) rfl (show _ = some (101, ru_CW.map Value.long) from h223.K.cat) (by omega) (sb_gd 0 (show _ < 6 by omega)) rfl ?_
          rcases hc : mg_bw M i (ru_CW.getD (ct_cat S0 (wr_rest M i y k).natAbs k 5 0) 0) (mg_B M) 0 with _ | jhc
          · skip
            refine wp_cv (A' := A214) (v := some (.int ((-1)))) rfl rfl rfl rfl rfl h223.mc (by omega) (by have q := mn_with (d := d - 1) (o := i) (s := ru_CW.getD (ct_cat S0 (wr_rest M i y k).natAbs k 5 0) 0) (by omega) h223.N; rw [hc] at q; exact q) rfl ?_
            show am_wp d 112 (139, [some (.ref (r)), some (.int (Int32.ofNat i)), some (.ref (rs.getD j 0)), some (.int (Int32.ofNat l)), some (.long (Int64.ofNat (10 ^ k))), none, some (.long (Int64.ofInt (wr_rest M i y k))), none, some (.int ((-1))), some (.int (Int32.ofNat 0)), some (.int (Int32.ofNat (ct_cat S0 (wr_rest M i y k).natAbs k 5 0)))], [.int ((-1))], A214) _
            refine wp_st 3 (f' := (144, [some (.ref (r)), some (.int (Int32.ofNat i)), some (.ref (rs.getD j 0)), some (.int (Int32.ofNat l)), some (.long (Int64.ofNat (10 ^ k))), none, some (.long (Int64.ofInt (wr_rest M i y k))), none, some (.int ((-1))), some (.int (Int32.ofNat 0)), some (.int (Int32.ofNat (ct_cat S0 (wr_rest M i y k).natAbs k 5 0)))], [.int ((-1)), .int ((-1))], A214)) rfl ?_
            refine wp_ifF rfl rfl (fun q => q rfl) ?_
            refine wp_st 1 (f' := (148, [some (.ref (r)), some (.int (Int32.ofNat i)), some (.ref (rs.getD j 0)), some (.int (Int32.ofNat l)), some (.long (Int64.ofNat (10 ^ k))), none, some (.long (Int64.ofInt (wr_rest M i y k))), none, some (.int ((-1))), some (.int (Int32.ofNat 0)), some (.int (Int32.ofNat (ct_cat S0 (wr_rest M i y k).natAbs k 5 0)))], [.ref (r)], A214)) rfl ?_
            refine wp_gf rfl rfl h223.rc rfl rfl ?_
            refine wp_st 2 (f' := (155, [some (.ref (r)), some (.int (Int32.ofNat i)), some (.ref (rs.getD j 0)), some (.int (Int32.ofNat l)), some (.long (Int64.ofNat (10 ^ k))), none, some (.long (Int64.ofInt (wr_rest M i y k))), none, some (.int ((-1))), some (.int (Int32.ofNat 0)), some (.int (Int32.ofNat (ct_cat S0 (wr_rest M i y k).natAbs k 5 0)))], [.long ((478694368626)), .int (Int32.ofNat i), .ref (m)], A214)) rfl ?_
            rcases hb : mg_bw M i (sb_OTH) (mg_B M) 0 with _ | jhb
            · skip
              refine wp_cv (A' := A214) (v := some (.int ((-1)))) rfl rfl rfl rfl rfl h223.mc (by omega) (by have q := mn_with (d := d - 1) (o := i) (s := sb_OTH) (by omega) h223.N; rw [hb] at q; exact q) rfl ?_
              show am_wp d 112 (158, [some (.ref (r)), some (.int (Int32.ofNat i)), some (.ref (rs.getD j 0)), some (.int (Int32.ofNat l)), some (.long (Int64.ofNat (10 ^ k))), none, some (.long (Int64.ofInt (wr_rest M i y k))), none, some (.int ((-1))), some (.int (Int32.ofNat 0)), some (.int (Int32.ofNat (ct_cat S0 (wr_rest M i y k).natAbs k 5 0)))], [.int ((-1))], A214) _
              refine wp_st 6 (f' := (167, [some (.ref (r)), some (.int (Int32.ofNat i)), some (.ref (rs.getD j 0)), some (.int (Int32.ofNat l)), some (.long (Int64.ofNat (10 ^ k))), none, some (.long (Int64.ofInt (wr_rest M i y k))), none, some (.int ((-1))), some (.int (Int32.ofNat 0)), some (.int (Int32.ofNat (ct_cat S0 (wr_rest M i y k).natAbs k 5 0)))], [.ref (rs.getD j 0), .long (Int64.ofInt (wr_rest M i y k)), .int (Int32.ofNat l), .int ((-1)), .ref (r)], A214)) rfl ?_
              refine wp_gf rfl rfl (h223.vc hj hxj) rfl rfl ?_
              rcases hr9 : wr_br M inner none (wr_rest M i y k) k w with c9 | w9
              · skip
                obtain ⟨w228, A224, p229, c230, g225, h226, f227⟩ := wr_Q0 (wi_br (d := d - 1) (D0 := D0) (l := l) (inner := inner) (b := none) (y := wr_rest M i y k) (k := k) (by omega) (by omega) (by omega) (by omega) (by omega) (fun j e => by cases e <;> omega) hin hwf h223) hr9
                have f231 := f222.trans f227
                have p232 : c9 ≠ 3 → w <+: w228 := fun e => (List.prefix_refl w).trans (p229 e)
                refine wp_cv (A' := A224) (v := some (.int (Int32.ofNat c9))) rfl rfl rfl rfl rfl h223.rc (by omega) (g225) rfl ?_
                show am_wp d 112 (173, [some (.ref (r)), some (.int (Int32.ofNat i)), some (.ref (rs.getD j 0)), some (.int (Int32.ofNat l)), some (.long (Int64.ofNat (10 ^ k))), none, some (.long (Int64.ofInt (wr_rest M i y k))), none, some (.int ((-1))), some (.int (Int32.ofNat 0)), some (.int (Int32.ofNat (ct_cat S0 (wr_rest M i y k).natAbs k 5 0)))], [.int (Int32.ofNat c9)], A224) _
                refine wp_rt rfl rfl rfl ?_
                have hres : wr_br M inner (wr_plub M S0 S1 i y k) (wr_rest M i y k) k w = .error c9 := by simp only [wr_plub, wr_exb, wr_catb, wr_or, hy0, hym, ha, h213, hc, hb, hr9, ↓reduceIte]
                rw [hres]
                exact wr_Q_er c230 p232 h226 f231
              · skip
                obtain ⟨A233, g234, h235, f236⟩ := wr_Q1 (wi_br (d := d - 1) (D0 := D0) (l := l) (inner := inner) (b := none) (y := wr_rest M i y k) (k := k) (by omega) (by omega) (by omega) (by omega) (by omega) (fun j e => by cases e <;> omega) hin hwf h223) hr9
                have f237 := f222.trans f236
                refine wp_cv (A' := A233) (v := some (.int (Int32.ofNat 0))) rfl rfl rfl rfl rfl h223.rc (by omega) (g234) rfl ?_
                show am_wp d 112 (173, [some (.ref (r)), some (.int (Int32.ofNat i)), some (.ref (rs.getD j 0)), some (.int (Int32.ofNat l)), some (.long (Int64.ofNat (10 ^ k))), none, some (.long (Int64.ofInt (wr_rest M i y k))), none, some (.int ((-1))), some (.int (Int32.ofNat 0)), some (.int (Int32.ofNat (ct_cat S0 (wr_rest M i y k).natAbs k 5 0)))], [.int (Int32.ofNat 0)], A233) _
                refine wp_rt rfl rfl rfl ?_
                have hres : wr_br M inner (wr_plub M S0 S1 i y k) (wr_rest M i y k) k w = .ok w9 := by simp only [wr_plub, wr_exb, wr_catb, wr_or, hy0, hym, ha, h213, hc, hb, hr9, ↓reduceIte]
                rw [hres]
                exact wr_Q_ok h235 f237
            · skip
              have hbl := mg_bw_lt hb
              refine wp_cv (A' := A214) (v := some (.int (Int32.ofNat jhb))) rfl rfl rfl rfl rfl h223.mc (by omega) (by have q := mn_with (d := d - 1) (o := i) (s := sb_OTH) (by omega) h223.N; rw [hb] at q; exact q) rfl ?_
              show am_wp d 112 (158, [some (.ref (r)), some (.int (Int32.ofNat i)), some (.ref (rs.getD j 0)), some (.int (Int32.ofNat l)), some (.long (Int64.ofNat (10 ^ k))), none, some (.long (Int64.ofInt (wr_rest M i y k))), none, some (.int ((-1))), some (.int (Int32.ofNat 0)), some (.int (Int32.ofNat (ct_cat S0 (wr_rest M i y k).natAbs k 5 0)))], [.int (Int32.ofNat jhb)], A214) _
              refine wp_st 6 (f' := (167, [some (.ref (r)), some (.int (Int32.ofNat i)), some (.ref (rs.getD j 0)), some (.int (Int32.ofNat l)), some (.long (Int64.ofNat (10 ^ k))), none, some (.long (Int64.ofInt (wr_rest M i y k))), none, some (.int (Int32.ofNat jhb)), some (.int (Int32.ofNat 0)), some (.int (Int32.ofNat (ct_cat S0 (wr_rest M i y k).natAbs k 5 0)))], [.ref (rs.getD j 0), .long (Int64.ofInt (wr_rest M i y k)), .int (Int32.ofNat l), .int (Int32.ofNat jhb), .ref (r)], A214)) rfl ?_
              refine wp_gf rfl rfl (h223.vc hj hxj) rfl rfl ?_
              rcases hr9 : wr_br M inner (some jhb) (wr_rest M i y k) k w with c9 | w9
              · skip
                obtain ⟨w242, A238, p243, c244, g239, h240, f241⟩ := wr_Q0 (wi_br (d := d - 1) (D0 := D0) (l := l) (inner := inner) (b := (some jhb)) (y := wr_rest M i y k) (k := k) (by omega) (by omega) (by omega) (by omega) (by omega) (fun j e => by cases e <;> omega) hin hwf h223) hr9
                have f245 := f222.trans f241
                have p246 : c9 ≠ 3 → w <+: w242 := fun e => (List.prefix_refl w).trans (p243 e)
                refine wp_cv (A' := A238) (v := some (.int (Int32.ofNat c9))) rfl rfl rfl rfl rfl h223.rc (by omega) (g239) rfl ?_
                show am_wp d 112 (173, [some (.ref (r)), some (.int (Int32.ofNat i)), some (.ref (rs.getD j 0)), some (.int (Int32.ofNat l)), some (.long (Int64.ofNat (10 ^ k))), none, some (.long (Int64.ofInt (wr_rest M i y k))), none, some (.int (Int32.ofNat jhb)), some (.int (Int32.ofNat 0)), some (.int (Int32.ofNat (ct_cat S0 (wr_rest M i y k).natAbs k 5 0)))], [.int (Int32.ofNat c9)], A238) _
                refine wp_rt rfl rfl rfl ?_
                have hres : wr_br M inner (wr_plub M S0 S1 i y k) (wr_rest M i y k) k w = .error c9 := by simp only [wr_plub, wr_exb, wr_catb, wr_or, hy0, hym, ha, h213, hc, hb, hr9, ↓reduceIte]
                rw [hres]
                exact wr_Q_er c244 p246 h240 f245
              · skip
                obtain ⟨A247, g248, h249, f250⟩ := wr_Q1 (wi_br (d := d - 1) (D0 := D0) (l := l) (inner := inner) (b := (some jhb)) (y := wr_rest M i y k) (k := k) (by omega) (by omega) (by omega) (by omega) (by omega) (fun j e => by cases e <;> omega) hin hwf h223) hr9
                have f251 := f222.trans f250
                refine wp_cv (A' := A247) (v := some (.int (Int32.ofNat 0))) rfl rfl rfl rfl rfl h223.rc (by omega) (g248) rfl ?_
                show am_wp d 112 (173, [some (.ref (r)), some (.int (Int32.ofNat i)), some (.ref (rs.getD j 0)), some (.int (Int32.ofNat l)), some (.long (Int64.ofNat (10 ^ k))), none, some (.long (Int64.ofInt (wr_rest M i y k))), none, some (.int (Int32.ofNat jhb)), some (.int (Int32.ofNat 0)), some (.int (Int32.ofNat (ct_cat S0 (wr_rest M i y k).natAbs k 5 0)))], [.int (Int32.ofNat 0)], A247) _
                refine wp_rt rfl rfl rfl ?_
                have hres : wr_br M inner (wr_plub M S0 S1 i y k) (wr_rest M i y k) k w = .ok w9 := by simp only [wr_plub, wr_exb, wr_catb, wr_or, hy0, hym, ha, h213, hc, hb, hr9, ↓reduceIte]
                rw [hres]
                exact wr_Q_ok h249 f251
          · skip
            have hcl := mg_bw_lt hc
            refine wp_cv (A' := A214) (v := some (.int (Int32.ofNat jhc))) rfl rfl rfl rfl rfl h223.mc (by omega) (by have q := mn_with (d := d - 1) (o := i) (s := ru_CW.getD (ct_cat S0 (wr_rest M i y k).natAbs k 5 0) 0) (by omega) h223.N; rw [hc] at q; exact q) rfl ?_
            show am_wp d 112 (139, [some (.ref (r)), some (.int (Int32.ofNat i)), some (.ref (rs.getD j 0)), some (.int (Int32.ofNat l)), some (.long (Int64.ofNat (10 ^ k))), none, some (.long (Int64.ofInt (wr_rest M i y k))), none, some (.int ((-1))), some (.int (Int32.ofNat 0)), some (.int (Int32.ofNat (ct_cat S0 (wr_rest M i y k).natAbs k 5 0)))], [.int (Int32.ofNat jhc)], A214) _
            refine wp_st 3 (f' := (144, [some (.ref (r)), some (.int (Int32.ofNat i)), some (.ref (rs.getD j 0)), some (.int (Int32.ofNat l)), some (.long (Int64.ofNat (10 ^ k))), none, some (.long (Int64.ofInt (wr_rest M i y k))), none, some (.int (Int32.ofNat jhc)), some (.int (Int32.ofNat 0)), some (.int (Int32.ofNat (ct_cat S0 (wr_rest M i y k).natAbs k 5 0)))], [.int ((-1)), .int (Int32.ofNat jhc)], A214)) rfl ?_
            refine wp_ifT rfl rfl (i32_neg1 (by omega)) ?_
            refine wp_st 5 (f' := (167, [some (.ref (r)), some (.int (Int32.ofNat i)), some (.ref (rs.getD j 0)), some (.int (Int32.ofNat l)), some (.long (Int64.ofNat (10 ^ k))), none, some (.long (Int64.ofInt (wr_rest M i y k))), none, some (.int (Int32.ofNat jhc)), some (.int (Int32.ofNat 0)), some (.int (Int32.ofNat (ct_cat S0 (wr_rest M i y k).natAbs k 5 0)))], [.ref (rs.getD j 0), .long (Int64.ofInt (wr_rest M i y k)), .int (Int32.ofNat l), .int (Int32.ofNat jhc), .ref (r)], A214)) rfl ?_
            refine wp_gf rfl rfl (h223.vc hj hxj) rfl rfl ?_
            rcases hr9 : wr_br M inner (some jhc) (wr_rest M i y k) k w with c9 | w9
            · skip
              obtain ⟨w256, A252, p257, c258, g253, h254, f255⟩ := wr_Q0 (wi_br (d := d - 1) (D0 := D0) (l := l) (inner := inner) (b := (some jhc)) (y := wr_rest M i y k) (k := k) (by omega) (by omega) (by omega) (by omega) (by omega) (fun j e => by cases e <;> omega) hin hwf h223) hr9
              have f259 := f222.trans f255
              have p260 : c9 ≠ 3 → w <+: w256 := fun e => (List.prefix_refl w).trans (p257 e)
              refine wp_cv (A' := A252) (v := some (.int (Int32.ofNat c9))) rfl rfl rfl rfl rfl h223.rc (by omega) (g253) rfl ?_
              show am_wp d 112 (173, [some (.ref (r)), some (.int (Int32.ofNat i)), some (.ref (rs.getD j 0)), some (.int (Int32.ofNat l)), some (.long (Int64.ofNat (10 ^ k))), none, some (.long (Int64.ofInt (wr_rest M i y k))), none, some (.int (Int32.ofNat jhc)), some (.int (Int32.ofNat 0)), some (.int (Int32.ofNat (ct_cat S0 (wr_rest M i y k).natAbs k 5 0)))], [.int (Int32.ofNat c9)], A252) _
              refine wp_rt rfl rfl rfl ?_
              have hres : wr_br M inner (wr_plub M S0 S1 i y k) (wr_rest M i y k) k w = .error c9 := by simp only [wr_plub, wr_exb, wr_catb, wr_or, hy0, hym, ha, h213, hc, hr9, ↓reduceIte]
              rw [hres]
              exact wr_Q_er c258 p260 h254 f259
            · skip
              obtain ⟨A261, g262, h263, f264⟩ := wr_Q1 (wi_br (d := d - 1) (D0 := D0) (l := l) (inner := inner) (b := (some jhc)) (y := wr_rest M i y k) (k := k) (by omega) (by omega) (by omega) (by omega) (by omega) (fun j e => by cases e <;> omega) hin hwf h223) hr9
              have f265 := f222.trans f264
              refine wp_cv (A' := A261) (v := some (.int (Int32.ofNat 0))) rfl rfl rfl rfl rfl h223.rc (by omega) (g262) rfl ?_
              show am_wp d 112 (173, [some (.ref (r)), some (.int (Int32.ofNat i)), some (.ref (rs.getD j 0)), some (.int (Int32.ofNat l)), some (.long (Int64.ofNat (10 ^ k))), none, some (.long (Int64.ofInt (wr_rest M i y k))), none, some (.int (Int32.ofNat jhc)), some (.int (Int32.ofNat 0)), some (.int (Int32.ofNat (ct_cat S0 (wr_rest M i y k).natAbs k 5 0)))], [.int (Int32.ofNat 0)], A261) _
              refine wp_rt rfl rfl rfl ?_
              have hres : wr_br M inner (wr_plub M S0 S1 i y k) (wr_rest M i y k) k w = .ok w9 := by simp only [wr_plub, wr_exb, wr_catb, wr_or, hy0, hym, ha, h213, hc, hr9, ↓reduceIte]
              rw [hres]
              exact wr_Q_ok h263 f265
        · skip
          rw [ne_eq, i32_eq (by omega) (by omega)] at h213
          replace h213 := Decidable.not_not.mp h213
          refine wp_st 4 (f' := (108, [some (.ref (r)), some (.int (Int32.ofNat i)), some (.ref (rs.getD j 0)), some (.int (Int32.ofNat l)), some (.long (Int64.ofNat (10 ^ k))), none, some (.long (Int64.ofInt (wr_rest M i y k))), none, some (.int ((-1))), some (.int (Int32.ofNat 1)), none], [.ref (r)], A)) rfl ?_
          refine wp_gf rfl rfl h.rc rfl rfl ?_
          refine wp_st 1 (f' := (113, [some (.ref (r)), some (.int (Int32.ofNat i)), some (.ref (rs.getD j 0)), some (.int (Int32.ofNat l)), some (.long (Int64.ofNat (10 ^ k))), none, some (.long (Int64.ofInt (wr_rest M i y k))), none, some (.int ((-1))), some (.int (Int32.ofNat 1)), none], [.int (Int32.ofNat 1), .ref (q)], A)) rfl ?_
          refine wp_al rfl (Or.inr (Or.inr (Or.inr (Or.inr ⟨rfl, rfl⟩)))) rfl h.qc (by omega) rfl rfl ?_
          refine wp_st 2 (f' := (117, [some (.ref (r)), some (.int (Int32.ofNat i)), some (.ref (rs.getD j 0)), some (.int (Int32.ofNat l)), some (.long (Int64.ofNat (10 ^ k))), none, some (.long (Int64.ofInt (wr_rest M i y k))), none, some (.int ((-1))), some (.int (Int32.ofNat 1)), none], [.ref (rs.getD j 0), .long (Int64.ofInt (wr_rest M i y k)), .ref (s1)], A)) rfl ?_
          refine wp_gf rfl rfl (h.vc hj hxj) rfl rfl ?_
          obtain ⟨am9, un9, hP9⟩ := h.2.2.2.2.2.2.2.1
          obtain ⟨A266, g267, a268, a269, a270⟩ := gn_catz (d := d - 1) (z := wr_rest M i y k) (k := k) (by omega) hk hrest hw1 h.K.ten hP9 h.2.2.2.2.2.1
          have h271 := h.cat1 a268 a269 a270
          obtain ⟨v272, v273⟩ := h.gc1
          have f274 := (wr_F.refl A s0 s1 u).trans h271.2
          have h275 := h271.1
          have hcl := ct_cat_le S1 (wr_rest M i y k).natAbs k 5 0 rfl
          refine wp_cv (A' := A266) (v := some (.int (Int32.ofNat (ct_cat S1 (wr_rest M i y k).natAbs k 5 0)))) rfl rfl rfl rfl rfl v273 (by omega) (g267) rfl ?_
          show am_wp d 112 (123, [some (.ref (r)), some (.int (Int32.ofNat i)), some (.ref (rs.getD j 0)), some (.int (Int32.ofNat l)), some (.long (Int64.ofNat (10 ^ k))), none, some (.long (Int64.ofInt (wr_rest M i y k))), none, some (.int ((-1))), some (.int (Int32.ofNat 1)), none], [.int (Int32.ofNat (ct_cat S1 (wr_rest M i y k).natAbs k 5 0))], A266) _
          refine wp_st 2 (f' := (126, [some (.ref (r)), some (.int (Int32.ofNat i)), some (.ref (rs.getD j 0)), some (.int (Int32.ofNat l)), some (.long (Int64.ofNat (10 ^ k))), none, some (.long (Int64.ofInt (wr_rest M i y k))), none, some (.int ((-1))), some (.int (Int32.ofNat 1)), some (.int (Int32.ofNat (ct_cat S1 (wr_rest M i y k).natAbs k 5 0)))], [.ref (r)], A266)) rfl ?_
          refine wp_gf rfl rfl h275.rc rfl rfl ?_
          refine wp_st 3 (f' := (135, [some (.ref (r)), some (.int (Int32.ofNat i)), some (.ref (rs.getD j 0)), some (.int (Int32.ofNat l)), some (.long (Int64.ofNat (10 ^ k))), none, some (.long (Int64.ofInt (wr_rest M i y k))), none, some (.int ((-1))), some (.int (Int32.ofNat 1)), some (.int (Int32.ofNat (ct_cat S1 (wr_rest M i y k).natAbs k 5 0)))], [.int (Int32.ofNat (ct_cat S1 (wr_rest M i y k).natAbs k 5 0)), .ref (2), .int (Int32.ofNat i), .ref (m)], A266)) rfl ?_
          refine wp_al rfl (Or.inr (Or.inl ⟨rfl, rfl⟩)) rfl (show _ = some (101, ru_CW.map Value.long) from h275.K.cat) (by omega) (sb_gd 0 (show _ < 6 by omega)) rfl ?_
          rcases hc : mg_bw M i (ru_CW.getD (ct_cat S1 (wr_rest M i y k).natAbs k 5 0) 0) (mg_B M) 0 with _ | jhc
          · skip
            refine wp_cv (A' := A266) (v := some (.int ((-1)))) rfl rfl rfl rfl rfl h275.mc (by omega) (by have q := mn_with (d := d - 1) (o := i) (s := ru_CW.getD (ct_cat S1 (wr_rest M i y k).natAbs k 5 0) 0) (by omega) h275.N; rw [hc] at q; exact q) rfl ?_
            show am_wp d 112 (139, [some (.ref (r)), some (.int (Int32.ofNat i)), some (.ref (rs.getD j 0)), some (.int (Int32.ofNat l)), some (.long (Int64.ofNat (10 ^ k))), none, some (.long (Int64.ofInt (wr_rest M i y k))), none, some (.int ((-1))), some (.int (Int32.ofNat 1)), some (.int (Int32.ofNat (ct_cat S1 (wr_rest M i y k).natAbs k 5 0)))], [.int ((-1))], A266) _
            refine wp_st 3 (f' := (144, [some (.ref (r)), some (.int (Int32.ofNat i)), some (.ref (rs.getD j 0)), some (.int (Int32.ofNat l)), some (.long (Int64.ofNat (10 ^ k))), none, some (.long (Int64.ofInt (wr_rest M i y k))), none, some (.int ((-1))), some (.int (Int32.ofNat 1)), some (.int (Int32.ofNat (ct_cat S1 (wr_rest M i y k).natAbs k 5 0)))], [.int ((-1)), .int ((-1))], A266)) rfl ?_
            refine wp_ifF rfl rfl (fun q => q rfl) ?_
            refine wp_st 1 (f' := (148, [some (.ref (r)), some (.int (Int32.ofNat i)), some (.ref (rs.getD j 0)), some (.int (Int32.ofNat l)), some (.long (Int64.ofNat (10 ^ k))), none, some (.long (Int64.ofInt (wr_rest M i y k))), none, some (.int ((-1))), some (.int (Int32.ofNat 1)), some (.int (Int32.ofNat (ct_cat S1 (wr_rest M i y k).natAbs k 5 0)))], [.ref (r)], A266)) rfl ?_
            refine wp_gf rfl rfl h275.rc rfl rfl ?_
            refine wp_st 2 (f' := (155, [some (.ref (r)), some (.int (Int32.ofNat i)), some (.ref (rs.getD j 0)), some (.int (Int32.ofNat l)), some (.long (Int64.ofNat (10 ^ k))), none, some (.long (Int64.ofInt (wr_rest M i y k))), none, some (.int ((-1))), some (.int (Int32.ofNat 1)), some (.int (Int32.ofNat (ct_cat S1 (wr_rest M i y k).natAbs k 5 0)))], [.long ((478694368626)), .int (Int32.ofNat i), .ref (m)], A266)) rfl ?_
            rcases hb : mg_bw M i (sb_OTH) (mg_B M) 0 with _ | jhb
            · skip
              refine wp_cv (A' := A266) (v := some (.int ((-1)))) rfl rfl rfl rfl rfl h275.mc (by omega) (by have q := mn_with (d := d - 1) (o := i) (s := sb_OTH) (by omega) h275.N; rw [hb] at q; exact q) rfl ?_
              show am_wp d 112 (158, [some (.ref (r)), some (.int (Int32.ofNat i)), some (.ref (rs.getD j 0)), some (.int (Int32.ofNat l)), some (.long (Int64.ofNat (10 ^ k))), none, some (.long (Int64.ofInt (wr_rest M i y k))), none, some (.int ((-1))), some (.int (Int32.ofNat 1)), some (.int (Int32.ofNat (ct_cat S1 (wr_rest M i y k).natAbs k 5 0)))], [.int ((-1))], A266) _
              refine wp_st 6 (f' := (167, [some (.ref (r)), some (.int (Int32.ofNat i)), some (.ref (rs.getD j 0)), some (.int (Int32.ofNat l)), some (.long (Int64.ofNat (10 ^ k))), none, some (.long (Int64.ofInt (wr_rest M i y k))), none, some (.int ((-1))), some (.int (Int32.ofNat 1)), some (.int (Int32.ofNat (ct_cat S1 (wr_rest M i y k).natAbs k 5 0)))], [.ref (rs.getD j 0), .long (Int64.ofInt (wr_rest M i y k)), .int (Int32.ofNat l), .int ((-1)), .ref (r)], A266)) rfl ?_
              refine wp_gf rfl rfl (h275.vc hj hxj) rfl rfl ?_
              rcases hr9 : wr_br M inner none (wr_rest M i y k) k w with c9 | w9
              · skip
                obtain ⟨w280, A276, p281, c282, g277, h278, f279⟩ := wr_Q0 (wi_br (d := d - 1) (D0 := D0) (l := l) (inner := inner) (b := none) (y := wr_rest M i y k) (k := k) (by omega) (by omega) (by omega) (by omega) (by omega) (fun j e => by cases e <;> omega) hin hwf h275) hr9
                have f283 := f274.trans f279
                have p284 : c9 ≠ 3 → w <+: w280 := fun e => (List.prefix_refl w).trans (p281 e)
                refine wp_cv (A' := A276) (v := some (.int (Int32.ofNat c9))) rfl rfl rfl rfl rfl h275.rc (by omega) (g277) rfl ?_
                show am_wp d 112 (173, [some (.ref (r)), some (.int (Int32.ofNat i)), some (.ref (rs.getD j 0)), some (.int (Int32.ofNat l)), some (.long (Int64.ofNat (10 ^ k))), none, some (.long (Int64.ofInt (wr_rest M i y k))), none, some (.int ((-1))), some (.int (Int32.ofNat 1)), some (.int (Int32.ofNat (ct_cat S1 (wr_rest M i y k).natAbs k 5 0)))], [.int (Int32.ofNat c9)], A276) _
                refine wp_rt rfl rfl rfl ?_
                have hres : wr_br M inner (wr_plub M S0 S1 i y k) (wr_rest M i y k) k w = .error c9 := by simp only [wr_plub, wr_exb, wr_catb, wr_or, hy0, hym, ha, h213, hc, hb, hr9, ↓reduceIte]
                rw [hres]
                exact wr_Q_er c282 p284 h278 f283
              · skip
                obtain ⟨A285, g286, h287, f288⟩ := wr_Q1 (wi_br (d := d - 1) (D0 := D0) (l := l) (inner := inner) (b := none) (y := wr_rest M i y k) (k := k) (by omega) (by omega) (by omega) (by omega) (by omega) (fun j e => by cases e <;> omega) hin hwf h275) hr9
                have f289 := f274.trans f288
                refine wp_cv (A' := A285) (v := some (.int (Int32.ofNat 0))) rfl rfl rfl rfl rfl h275.rc (by omega) (g286) rfl ?_
                show am_wp d 112 (173, [some (.ref (r)), some (.int (Int32.ofNat i)), some (.ref (rs.getD j 0)), some (.int (Int32.ofNat l)), some (.long (Int64.ofNat (10 ^ k))), none, some (.long (Int64.ofInt (wr_rest M i y k))), none, some (.int ((-1))), some (.int (Int32.ofNat 1)), some (.int (Int32.ofNat (ct_cat S1 (wr_rest M i y k).natAbs k 5 0)))], [.int (Int32.ofNat 0)], A285) _
                refine wp_rt rfl rfl rfl ?_
                have hres : wr_br M inner (wr_plub M S0 S1 i y k) (wr_rest M i y k) k w = .ok w9 := by simp only [wr_plub, wr_exb, wr_catb, wr_or, hy0, hym, ha, h213, hc, hb, hr9, ↓reduceIte]
                rw [hres]
                exact wr_Q_ok h287 f289
            · skip
              have hbl := mg_bw_lt hb
              refine wp_cv (A' := A266) (v := some (.int (Int32.ofNat jhb))) rfl rfl rfl rfl rfl h275.mc (by omega) (by have q := mn_with (d := d - 1) (o := i) (s := sb_OTH) (by omega) h275.N; rw [hb] at q; exact q) rfl ?_
              show am_wp d 112 (158, [some (.ref (r)), some (.int (Int32.ofNat i)), some (.ref (rs.getD j 0)), some (.int (Int32.ofNat l)), some (.long (Int64.ofNat (10 ^ k))), none, some (.long (Int64.ofInt (wr_rest M i y k))), none, some (.int ((-1))), some (.int (Int32.ofNat 1)), some (.int (Int32.ofNat (ct_cat S1 (wr_rest M i y k).natAbs k 5 0)))], [.int (Int32.ofNat jhb)], A266) _
              refine wp_st 6 (f' := (167, [some (.ref (r)), some (.int (Int32.ofNat i)), some (.ref (rs.getD j 0)), some (.int (Int32.ofNat l)), some (.long (Int64.ofNat (10 ^ k))), none, some (.long (Int64.ofInt (wr_rest M i y k))), none, some (.int (Int32.ofNat jhb)), some (.int (Int32.ofNat 1)), some (.int (Int32.ofNat (ct_cat S1 (wr_rest M i y k).natAbs k 5 0)))], [.ref (rs.getD j 0), .long (Int64.ofInt (wr_rest M i y k)), .int (Int32.ofNat l), .int (Int32.ofNat jhb), .ref (r)], A266)) rfl ?_
              refine wp_gf rfl rfl (h275.vc hj hxj) rfl rfl ?_
              rcases hr9 : wr_br M inner (some jhb) (wr_rest M i y k) k w with c9 | w9
              · skip
                obtain ⟨w294, A290, p295, c296, g291, h292, f293⟩ := wr_Q0 (wi_br (d := d - 1) (D0 := D0) (l := l) (inner := inner) (b := (some jhb)) (y := wr_rest M i y k) (k := k) (by omega) (by omega) (by omega) (by omega) (by omega) (fun j e => by cases e <;> omega) hin hwf h275) hr9
                have f297 := f274.trans f293
                have p298 : c9 ≠ 3 → w <+: w294 := fun e => (List.prefix_refl w).trans (p295 e)
                refine wp_cv (A' := A290) (v := some (.int (Int32.ofNat c9))) rfl rfl rfl rfl rfl h275.rc (by omega) (g291) rfl ?_
                show am_wp d 112 (173, [some (.ref (r)), some (.int (Int32.ofNat i)), some (.ref (rs.getD j 0)), some (.int (Int32.ofNat l)), some (.long (Int64.ofNat (10 ^ k))), none, some (.long (Int64.ofInt (wr_rest M i y k))), none, some (.int (Int32.ofNat jhb)), some (.int (Int32.ofNat 1)), some (.int (Int32.ofNat (ct_cat S1 (wr_rest M i y k).natAbs k 5 0)))], [.int (Int32.ofNat c9)], A290) _
                refine wp_rt rfl rfl rfl ?_
                have hres : wr_br M inner (wr_plub M S0 S1 i y k) (wr_rest M i y k) k w = .error c9 := by simp only [wr_plub, wr_exb, wr_catb, wr_or, hy0, hym, ha, h213, hc, hb, hr9, ↓reduceIte]
                rw [hres]
                exact wr_Q_er c296 p298 h292 f297
              · skip
                obtain ⟨A299, g300, h301, f302⟩ := wr_Q1 (wi_br (d := d - 1) (D0 := D0) (l := l) (inner := inner) (b := (some jhb)) (y := wr_rest M i y k) (k := k) (by omega) (by omega) (by omega) (by omega) (by omega) (fun j e => by cases e <;> omega) hin hwf h275) hr9
                have f303 := f274.trans f302
                refine wp_cv (A' := A299) (v := some (.int (Int32.ofNat 0))) rfl rfl rfl rfl rfl h275.rc (by omega) (g300) rfl ?_
                show am_wp d 112 (173, [some (.ref (r)), some (.int (Int32.ofNat i)), some (.ref (rs.getD j 0)), some (.int (Int32.ofNat l)), some (.long (Int64.ofNat (10 ^ k))), none, some (.long (Int64.ofInt (wr_rest M i y k))), none, some (.int (Int32.ofNat jhb)), some (.int (Int32.ofNat 1)), some (.int (Int32.ofNat (ct_cat S1 (wr_rest M i y k).natAbs k 5 0)))], [.int (Int32.ofNat 0)], A299) _
                refine wp_rt rfl rfl rfl ?_
                have hres : wr_br M inner (wr_plub M S0 S1 i y k) (wr_rest M i y k) k w = .ok w9 := by simp only [wr_plub, wr_exb, wr_catb, wr_or, hy0, hym, ha, h213, hc, hb, hr9, ↓reduceIte]
                rw [hres]
                exact wr_Q_ok h301 f303
          · skip
            have hcl := mg_bw_lt hc
            refine wp_cv (A' := A266) (v := some (.int (Int32.ofNat jhc))) rfl rfl rfl rfl rfl h275.mc (by omega) (by have q := mn_with (d := d - 1) (o := i) (s := ru_CW.getD (ct_cat S1 (wr_rest M i y k).natAbs k 5 0) 0) (by omega) h275.N; rw [hc] at q; exact q) rfl ?_
            show am_wp d 112 (139, [some (.ref (r)), some (.int (Int32.ofNat i)), some (.ref (rs.getD j 0)), some (.int (Int32.ofNat l)), some (.long (Int64.ofNat (10 ^ k))), none, some (.long (Int64.ofInt (wr_rest M i y k))), none, some (.int ((-1))), some (.int (Int32.ofNat 1)), some (.int (Int32.ofNat (ct_cat S1 (wr_rest M i y k).natAbs k 5 0)))], [.int (Int32.ofNat jhc)], A266) _
            refine wp_st 3 (f' := (144, [some (.ref (r)), some (.int (Int32.ofNat i)), some (.ref (rs.getD j 0)), some (.int (Int32.ofNat l)), some (.long (Int64.ofNat (10 ^ k))), none, some (.long (Int64.ofInt (wr_rest M i y k))), none, some (.int (Int32.ofNat jhc)), some (.int (Int32.ofNat 1)), some (.int (Int32.ofNat (ct_cat S1 (wr_rest M i y k).natAbs k 5 0)))], [.int ((-1)), .int (Int32.ofNat jhc)], A266)) rfl ?_
            refine wp_ifT rfl rfl (i32_neg1 (by omega)) ?_
            refine wp_st 5 (f' := (167, [some (.ref (r)), some (.int (Int32.ofNat i)), some (.ref (rs.getD j 0)), some (.int (Int32.ofNat l)), some (.long (Int64.ofNat (10 ^ k))), none, some (.long (Int64.ofInt (wr_rest M i y k))), none, some (.int (Int32.ofNat jhc)), some (.int (Int32.ofNat 1)), some (.int (Int32.ofNat (ct_cat S1 (wr_rest M i y k).natAbs k 5 0)))], [.ref (rs.getD j 0), .long (Int64.ofInt (wr_rest M i y k)), .int (Int32.ofNat l), .int (Int32.ofNat jhc), .ref (r)], A266)) rfl ?_
            refine wp_gf rfl rfl (h275.vc hj hxj) rfl rfl ?_
            rcases hr9 : wr_br M inner (some jhc) (wr_rest M i y k) k w with c9 | w9
            · skip
              obtain ⟨w308, A304, p309, c310, g305, h306, f307⟩ := wr_Q0 (wi_br (d := d - 1) (D0 := D0) (l := l) (inner := inner) (b := (some jhc)) (y := wr_rest M i y k) (k := k) (by omega) (by omega) (by omega) (by omega) (by omega) (fun j e => by cases e <;> omega) hin hwf h275) hr9
              have f311 := f274.trans f307
              have p312 : c9 ≠ 3 → w <+: w308 := fun e => (List.prefix_refl w).trans (p309 e)
              refine wp_cv (A' := A304) (v := some (.int (Int32.ofNat c9))) rfl rfl rfl rfl rfl h275.rc (by omega) (g305) rfl ?_
              show am_wp d 112 (173, [some (.ref (r)), some (.int (Int32.ofNat i)), some (.ref (rs.getD j 0)), some (.int (Int32.ofNat l)), some (.long (Int64.ofNat (10 ^ k))), none, some (.long (Int64.ofInt (wr_rest M i y k))), none, some (.int (Int32.ofNat jhc)), some (.int (Int32.ofNat 1)), some (.int (Int32.ofNat (ct_cat S1 (wr_rest M i y k).natAbs k 5 0)))], [.int (Int32.ofNat c9)], A304) _
              refine wp_rt rfl rfl rfl ?_
              have hres : wr_br M inner (wr_plub M S0 S1 i y k) (wr_rest M i y k) k w = .error c9 := by simp only [wr_plub, wr_exb, wr_catb, wr_or, hy0, hym, ha, h213, hc, hr9, ↓reduceIte]
              rw [hres]
              exact wr_Q_er c310 p312 h306 f311
            · skip
              obtain ⟨A313, g314, h315, f316⟩ := wr_Q1 (wi_br (d := d - 1) (D0 := D0) (l := l) (inner := inner) (b := (some jhc)) (y := wr_rest M i y k) (k := k) (by omega) (by omega) (by omega) (by omega) (by omega) (fun j e => by cases e <;> omega) hin hwf h275) hr9
              have f317 := f274.trans f316
              refine wp_cv (A' := A313) (v := some (.int (Int32.ofNat 0))) rfl rfl rfl rfl rfl h275.rc (by omega) (g314) rfl ?_
              show am_wp d 112 (173, [some (.ref (r)), some (.int (Int32.ofNat i)), some (.ref (rs.getD j 0)), some (.int (Int32.ofNat l)), some (.long (Int64.ofNat (10 ^ k))), none, some (.long (Int64.ofInt (wr_rest M i y k))), none, some (.int (Int32.ofNat jhc)), some (.int (Int32.ofNat 1)), some (.int (Int32.ofNat (ct_cat S1 (wr_rest M i y k).natAbs k 5 0)))], [.int (Int32.ofNat 0)], A313) _
              refine wp_rt rfl rfl rfl ?_
              have hres : wr_br M inner (wr_plub M S0 S1 i y k) (wr_rest M i y k) k w = .ok w9 := by simp only [wr_plub, wr_exb, wr_catb, wr_or, hy0, hym, ha, h213, hc, hr9, ↓reduceIte]
              rw [hres]
              exact wr_Q_ok h315 f317
      · skip
        have hal := mg_bw_lt ha
        refine wp_cv (A' := A) (v := some (.int (Int32.ofNat jha))) rfl rfl rfl rfl rfl h.mc (by omega) (by have q := mn_with (d := d - 1) (o := i) (s := rd_ex (y.natAbs / 10 ^ k)) (by omega) h.N; rw [ha] at q; exact q) rfl ?_
        show am_wp d 112 (78, [some (.ref (r)), some (.int (Int32.ofNat i)), some (.ref (rs.getD j 0)), some (.int (Int32.ofNat l)), some (.long (Int64.ofNat (10 ^ k))), none, some (.long (Int64.ofInt (wr_rest M i y k))), none, some (.int ((-1))), none, none], [.int (Int32.ofNat jha)], A) _
        refine wp_st 3 (f' := (83, [some (.ref (r)), some (.int (Int32.ofNat i)), some (.ref (rs.getD j 0)), some (.int (Int32.ofNat l)), some (.long (Int64.ofNat (10 ^ k))), none, some (.long (Int64.ofInt (wr_rest M i y k))), none, some (.int (Int32.ofNat jha)), none, none], [.int ((-1)), .int (Int32.ofNat jha)], A)) rfl ?_
        refine wp_ifT rfl rfl (i32_neg1 (by omega)) ?_
        refine wp_st 2 (f' := (144, [some (.ref (r)), some (.int (Int32.ofNat i)), some (.ref (rs.getD j 0)), some (.int (Int32.ofNat l)), some (.long (Int64.ofNat (10 ^ k))), none, some (.long (Int64.ofInt (wr_rest M i y k))), none, some (.int (Int32.ofNat jha)), none, none], [.int ((-1)), .int (Int32.ofNat jha)], A)) rfl ?_
        refine wp_ifT rfl rfl (i32_neg1 (by omega)) ?_
        refine wp_st 5 (f' := (167, [some (.ref (r)), some (.int (Int32.ofNat i)), some (.ref (rs.getD j 0)), some (.int (Int32.ofNat l)), some (.long (Int64.ofNat (10 ^ k))), none, some (.long (Int64.ofInt (wr_rest M i y k))), none, some (.int (Int32.ofNat jha)), none, none], [.ref (rs.getD j 0), .long (Int64.ofInt (wr_rest M i y k)), .int (Int32.ofNat l), .int (Int32.ofNat jha), .ref (r)], A)) rfl ?_
        refine wp_gf rfl rfl (h.vc hj hxj) rfl rfl ?_
        rcases hr9 : wr_br M inner (some jha) (wr_rest M i y k) k w with c9 | w9
        · skip
          obtain ⟨w322, A318, p323, c324, g319, h320, f321⟩ := wr_Q0 (wi_br (d := d - 1) (D0 := D0) (l := l) (inner := inner) (b := (some jha)) (y := wr_rest M i y k) (k := k) (by omega) (by omega) (by omega) (by omega) (by omega) (fun j e => by cases e <;> omega) hin hwf h) hr9
          have f325 := (wr_F.refl A s0 s1 u).trans f321
          have p326 : c9 ≠ 3 → w <+: w322 := fun e => (List.prefix_refl w).trans (p323 e)
          refine wp_cv (A' := A318) (v := some (.int (Int32.ofNat c9))) rfl rfl rfl rfl rfl h.rc (by omega) (g319) rfl ?_
          show am_wp d 112 (173, [some (.ref (r)), some (.int (Int32.ofNat i)), some (.ref (rs.getD j 0)), some (.int (Int32.ofNat l)), some (.long (Int64.ofNat (10 ^ k))), none, some (.long (Int64.ofInt (wr_rest M i y k))), none, some (.int (Int32.ofNat jha)), none, none], [.int (Int32.ofNat c9)], A318) _
          refine wp_rt rfl rfl rfl ?_
          have hres : wr_br M inner (wr_plub M S0 S1 i y k) (wr_rest M i y k) k w = .error c9 := by simp only [wr_plub, wr_exb, wr_catb, wr_or, hy0, hym, ha, hr9, ↓reduceIte]
          rw [hres]
          exact wr_Q_er c324 p326 h320 f325
        · skip
          obtain ⟨A327, g328, h329, f330⟩ := wr_Q1 (wi_br (d := d - 1) (D0 := D0) (l := l) (inner := inner) (b := (some jha)) (y := wr_rest M i y k) (k := k) (by omega) (by omega) (by omega) (by omega) (by omega) (fun j e => by cases e <;> omega) hin hwf h) hr9
          have f331 := (wr_F.refl A s0 s1 u).trans f330
          refine wp_cv (A' := A327) (v := some (.int (Int32.ofNat 0))) rfl rfl rfl rfl rfl h.rc (by omega) (g328) rfl ?_
          show am_wp d 112 (173, [some (.ref (r)), some (.int (Int32.ofNat i)), some (.ref (rs.getD j 0)), some (.int (Int32.ofNat l)), some (.long (Int64.ofNat (10 ^ k))), none, some (.long (Int64.ofInt (wr_rest M i y k))), none, some (.int (Int32.ofNat jha)), none, none], [.int (Int32.ofNat 0)], A327) _
          refine wp_rt rfl rfl rfl ?_
          have hres : wr_br M inner (wr_plub M S0 S1 i y k) (wr_rest M i y k) k w = .ok w9 := by simp only [wr_plub, wr_exb, wr_catb, wr_or, hy0, hym, ha, hr9, ↓reduceIte]
          rw [hres]
          exact wr_Q_ok h329 f331
