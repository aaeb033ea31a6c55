/-! MessageReader: branches, arguments, messages. -/
theorem mr_Q.tr {A B : am_H} {r t m n : Nat} {cs : List Nat} {dbl z : Bool} {X : rd_R} {q : am_O × am_H} (hF : mr_F A B t m) (h : mr_Q B r t m cs n dbl z X q) : mr_Q A r t m cs n dbl z X q := by
  cases X with
  | ok y => exact ⟨h.1, h.2.1, hF.trans h.2.2⟩
  | error e =>
    obtain ⟨h1, a', M', h2, h3⟩ := h
    exact ⟨h1, a', M', h2, hF.trans h3⟩
/-- the text of a branch is read one level below -/
def mr_in (D0 l r t m : Nat) (cs : List Nat) (n : Nat) (dbl z : Bool) (inner : Option (Bool → Nat → mg → rd_R)) : Prop := (inner = none → 3 ≤ l) ∧ ∀ f, inner = some f → l < 3 ∧ ∀ (d a : Nat) (sg : Bool) (M : mg) (A : am_H), D0 ≤ d → a ≤ n → mg_P M ≤ a → 3 * mg_B M ≤ a + 1 → mr_I A r t m cs n a (-1) dbl M z → am_wp d 29 (0, am_ent 29 [.ref r, .int (Int32.ofNat (l + 1)), .int (sb_i sg)], [], A) (mr_Q A r t m cs n dbl z (f sg a M))
theorem mi_branch {d D0 l r t m n : Nat} {cs : List Nat} {dbl z : Bool} {inner : Option (Bool → Nat → mg → rd_R)} {i k a : Nat} {M : mg} {A : am_H} (hd : 4 ≤ d) (hd0 : D0 + 1 ≤ d) (hl : l ≤ 3) (han : a ≤ n) (hp : mg_P M ≤ a) (hb : 3 * mg_B M ≤ a) (hi : i < mg_P M) (hk : k ≤ 8) {nu : Bool} (hnu : nu = decide (k ≠ 6)) (hin : mr_in D0 l r t m cs n dbl z inner) (hle : rd_inn n inner) (h : mr_I A r t m cs n a (-1) dbl M z)  : am_wp d 56 (0, am_ent 56 [.ref r, .int (Int32.ofNat i), .int (Int32.ofNat k), .int (Int32.ofNat l)], [], A) (mr_Q A r t m cs n dbl z (rd_branch cs n inner i nu a M)) := by
  have hge := h.ge
  have hlk := h.lk
  have hcs := h.T.2.2.2.2.2.1
  rcases inner with _ | f0
  · have hl3 := hin.1 rfl
    refine wp_st 3 (f' := (4, [some (.ref (r)), some (.int (Int32.ofNat i)), some (.int (Int32.ofNat k)), some (.int (Int32.ofNat l)), none, none, none], [.int (Int32.ofNat 6), .int (Int32.ofNat k), .ref (r)], A)) rfl ?_
    refine wp_if rfl rfl rfl (fun (h1 : (Int32.ofNat k) = (Int32.ofNat 6)) => ?_) (fun (h1 : ¬ ((Int32.ofNat k) = (Int32.ofNat 6))) => ?_)
    · skip
      rw [i32_eq (by omega) (by omega)] at h1
      refine wp_st 1 (f' := (12, [some (.ref (r)), some (.int (Int32.ofNat i)), some (.int (Int32.ofNat k)), some (.int (Int32.ofNat l)), none, none, none], [.int (Int32.ofNat 0), .ref (r)], A)) rfl ?_
      have hk6 : nu = false := by rw [hnu]; simp [h1]
      rcases hs : rd_sel cs n nu a with e0 | ⟨a1, se⟩
      · skip
        obtain ⟨a6, A2, g3, h4, f5⟩ := ms_Q0 (mi_sel (d := d - 1) (nu := nu) (by omega) (by omega) h) hs
        have f7 := (mr_F.refl A t m).trans f5
        rw [hk6] at g3
        refine wp_cv (A' := A2) (v := some (.long (0))) rfl rfl rfl rfl rfl h.rc (by omega) (g3) rfl ?_
        show am_wp d 56 (15, [some (.ref (r)), some (.int (Int32.ofNat i)), some (.int (Int32.ofNat k)), some (.int (Int32.ofNat l)), none, none, none], [.long (0)], A2) _
        refine wp_st 4 (f' := (21, [some (.ref (r)), some (.int (Int32.ofNat i)), some (.int (Int32.ofNat k)), some (.int (Int32.ofNat l)), some (.long (0)), none, none], [.int (lg_cmp 0 (Int64.ofNat 0))], A2)) rfl ?_
        refine wp_izF rfl rfl (show ¬ (lg_cmp 0 (Int64.ofNat 0) ≠ 0) from by decide) ?_
        refine wp_st 1 (f' := (25, [some (.ref (r)), some (.int (Int32.ofNat i)), some (.int (Int32.ofNat k)), some (.int (Int32.ofNat l)), some (.long (0)), none, none], [.int (Int32.ofNat 0)], A2)) rfl ?_
        refine wp_rt rfl rfl rfl ?_
        have hres : rd_branch cs n none i nu a M = .error (e0) := by simp [rd_branch, and_true, not_true_eq_false, hs]
        rw [hres]
        exact mr_Q_er h4 f7
      · skip
        have hsl := rd_sel_le (by omega) hs
        have hsz := rd_sel_nz hcs (by omega) hs
        obtain ⟨A8, g9, h10, f11⟩ := ms_Q1 (mi_sel (d := d - 1) (nu := nu) (by omega) (by omega) h) hs
        have f12 := (mr_F.refl A t m).trans f11
        rw [hk6] at g9
        refine wp_cv (A' := A8) (v := some (.long (se))) rfl rfl rfl rfl rfl h.rc (by omega) (g9) rfl ?_
        show am_wp d 56 (15, [some (.ref (r)), some (.int (Int32.ofNat i)), some (.int (Int32.ofNat k)), some (.int (Int32.ofNat l)), none, none, none], [.long (se)], A8) _
        refine wp_st 4 (f' := (21, [some (.ref (r)), some (.int (Int32.ofNat i)), some (.int (Int32.ofNat k)), some (.int (Int32.ofNat l)), some (.long (se)), none, none], [.int (lg_cmp se (Int64.ofNat 0))], A8)) rfl ?_
        refine wp_izT rfl rfl (fun q => hsz ((lg_cmp_eq _ _).mp q)) ?_
        refine wp_st 1 (f' := (27, [some (.ref (r)), some (.int (Int32.ofNat i)), some (.int (Int32.ofNat k)), some (.int (Int32.ofNat l)), some (.long (se)), none, none], [.ref (r)], A8)) rfl ?_
        refine wp_gf rfl rfl h10.rc rfl rfl ?_
        have k13 := rd_sk_le (cs := cs) (n := n) (a := a1) (by omega)
        obtain ⟨A14, g15, h16, f17⟩ := mi_skip (d := d - 1) (by omega) (by omega) h10
        have f18 := f12.trans f17
        refine wp_cv (A' := A14) (v := none) rfl rfl rfl rfl rfl h10.tc (by omega) (g15) rfl ?_
        show am_wp d 56 (33, [some (.ref (r)), some (.int (Int32.ofNat i)), some (.int (Int32.ofNat k)), some (.int (Int32.ofNat l)), some (.long (se)), none, none], [], A14) _
        refine wp_st 1 (f' := (34, [some (.ref (r)), some (.int (Int32.ofNat i)), some (.int (Int32.ofNat k)), some (.int (Int32.ofNat l)), some (.long (se)), none, none], [.ref (r)], A14)) rfl ?_
        refine wp_gf rfl rfl h16.rc rfl rfl ?_
        refine wp_st 1 (f' := (38, [some (.ref (r)), some (.int (Int32.ofNat i)), some (.int (Int32.ofNat k)), some (.int (Int32.ofNat l)), some (.long (se)), none, none], [.ref (r), .ref (t)], A14)) rfl ?_
        refine wp_gf rfl rfl h16.rc rfl rfl ?_
        refine wp_gf rfl rfl h16.tc rfl rfl ?_
        by_cases c19 : rd_sk cs n a1 < n
        · skip
          have c19l := hlk (rd_sk cs n a1)
          refine wp_cv (A' := A14) (v := some (.int (Int32.ofNat (sb_lk cs n (rd_sk cs n a1))))) rfl rfl rfl rfl rfl h16.tc (by omega) (mi_chr1 c19 h16) rfl ?_
          show am_wp d 56 (47, [some (.ref (r)), some (.int (Int32.ofNat i)), some (.int (Int32.ofNat k)), some (.int (Int32.ofNat l)), some (.long (se)), none, none], [.int (Int32.ofNat (sb_lk cs n (rd_sk cs n a1)))], A14) _
          refine wp_st 1 (f' := (49, [some (.ref (r)), some (.int (Int32.ofNat i)), some (.int (Int32.ofNat k)), some (.int (Int32.ofNat l)), some (.long (se)), none, none], [.int (Int32.ofNat 123), .int (Int32.ofNat (sb_lk cs n (rd_sk cs n a1)))], A14)) rfl ?_
          refine wp_if rfl rfl rfl (fun (h20 : (Int32.ofNat (sb_lk cs n (rd_sk cs n a1))) ≠ (Int32.ofNat 123)) => ?_) (fun (h20 : ¬ ((Int32.ofNat (sb_lk cs n (rd_sk cs n a1))) ≠ (Int32.ofNat 123))) => ?_)
          · skip
            rw [ne_eq, i32_eq (by omega) (by omega)] at h20
            refine wp_st 1 (f' := (58, [some (.ref (r)), some (.int (Int32.ofNat i)), some (.int (Int32.ofNat k)), some (.int (Int32.ofNat l)), some (.long (se)), none, none], [.ref (r)], A14)) rfl ?_
            refine wp_gf rfl rfl h16.rc rfl rfl ?_
            refine wp_st 1 (f' := (62, [some (.ref (r)), some (.int (Int32.ofNat i)), some (.int (Int32.ofNat k)), some (.int (Int32.ofNat l)), some (.long (se)), none, none], [.ref (r), .ref (t)], A14)) rfl ?_
            refine wp_gf rfl rfl h16.rc rfl rfl ?_
            refine wp_gf rfl rfl h16.tc rfl rfl ?_
            obtain ⟨A21, g22, h23, f24⟩ := mi_refuse (d := d - 1) (x := Int32.ofNat (rd_sk cs n a1)) h16
            have f25 := f18.trans f24
            refine wp_cv (A' := A21) (v := some (.int (Int32.ofNat 0))) rfl rfl rfl rfl rfl h16.tc (by omega) (g22) rfl ?_
            show am_wp d 56 (71, [some (.ref (r)), some (.int (Int32.ofNat i)), some (.int (Int32.ofNat k)), some (.int (Int32.ofNat l)), some (.long (se)), none, none], [.int (Int32.ofNat 0)], A21) _
            refine wp_rt rfl rfl rfl ?_
            have hres : rd_branch cs n none i nu a M = .error (rd_sk cs n a1) := by simp [rd_branch, and_true, not_true_eq_false, hs, c19, h20]
            rw [hres]
            exact mr_Q_er h23 f25
          · skip
            rw [ne_eq, i32_eq (by omega) (by omega)] at h20
            replace h20 := Decidable.not_not.mp h20
            refine wp_st 2 (f' := (54, [some (.ref (r)), some (.int (Int32.ofNat i)), some (.int (Int32.ofNat k)), some (.int (Int32.ofNat l)), some (.long (se)), none, none], [.int (Int32.ofNat 3), .int (Int32.ofNat l)], A14)) rfl ?_
            refine wp_ifF rfl rfl (fun q => absurd ((i32_lt (a := l) (b := 3) (by omega) (by omega)).mp q) (by omega)) ?_
            refine wp_st 1 (f' := (58, [some (.ref (r)), some (.int (Int32.ofNat i)), some (.int (Int32.ofNat k)), some (.int (Int32.ofNat l)), some (.long (se)), none, none], [.ref (r)], A14)) rfl ?_
            refine wp_gf rfl rfl h16.rc rfl rfl ?_
            refine wp_st 1 (f' := (62, [some (.ref (r)), some (.int (Int32.ofNat i)), some (.int (Int32.ofNat k)), some (.int (Int32.ofNat l)), some (.long (se)), none, none], [.ref (r), .ref (t)], A14)) rfl ?_
            refine wp_gf rfl rfl h16.rc rfl rfl ?_
            refine wp_gf rfl rfl h16.tc rfl rfl ?_
            obtain ⟨A26, g27, h28, f29⟩ := mi_refuse (d := d - 1) (x := Int32.ofNat (rd_sk cs n a1)) h16
            have f30 := f18.trans f29
            refine wp_cv (A' := A26) (v := some (.int (Int32.ofNat 0))) rfl rfl rfl rfl rfl h16.tc (by omega) (g27) rfl ?_
            show am_wp d 56 (71, [some (.ref (r)), some (.int (Int32.ofNat i)), some (.int (Int32.ofNat k)), some (.int (Int32.ofNat l)), some (.long (se)), none, none], [.int (Int32.ofNat 0)], A26) _
            refine wp_rt rfl rfl rfl ?_
            have hres : rd_branch cs n none i nu a M = .error (rd_sk cs n a1) := by simp [rd_branch, and_true, not_true_eq_false, hs, c19, h20]
            rw [hres]
            exact mr_Q_er h28 f30
        · skip
          have c19z : sb_lk cs n (rd_sk cs n a1) = 0 := sb_lk_out c19
          refine wp_cv (A' := A14) (v := some (.int ((-1)))) rfl rfl rfl rfl rfl h16.tc (by omega) (mi_chr0 c19 (by omega) h16) rfl ?_
          show am_wp d 56 (47, [some (.ref (r)), some (.int (Int32.ofNat i)), some (.int (Int32.ofNat k)), some (.int (Int32.ofNat l)), some (.long (se)), none, none], [.int ((-1))], A14) _
          refine wp_st 1 (f' := (49, [some (.ref (r)), some (.int (Int32.ofNat i)), some (.int (Int32.ofNat k)), some (.int (Int32.ofNat l)), some (.long (se)), none, none], [.int (Int32.ofNat 123), .int ((-1))], A14)) rfl ?_
          refine wp_ifT rfl rfl (show (-1 : Int32) ≠ (Int32.ofNat 123) from by decide) ?_
          refine wp_st 1 (f' := (58, [some (.ref (r)), some (.int (Int32.ofNat i)), some (.int (Int32.ofNat k)), some (.int (Int32.ofNat l)), some (.long (se)), none, none], [.ref (r)], A14)) rfl ?_
          refine wp_gf rfl rfl h16.rc rfl rfl ?_
          refine wp_st 1 (f' := (62, [some (.ref (r)), some (.int (Int32.ofNat i)), some (.int (Int32.ofNat k)), some (.int (Int32.ofNat l)), some (.long (se)), none, none], [.ref (r), .ref (t)], A14)) rfl ?_
          refine wp_gf rfl rfl h16.rc rfl rfl ?_
          refine wp_gf rfl rfl h16.tc rfl rfl ?_
          obtain ⟨A31, g32, h33, f34⟩ := mi_refuse (d := d - 1) (x := Int32.ofNat (rd_sk cs n a1)) h16
          have f35 := f18.trans f34
          refine wp_cv (A' := A31) (v := some (.int (Int32.ofNat 0))) rfl rfl rfl rfl rfl h16.tc (by omega) (g32) rfl ?_
          show am_wp d 56 (71, [some (.ref (r)), some (.int (Int32.ofNat i)), some (.int (Int32.ofNat k)), some (.int (Int32.ofNat l)), some (.long (se)), none, none], [.int (Int32.ofNat 0)], A31) _
          refine wp_rt rfl rfl rfl ?_
          have hres : rd_branch cs n none i nu a M = .error (rd_sk cs n a1) := by simp [rd_branch, and_true, not_true_eq_false, hs, c19, c19z]
          rw [hres]
          exact mr_Q_er h33 f35
    · skip
      rw [i32_eq (by omega) (by omega)] at h1
      refine wp_st 2 (f' := (12, [some (.ref (r)), some (.int (Int32.ofNat i)), some (.int (Int32.ofNat k)), some (.int (Int32.ofNat l)), none, none, none], [.int (Int32.ofNat 1), .ref (r)], A)) rfl ?_
      have hk6 : nu = true := by rw [hnu]; simp [h1]
      rcases hs : rd_sel cs n nu a with e0 | ⟨a1, se⟩
      · skip
        obtain ⟨a40, A36, g37, h38, f39⟩ := ms_Q0 (mi_sel (d := d - 1) (nu := nu) (by omega) (by omega) h) hs
        have f41 := (mr_F.refl A t m).trans f39
        rw [hk6] at g37
        refine wp_cv (A' := A36) (v := some (.long (0))) rfl rfl rfl rfl rfl h.rc (by omega) (g37) rfl ?_
        show am_wp d 56 (15, [some (.ref (r)), some (.int (Int32.ofNat i)), some (.int (Int32.ofNat k)), some (.int (Int32.ofNat l)), none, none, none], [.long (0)], A36) _
        refine wp_st 4 (f' := (21, [some (.ref (r)), some (.int (Int32.ofNat i)), some (.int (Int32.ofNat k)), some (.int (Int32.ofNat l)), some (.long (0)), none, none], [.int (lg_cmp 0 (Int64.ofNat 0))], A36)) rfl ?_
        refine wp_izF rfl rfl (show ¬ (lg_cmp 0 (Int64.ofNat 0) ≠ 0) from by decide) ?_
        refine wp_st 1 (f' := (25, [some (.ref (r)), some (.int (Int32.ofNat i)), some (.int (Int32.ofNat k)), some (.int (Int32.ofNat l)), some (.long (0)), none, none], [.int (Int32.ofNat 0)], A36)) rfl ?_
        refine wp_rt rfl rfl rfl ?_
        have hres : rd_branch cs n none i nu a M = .error (e0) := by simp [rd_branch, and_true, not_true_eq_false, hs]
        rw [hres]
        exact mr_Q_er h38 f41
      · skip
        have hsl := rd_sel_le (by omega) hs
        have hsz := rd_sel_nz hcs (by omega) hs
        obtain ⟨A42, g43, h44, f45⟩ := ms_Q1 (mi_sel (d := d - 1) (nu := nu) (by omega) (by omega) h) hs
        have f46 := (mr_F.refl A t m).trans f45
        rw [hk6] at g43
        refine wp_cv (A' := A42) (v := some (.long (se))) rfl rfl rfl rfl rfl h.rc (by omega) (g43) rfl ?_
        show am_wp d 56 (15, [some (.ref (r)), some (.int (Int32.ofNat i)), some (.int (Int32.ofNat k)), some (.int (Int32.ofNat l)), none, none, none], [.long (se)], A42) _
        refine wp_st 4 (f' := (21, [some (.ref (r)), some (.int (Int32.ofNat i)), some (.int (Int32.ofNat k)), some (.int (Int32.ofNat l)), some (.long (se)), none, none], [.int (lg_cmp se (Int64.ofNat 0))], A42)) rfl ?_
        refine wp_izT rfl rfl (fun q => hsz ((lg_cmp_eq _ _).mp q)) ?_
        refine wp_st 1 (f' := (27, [some (.ref (r)), some (.int (Int32.ofNat i)), some (.int (Int32.ofNat k)), some (.int (Int32.ofNat l)), some (.long (se)), none, none], [.ref (r)], A42)) rfl ?_
        refine wp_gf rfl rfl h44.rc rfl rfl ?_
        have k47 := rd_sk_le (cs := cs) (n := n) (a := a1) (by omega)
        obtain ⟨A48, g49, h50, f51⟩ := mi_skip (d := d - 1) (by omega) (by omega) h44
        have f52 := f46.trans f51
        refine wp_cv (A' := A48) (v := none) rfl rfl rfl rfl rfl h44.tc (by omega) (g49) rfl ?_
        show am_wp d 56 (33, [some (.ref (r)), some (.int (Int32.ofNat i)), some (.int (Int32.ofNat k)), some (.int (Int32.ofNat l)), some (.long (se)), none, none], [], A48) _
        refine wp_st 1 (f' := (34, [some (.ref (r)), some (.int (Int32.ofNat i)), some (.int (Int32.ofNat k)), some (.int (Int32.ofNat l)), some (.long (se)), none, none], [.ref (r)], A48)) rfl ?_
        refine wp_gf rfl rfl h50.rc rfl rfl ?_
        refine wp_st 1 (f' := (38, [some (.ref (r)), some (.int (Int32.ofNat i)), some (.int (Int32.ofNat k)), some (.int (Int32.ofNat l)), some (.long (se)), none, none], [.ref (r), .ref (t)], A48)) rfl ?_
        refine wp_gf rfl rfl h50.rc rfl rfl ?_
        refine wp_gf rfl rfl h50.tc rfl rfl ?_
        by_cases c53 : rd_sk cs n a1 < n
        · skip
          have c53l := hlk (rd_sk cs n a1)
          refine wp_cv (A' := A48) (v := some (.int (Int32.ofNat (sb_lk cs n (rd_sk cs n a1))))) rfl rfl rfl rfl rfl h50.tc (by omega) (mi_chr1 c53 h50) rfl ?_
          show am_wp d 56 (47, [some (.ref (r)), some (.int (Int32.ofNat i)), some (.int (Int32.ofNat k)), some (.int (Int32.ofNat l)), some (.long (se)), none, none], [.int (Int32.ofNat (sb_lk cs n (rd_sk cs n a1)))], A48) _
          refine wp_st 1 (f' := (49, [some (.ref (r)), some (.int (Int32.ofNat i)), some (.int (Int32.ofNat k)), some (.int (Int32.ofNat l)), some (.long (se)), none, none], [.int (Int32.ofNat 123), .int (Int32.ofNat (sb_lk cs n (rd_sk cs n a1)))], A48)) rfl ?_
          refine wp_if rfl rfl rfl (fun (h54 : (Int32.ofNat (sb_lk cs n (rd_sk cs n a1))) ≠ (Int32.ofNat 123)) => ?_) (fun (h54 : ¬ ((Int32.ofNat (sb_lk cs n (rd_sk cs n a1))) ≠ (Int32.ofNat 123))) => ?_)
          · skip
            rw [ne_eq, i32_eq (by omega) (by omega)] at h54
            refine wp_st 1 (f' := (58, [some (.ref (r)), some (.int (Int32.ofNat i)), some (.int (Int32.ofNat k)), some (.int (Int32.ofNat l)), some (.long (se)), none, none], [.ref (r)], A48)) rfl ?_
            refine wp_gf rfl rfl h50.rc rfl rfl ?_
            refine wp_st 1 (f' := (62, [some (.ref (r)), some (.int (Int32.ofNat i)), some (.int (Int32.ofNat k)), some (.int (Int32.ofNat l)), some (.long (se)), none, none], [.ref (r), .ref (t)], A48)) rfl ?_
            refine wp_gf rfl rfl h50.rc rfl rfl ?_
            refine wp_gf rfl rfl h50.tc rfl rfl ?_
            obtain ⟨A55, g56, h57, f58⟩ := mi_refuse (d := d - 1) (x := Int32.ofNat (rd_sk cs n a1)) h50
            have f59 := f52.trans f58
            refine wp_cv (A' := A55) (v := some (.int (Int32.ofNat 0))) rfl rfl rfl rfl rfl h50.tc (by omega) (g56) rfl ?_
            show am_wp d 56 (71, [some (.ref (r)), some (.int (Int32.ofNat i)), some (.int (Int32.ofNat k)), some (.int (Int32.ofNat l)), some (.long (se)), none, none], [.int (Int32.ofNat 0)], A55) _
            refine wp_rt rfl rfl rfl ?_
            have hres : rd_branch cs n none i nu a M = .error (rd_sk cs n a1) := by simp [rd_branch, and_true, not_true_eq_false, hs, c53, h54]
            rw [hres]
            exact mr_Q_er h57 f59
          · skip
            rw [ne_eq, i32_eq (by omega) (by omega)] at h54
            replace h54 := Decidable.not_not.mp h54
            refine wp_st 2 (f' := (54, [some (.ref (r)), some (.int (Int32.ofNat i)), some (.int (Int32.ofNat k)), some (.int (Int32.ofNat l)), some (.long (se)), none, none], [.int (Int32.ofNat 3), .int (Int32.ofNat l)], A48)) rfl ?_
            refine wp_ifF rfl rfl (fun q => absurd ((i32_lt (a := l) (b := 3) (by omega) (by omega)).mp q) (by omega)) ?_
            refine wp_st 1 (f' := (58, [some (.ref (r)), some (.int (Int32.ofNat i)), some (.int (Int32.ofNat k)), some (.int (Int32.ofNat l)), some (.long (se)), none, none], [.ref (r)], A48)) rfl ?_
            refine wp_gf rfl rfl h50.rc rfl rfl ?_
            refine wp_st 1 (f' := (62, [some (.ref (r)), some (.int (Int32.ofNat i)), some (.int (Int32.ofNat k)), some (.int (Int32.ofNat l)), some (.long (se)), none, none], [.ref (r), .ref (t)], A48)) rfl ?_
            refine wp_gf rfl rfl h50.rc rfl rfl ?_
            refine wp_gf rfl rfl h50.tc rfl rfl ?_
            obtain ⟨A60, g61, h62, f63⟩ := mi_refuse (d := d - 1) (x := Int32.ofNat (rd_sk cs n a1)) h50
            have f64 := f52.trans f63
            refine wp_cv (A' := A60) (v := some (.int (Int32.ofNat 0))) rfl rfl rfl rfl rfl h50.tc (by omega) (g61) rfl ?_
            show am_wp d 56 (71, [some (.ref (r)), some (.int (Int32.ofNat i)), some (.int (Int32.ofNat k)), some (.int (Int32.ofNat l)), some (.long (se)), none, none], [.int (Int32.ofNat 0)], A60) _
            refine wp_rt rfl rfl rfl ?_
            have hres : rd_branch cs n none i nu a M = .error (rd_sk cs n a1) := by simp [rd_branch, and_true, not_true_eq_false, hs, c53, h54]
            rw [hres]
            exact mr_Q_er h62 f64
        · skip
          have c53z : sb_lk cs n (rd_sk cs n a1) = 0 := sb_lk_out c53
          refine wp_cv (A' := A48) (v := some (.int ((-1)))) rfl rfl rfl rfl rfl h50.tc (by omega) (mi_chr0 c53 (by omega) h50) rfl ?_
          show am_wp d 56 (47, [some (.ref (r)), some (.int (Int32.ofNat i)), some (.int (Int32.ofNat k)), some (.int (Int32.ofNat l)), some (.long (se)), none, none], [.int ((-1))], A48) _
          refine wp_st 1 (f' := (49, [some (.ref (r)), some (.int (Int32.ofNat i)), some (.int (Int32.ofNat k)), some (.int (Int32.ofNat l)), some (.long (se)), none, none], [.int (Int32.ofNat 123), .int ((-1))], A48)) rfl ?_
          refine wp_ifT rfl rfl (show (-1 : Int32) ≠ (Int32.ofNat 123) from by decide) ?_
          refine wp_st 1 (f' := (58, [some (.ref (r)), some (.int (Int32.ofNat i)), some (.int (Int32.ofNat k)), some (.int (Int32.ofNat l)), some (.long (se)), none, none], [.ref (r)], A48)) rfl ?_
          refine wp_gf rfl rfl h50.rc rfl rfl ?_
          refine wp_st 1 (f' := (62, [some (.ref (r)), some (.int (Int32.ofNat i)), some (.int (Int32.ofNat k)), some (.int (Int32.ofNat l)), some (.long (se)), none, none], [.ref (r), .ref (t)], A48)) rfl ?_
          refine wp_gf rfl rfl h50.rc rfl rfl ?_
          refine wp_gf rfl rfl h50.tc rfl rfl ?_
          obtain ⟨A65, g66, h67, f68⟩ := mi_refuse (d := d - 1) (x := Int32.ofNat (rd_sk cs n a1)) h50
          have f69 := f52.trans f68
          refine wp_cv (A' := A65) (v := some (.int (Int32.ofNat 0))) rfl rfl rfl rfl rfl h50.tc (by omega) (g66) rfl ?_
          show am_wp d 56 (71, [some (.ref (r)), some (.int (Int32.ofNat i)), some (.int (Int32.ofNat k)), some (.int (Int32.ofNat l)), some (.long (se)), none, none], [.int (Int32.ofNat 0)], A65) _
          refine wp_rt rfl rfl rfl ?_
          have hres : rd_branch cs n none i nu a M = .error (rd_sk cs n a1) := by simp [rd_branch, and_true, not_true_eq_false, hs, c53, c53z]
          rw [hres]
          exact mr_Q_er h67 f69
  · have hl3 := (hin.2 f0 rfl).1
    refine wp_st 3 (f' := (4, [some (.ref (r)), some (.int (Int32.ofNat i)), some (.int (Int32.ofNat k)), some (.int (Int32.ofNat l)), none, none, none], [.int (Int32.ofNat 6), .int (Int32.ofNat k), .ref (r)], A)) rfl ?_
    refine wp_if rfl rfl rfl (fun (h1 : (Int32.ofNat k) = (Int32.ofNat 6)) => ?_) (fun (h1 : ¬ ((Int32.ofNat k) = (Int32.ofNat 6))) => ?_)
    · skip
      rw [i32_eq (by omega) (by omega)] at h1
      refine wp_st 1 (f' := (12, [some (.ref (r)), some (.int (Int32.ofNat i)), some (.int (Int32.ofNat k)), some (.int (Int32.ofNat l)), none, none, none], [.int (Int32.ofNat 0), .ref (r)], A)) rfl ?_
      have hk6 : nu = false := by rw [hnu]; simp [h1]
      rcases hs : rd_sel cs n nu a with e0 | ⟨a1, se⟩
      · skip
        obtain ⟨a6, A2, g3, h4, f5⟩ := ms_Q0 (mi_sel (d := d - 1) (nu := nu) (by omega) (by omega) h) hs
        have f7 := (mr_F.refl A t m).trans f5
        rw [hk6] at g3
        refine wp_cv (A' := A2) (v := some (.long (0))) rfl rfl rfl rfl rfl h.rc (by omega) (g3) rfl ?_
        show am_wp d 56 (15, [some (.ref (r)), some (.int (Int32.ofNat i)), some (.int (Int32.ofNat k)), some (.int (Int32.ofNat l)), none, none, none], [.long (0)], A2) _
        refine wp_st 4 (f' := (21, [some (.ref (r)), some (.int (Int32.ofNat i)), some (.int (Int32.ofNat k)), some (.int (Int32.ofNat l)), some (.long (0)), none, none], [.int (lg_cmp 0 (Int64.ofNat 0))], A2)) rfl ?_
        refine wp_izF rfl rfl (show ¬ (lg_cmp 0 (Int64.ofNat 0) ≠ 0) from by decide) ?_
        refine wp_st 1 (f' := (25, [some (.ref (r)), some (.int (Int32.ofNat i)), some (.int (Int32.ofNat k)), some (.int (Int32.ofNat l)), some (.long (0)), none, none], [.int (Int32.ofNat 0)], A2)) rfl ?_
        refine wp_rt rfl rfl rfl ?_
        have hres : rd_branch cs n (some f0) i nu a M = .error (e0) := by simp [rd_branch, and_true, not_true_eq_false, hs]
        rw [hres]
        exact mr_Q_er h4 f7
      · skip
        have hsl := rd_sel_le (by omega) hs
        have hsz := rd_sel_nz hcs (by omega) hs
        obtain ⟨A8, g9, h10, f11⟩ := ms_Q1 (mi_sel (d := d - 1) (nu := nu) (by omega) (by omega) h) hs
        have f12 := (mr_F.refl A t m).trans f11
        rw [hk6] at g9
        refine wp_cv (A' := A8) (v := some (.long (se))) rfl rfl rfl rfl rfl h.rc (by omega) (g9) rfl ?_
        show am_wp d 56 (15, [some (.ref (r)), some (.int (Int32.ofNat i)), some (.int (Int32.ofNat k)), some (.int (Int32.ofNat l)), none, none, none], [.long (se)], A8) _
        refine wp_st 4 (f' := (21, [some (.ref (r)), some (.int (Int32.ofNat i)), some (.int (Int32.ofNat k)), some (.int (Int32.ofNat l)), some (.long (se)), none, none], [.int (lg_cmp se (Int64.ofNat 0))], A8)) rfl ?_
        refine wp_izT rfl rfl (fun q => hsz ((lg_cmp_eq _ _).mp q)) ?_
        refine wp_st 1 (f' := (27, [some (.ref (r)), some (.int (Int32.ofNat i)), some (.int (Int32.ofNat k)), some (.int (Int32.ofNat l)), some (.long (se)), none, none], [.ref (r)], A8)) rfl ?_
        refine wp_gf rfl rfl h10.rc rfl rfl ?_
        have k13 := rd_sk_le (cs := cs) (n := n) (a := a1) (by omega)
        obtain ⟨A14, g15, h16, f17⟩ := mi_skip (d := d - 1) (by omega) (by omega) h10
        have f18 := f12.trans f17
        refine wp_cv (A' := A14) (v := none) rfl rfl rfl rfl rfl h10.tc (by omega) (g15) rfl ?_
        show am_wp d 56 (33, [some (.ref (r)), some (.int (Int32.ofNat i)), some (.int (Int32.ofNat k)), some (.int (Int32.ofNat l)), some (.long (se)), none, none], [], A14) _
        refine wp_st 1 (f' := (34, [some (.ref (r)), some (.int (Int32.ofNat i)), some (.int (Int32.ofNat k)), some (.int (Int32.ofNat l)), some (.long (se)), none, none], [.ref (r)], A14)) rfl ?_
        refine wp_gf rfl rfl h16.rc rfl rfl ?_
        refine wp_st 1 (f' := (38, [some (.ref (r)), some (.int (Int32.ofNat i)), some (.int (Int32.ofNat k)), some (.int (Int32.ofNat l)), some (.long (se)), none, none], [.ref (r), .ref (t)], A14)) rfl ?_
        refine wp_gf rfl rfl h16.rc rfl rfl ?_
        refine wp_gf rfl rfl h16.tc rfl rfl ?_
        by_cases c19 : rd_sk cs n a1 < n
        · skip
          have c19l := hlk (rd_sk cs n a1)
          refine wp_cv (A' := A14) (v := some (.int (Int32.ofNat (sb_lk cs n (rd_sk cs n a1))))) rfl rfl rfl rfl rfl h16.tc (by omega) (mi_chr1 c19 h16) rfl ?_
          show am_wp d 56 (47, [some (.ref (r)), some (.int (Int32.ofNat i)), some (.int (Int32.ofNat k)), some (.int (Int32.ofNat l)), some (.long (se)), none, none], [.int (Int32.ofNat (sb_lk cs n (rd_sk cs n a1)))], A14) _
          refine wp_st 1 (f' := (49, [some (.ref (r)), some (.int (Int32.ofNat i)), some (.int (Int32.ofNat k)), some (.int (Int32.ofNat l)), some (.long (se)), none, none], [.int (Int32.ofNat 123), .int (Int32.ofNat (sb_lk cs n (rd_sk cs n a1)))], A14)) rfl ?_
          refine wp_if rfl rfl rfl (fun (h20 : (Int32.ofNat (sb_lk cs n (rd_sk cs n a1))) ≠ (Int32.ofNat 123)) => ?_) (fun (h20 : ¬ ((Int32.ofNat (sb_lk cs n (rd_sk cs n a1))) ≠ (Int32.ofNat 123))) => ?_)
          · skip
            rw [ne_eq, i32_eq (by omega) (by omega)] at h20
            refine wp_st 1 (f' := (58, [some (.ref (r)), some (.int (Int32.ofNat i)), some (.int (Int32.ofNat k)), some (.int (Int32.ofNat l)), some (.long (se)), none, none], [.ref (r)], A14)) rfl ?_
            refine wp_gf rfl rfl h16.rc rfl rfl ?_
            refine wp_st 1 (f' := (62, [some (.ref (r)), some (.int (Int32.ofNat i)), some (.int (Int32.ofNat k)), some (.int (Int32.ofNat l)), some (.long (se)), none, none], [.ref (r), .ref (t)], A14)) rfl ?_
            refine wp_gf rfl rfl h16.rc rfl rfl ?_
            refine wp_gf rfl rfl h16.tc rfl rfl ?_
            obtain ⟨A21, g22, h23, f24⟩ := mi_refuse (d := d - 1) (x := Int32.ofNat (rd_sk cs n a1)) h16
            have f25 := f18.trans f24
            refine wp_cv (A' := A21) (v := some (.int (Int32.ofNat 0))) rfl rfl rfl rfl rfl h16.tc (by omega) (g22) rfl ?_
            show am_wp d 56 (71, [some (.ref (r)), some (.int (Int32.ofNat i)), some (.int (Int32.ofNat k)), some (.int (Int32.ofNat l)), some (.long (se)), none, none], [.int (Int32.ofNat 0)], A21) _
            refine wp_rt rfl rfl rfl ?_
            have hres : rd_branch cs n (some f0) i nu a M = .error (rd_sk cs n a1) := by simp [rd_branch, and_true, not_true_eq_false, hs, c19, h20]
            rw [hres]
            exact mr_Q_er h23 f25
          · skip
            rw [ne_eq, i32_eq (by omega) (by omega)] at h20
            replace h20 := Decidable.not_not.mp h20
            refine wp_st 2 (f' := (54, [some (.ref (r)), some (.int (Int32.ofNat i)), some (.int (Int32.ofNat k)), some (.int (Int32.ofNat l)), some (.long (se)), none, none], [.int (Int32.ofNat 3), .int (Int32.ofNat l)], A14)) rfl ?_
            refine wp_ifT rfl rfl ((i32_lt (a := l) (b := 3) (by omega) (by omega)).mpr (by omega)) ?_
            refine wp_st 1 (f' := (73, [some (.ref (r)), some (.int (Int32.ofNat i)), some (.int (Int32.ofNat k)), some (.int (Int32.ofNat l)), some (.long (se)), none, none], [.ref (r)], A14)) rfl ?_
            refine wp_gf rfl rfl h16.rc rfl rfl ?_
            refine wp_st 1 (f' := (77, [some (.ref (r)), some (.int (Int32.ofNat i)), some (.int (Int32.ofNat k)), some (.int (Int32.ofNat l)), some (.long (se)), none, none], [.ref (t), .ref (t)], A14)) rfl ?_
            refine wp_gf rfl rfl h16.tc rfl rfl ?_
            refine wp_st 2 (f' := (82, [some (.ref (r)), some (.int (Int32.ofNat i)), some (.int (Int32.ofNat k)), some (.int (Int32.ofNat l)), some (.long (se)), none, none], [.int ((Int32.ofNat (rd_sk cs n a1)) + (Int32.ofNat 1)), .ref (t)], A14)) rfl ?_
            rw [i32_add (rd_sk cs n a1) (1)]
            obtain ⟨A26, e27⟩ : ∃ B, B = A14.set t (sb_tc t n (rd_sk cs n a1 + 1) ((-1))) := ⟨_, rfl⟩
            have q28 := h16.set (a' := rd_sk cs n a1 + 1) (f' := (-1)) (by omega)
            rw [← e27] at q28
            refine wp_pf (A' := A26) rfl rfl h16.tc rfl rfl (decide_eq_true (by have := h16.ge; omega)) rfl e27.symm ?_
            have h29 := q28.1
            have f30 := f18.trans q28.2
            refine wp_st 1 (f' := (86, [some (.ref (r)), some (.int (Int32.ofNat i)), some (.int (Int32.ofNat k)), some (.int (Int32.ofNat l)), some (.long (se)), none, none], [.ref (r)], A26)) rfl ?_
            refine wp_gf rfl rfl h29.rc rfl rfl ?_
            refine wp_st 2 (f' := (92, [some (.ref (r)), some (.int (Int32.ofNat i)), some (.int (Int32.ofNat k)), some (.int (Int32.ofNat l)), some (.long (se)), none, none], [.long (se), .int (Int32.ofNat i), .ref (m)], A26)) rfl ?_
            obtain ⟨A31, g32, h33, f34⟩ := mi_addb (d := d - 1) (o := i) (s := se) (by omega) (by omega) h29
            have f35 := f30.trans f34
            refine wp_cv (A' := A31) (v := some (.int (Int32.ofNat (mg_B M)))) rfl rfl rfl rfl rfl h29.mc (by omega) (g32) rfl ?_
            show am_wp d 56 (95, [some (.ref (r)), some (.int (Int32.ofNat i)), some (.int (Int32.ofNat k)), some (.int (Int32.ofNat l)), some (.long (se)), none, none], [.int (Int32.ofNat (mg_B M))], A31) _
            refine wp_st 5 (f' := (101, [some (.ref (r)), some (.int (Int32.ofNat i)), some (.int (Int32.ofNat k)), some (.int (Int32.ofNat l)), some (.long (se)), none, some (.int (Int32.ofNat (mg_B M)))], [.int ((Int32.ofNat l) + (Int32.ofNat 1)), .ref (r)], A31)) rfl ?_
            rw [i32_add (l) (1)]
            refine wp_st 2 (f' := (104, [some (.ref (r)), some (.int (Int32.ofNat i)), some (.int (Int32.ofNat k)), some (.int (Int32.ofNat l)), some (.long (se)), none, some (.int (Int32.ofNat (mg_B M)))], [.int (Int32.ofNat 6), .int (Int32.ofNat k), .int (Int32.ofNat (l + 1)), .ref (r)], A31)) rfl ?_
            refine wp_ifT rfl rfl ((i32_eq (a := k) (b := 6) (by omega) (by omega)).mpr (by omega)) ?_
            refine wp_st 1 (f' := (112, [some (.ref (r)), some (.int (Int32.ofNat i)), some (.int (Int32.ofNat k)), some (.int (Int32.ofNat l)), some (.long (se)), none, some (.int (Int32.ofNat (mg_B M)))], [.int (Int32.ofNat 0), .int (Int32.ofNat (l + 1)), .ref (r)], A31)) rfl ?_
            rcases hf : f0 nu (rd_sk cs n a1 + 1) (mg_addb M i se) with e3 | ⟨a3, M3⟩
            · skip
              obtain ⟨a40, M41, A36, g37, h38, f39⟩ := mr_Q0 ((hin.2 f0 rfl).2 (d - 1) _ nu _ _ (by omega) (by omega) (by show mg_P M ≤ _; omega) (by show 3 * (mg_B M + 1) ≤ _; omega) h33) hf
              have f42 := f35.trans f39
              rw [hk6] at g37
              refine wp_cv (A' := A36) (v := some (.int (Int32.ofNat 0))) rfl rfl rfl rfl rfl h33.rc (by omega) (g37) rfl ?_
              show am_wp d 56 (115, [some (.ref (r)), some (.int (Int32.ofNat i)), some (.int (Int32.ofNat k)), some (.int (Int32.ofNat l)), some (.long (se)), none, some (.int (Int32.ofNat (mg_B M)))], [.int (Int32.ofNat 0)], A36) _
              refine wp_izF rfl rfl (show ¬ ((Int32.ofNat 0) ≠ (Int32.ofNat 0)) from by decide) ?_
              refine wp_st 1 (f' := (119, [some (.ref (r)), some (.int (Int32.ofNat i)), some (.int (Int32.ofNat k)), some (.int (Int32.ofNat l)), some (.long (se)), none, some (.int (Int32.ofNat (mg_B M)))], [.int (Int32.ofNat 0)], A36)) rfl ?_
              refine wp_rt rfl rfl rfl ?_
              have hres : rd_branch cs n (some f0) i nu a M = .error (e3) := by simp [rd_branch, and_true, not_true_eq_false, hs, c19, h20, hf]
              rw [hres]
              exact mr_Q_er h38 f42
            · skip
              have hfl := hle f0 rfl _ _ _ _ _ (by omega) hf
              unfold rd_le at hfl
              rw [show mg_B (mg_addb M i se) = mg_B M + 1 from rfl, show mg_P (mg_addb M i se) = mg_P M from rfl] at hfl
              obtain ⟨A43, g44, h45, f46⟩ := mr_Q1 ((hin.2 f0 rfl).2 (d - 1) _ nu _ _ (by omega) (by omega) (by show mg_P M ≤ _; omega) (by show 3 * (mg_B M + 1) ≤ _; omega) h33) hf
              have f47 := f35.trans f46
              rw [hk6] at g44
              refine wp_cv (A' := A43) (v := some (.int (Int32.ofNat 1))) rfl rfl rfl rfl rfl h33.rc (by omega) (g44) rfl ?_
              show am_wp d 56 (115, [some (.ref (r)), some (.int (Int32.ofNat i)), some (.int (Int32.ofNat k)), some (.int (Int32.ofNat l)), some (.long (se)), none, some (.int (Int32.ofNat (mg_B M)))], [.int (Int32.ofNat 1)], A43) _
              refine wp_izT rfl rfl (show (Int32.ofNat 1) ≠ (Int32.ofNat 0) from by decide) ?_
              refine wp_st 1 (f' := (121, [some (.ref (r)), some (.int (Int32.ofNat i)), some (.int (Int32.ofNat k)), some (.int (Int32.ofNat l)), some (.long (se)), none, some (.int (Int32.ofNat (mg_B M)))], [.ref (r)], A43)) rfl ?_
              refine wp_gf rfl rfl h45.rc rfl rfl ?_
              refine wp_st 1 (f' := (126, [some (.ref (r)), some (.int (Int32.ofNat i)), some (.int (Int32.ofNat k)), some (.int (Int32.ofNat l)), some (.long (se)), none, some (.int (Int32.ofNat (mg_B M)))], [.int (Int32.ofNat (mg_B M)), .ref (m)], A43)) rfl ?_
              obtain ⟨A48, g49, h50, f51⟩ := mi_clb (d := d - 1) (j := mg_B M) (by omega) h45
              have f52 := f47.trans f51
              refine wp_cv (A' := A48) (v := none) rfl rfl rfl rfl rfl h45.mc (by omega) (g49) rfl ?_
              show am_wp d 56 (129, [some (.ref (r)), some (.int (Int32.ofNat i)), some (.int (Int32.ofNat k)), some (.int (Int32.ofNat l)), some (.long (se)), none, some (.int (Int32.ofNat (mg_B M)))], [], A48) _
              refine wp_st 1 (f' := (130, [some (.ref (r)), some (.int (Int32.ofNat i)), some (.int (Int32.ofNat k)), some (.int (Int32.ofNat l)), some (.long (se)), none, some (.int (Int32.ofNat (mg_B M)))], [.ref (r)], A48)) rfl ?_
              refine wp_gf rfl rfl h50.rc rfl rfl ?_
              refine wp_st 1 (f' := (135, [some (.ref (r)), some (.int (Int32.ofNat i)), some (.int (Int32.ofNat k)), some (.int (Int32.ofNat l)), some (.long (se)), none, some (.int (Int32.ofNat (mg_B M)))], [.int (Int32.ofNat 125), .ref (t)], A48)) rfl ?_
              by_cases c53 : sb_lk cs n a3 = 125
              · skip
                have c53p : a3 < n := sb_lk_pos (cs := cs) (by omega)
                obtain ⟨A54, g55, h56, f57⟩ := mi_need1 (d := d - 1) (by omega) (by omega) (by omega) c53 h50
                have f58 := f52.trans f57
                refine wp_cv (A' := A54) (v := some (.int (Int32.ofNat 1))) rfl rfl rfl rfl rfl h50.tc (by omega) (g55) rfl ?_
                show am_wp d 56 (138, [some (.ref (r)), some (.int (Int32.ofNat i)), some (.int (Int32.ofNat k)), some (.int (Int32.ofNat l)), some (.long (se)), none, some (.int (Int32.ofNat (mg_B M)))], [.int (Int32.ofNat 1)], A54) _
                refine wp_izT rfl rfl (show (Int32.ofNat 1) ≠ (Int32.ofNat 0) from by decide) ?_
                refine wp_st 1 (f' := (144, [some (.ref (r)), some (.int (Int32.ofNat i)), some (.int (Int32.ofNat k)), some (.int (Int32.ofNat l)), some (.long (se)), none, some (.int (Int32.ofNat (mg_B M)))], [.ref (r)], A54)) rfl ?_
                refine wp_gf rfl rfl h56.rc rfl rfl ?_
                have k59 := rd_sk_le (cs := cs) (n := n) (a := a3 + 1) (by omega)
                obtain ⟨A60, g61, h62, f63⟩ := mi_skip (d := d - 1) (by omega) (by omega) h56
                have f64 := f58.trans f63
                refine wp_cv (A' := A60) (v := none) rfl rfl rfl rfl rfl h56.tc (by omega) (g61) rfl ?_
                show am_wp d 56 (150, [some (.ref (r)), some (.int (Int32.ofNat i)), some (.int (Int32.ofNat k)), some (.int (Int32.ofNat l)), some (.long (se)), none, some (.int (Int32.ofNat (mg_B M)))], [], A60) _
                refine wp_st 1 (f' := (151, [some (.ref (r)), some (.int (Int32.ofNat i)), some (.int (Int32.ofNat k)), some (.int (Int32.ofNat l)), some (.long (se)), none, some (.int (Int32.ofNat (mg_B M)))], [.int (Int32.ofNat 1)], A60)) rfl ?_
                refine wp_rt rfl rfl rfl ?_
                have hres : rd_branch cs n (some f0) i nu a M = .ok (rd_sk cs n (a3 + 1), mg_clb M3 (mg_B M)) := by simp [rd_branch, and_true, not_true_eq_false, hs, c19, h20, hf, c53]
                rw [hres]
                exact mr_Q_ok h62 f64
              · skip
                obtain ⟨A65, g66, h67, f68⟩ := mi_need0 (d := d - 1) (by omega) (by omega) c53 h50
                have f69 := f52.trans f68
                refine wp_cv (A' := A65) (v := some (.int (Int32.ofNat 0))) rfl rfl rfl rfl rfl h50.tc (by omega) (g66) rfl ?_
                show am_wp d 56 (138, [some (.ref (r)), some (.int (Int32.ofNat i)), some (.int (Int32.ofNat k)), some (.int (Int32.ofNat l)), some (.long (se)), none, some (.int (Int32.ofNat (mg_B M)))], [.int (Int32.ofNat 0)], A65) _
                refine wp_izF rfl rfl (show ¬ ((Int32.ofNat 0) ≠ (Int32.ofNat 0)) from by decide) ?_
                refine wp_st 1 (f' := (142, [some (.ref (r)), some (.int (Int32.ofNat i)), some (.int (Int32.ofNat k)), some (.int (Int32.ofNat l)), some (.long (se)), none, some (.int (Int32.ofNat (mg_B M)))], [.int (Int32.ofNat 0)], A65)) rfl ?_
                refine wp_rt rfl rfl rfl ?_
                have hres : rd_branch cs n (some f0) i nu a M = .error (a3) := by simp [rd_branch, and_true, not_true_eq_false, hs, c19, h20, hf, c53]
                rw [hres]
                exact mr_Q_er h67 f69
        · skip
          have c19z : sb_lk cs n (rd_sk cs n a1) = 0 := sb_lk_out c19
          refine wp_cv (A' := A14) (v := some (.int ((-1)))) rfl rfl rfl rfl rfl h16.tc (by omega) (mi_chr0 c19 (by omega) h16) rfl ?_
          show am_wp d 56 (47, [some (.ref (r)), some (.int (Int32.ofNat i)), some (.int (Int32.ofNat k)), some (.int (Int32.ofNat l)), some (.long (se)), none, none], [.int ((-1))], A14) _
          refine wp_st 1 (f' := (49, [some (.ref (r)), some (.int (Int32.ofNat i)), some (.int (Int32.ofNat k)), some (.int (Int32.ofNat l)), some (.long (se)), none, none], [.int (Int32.ofNat 123), .int ((-1))], A14)) rfl ?_
          refine wp_ifT rfl rfl (show (-1 : Int32) ≠ (Int32.ofNat 123) from by decide) ?_
          refine wp_st 1 (f' := (58, [some (.ref (r)), some (.int (Int32.ofNat i)), some (.int (Int32.ofNat k)), some (.int (Int32.ofNat l)), some (.long (se)), none, none], [.ref (r)], A14)) rfl ?_
          refine wp_gf rfl rfl h16.rc rfl rfl ?_
          refine wp_st 1 (f' := (62, [some (.ref (r)), some (.int (Int32.ofNat i)), some (.int (Int32.ofNat k)), some (.int (Int32.ofNat l)), some (.long (se)), none, none], [.ref (r), .ref (t)], A14)) rfl ?_
          refine wp_gf rfl rfl h16.rc rfl rfl ?_
          refine wp_gf rfl rfl h16.tc rfl rfl ?_
          obtain ⟨A70, g71, h72, f73⟩ := mi_refuse (d := d - 1) (x := Int32.ofNat (rd_sk cs n a1)) h16
          have f74 := f18.trans f73
          refine wp_cv (A' := A70) (v := some (.int (Int32.ofNat 0))) rfl rfl rfl rfl rfl h16.tc (by omega) (g71) rfl ?_
          show am_wp d 56 (71, [some (.ref (r)), some (.int (Int32.ofNat i)), some (.int (Int32.ofNat k)), some (.int (Int32.ofNat l)), some (.long (se)), none, none], [.int (Int32.ofNat 0)], A70) _
          refine wp_rt rfl rfl rfl ?_
          have hres : rd_branch cs n (some f0) i nu a M = .error (rd_sk cs n a1) := by simp [rd_branch, and_true, not_true_eq_false, hs, c19, c19z]
          rw [hres]
          exact mr_Q_er h72 f74
    · skip
      rw [i32_eq (by omega) (by omega)] at h1
      refine wp_st 2 (f' := (12, [some (.ref (r)), some (.int (Int32.ofNat i)), some (.int (Int32.ofNat k)), some (.int (Int32.ofNat l)), none, none, none], [.int (Int32.ofNat 1), .ref (r)], A)) rfl ?_
      have hk6 : nu = true := by rw [hnu]; simp [h1]
      rcases hs : rd_sel cs n nu a with e0 | ⟨a1, se⟩
      · skip
        obtain ⟨a79, A75, g76, h77, f78⟩ := ms_Q0 (mi_sel (d := d - 1) (nu := nu) (by omega) (by omega) h) hs
        have f80 := (mr_F.refl A t m).trans f78
        rw [hk6] at g76
        refine wp_cv (A' := A75) (v := some (.long (0))) rfl rfl rfl rfl rfl h.rc (by omega) (g76) rfl ?_
        show am_wp d 56 (15, [some (.ref (r)), some (.int (Int32.ofNat i)), some (.int (Int32.ofNat k)), some (.int (Int32.ofNat l)), none, none, none], [.long (0)], A75) _
        refine wp_st 4 (f' := (21, [some (.ref (r)), some (.int (Int32.ofNat i)), some (.int (Int32.ofNat k)), some (.int (Int32.ofNat l)), some (.long (0)), none, none], [.int (lg_cmp 0 (Int64.ofNat 0))], A75)) rfl ?_
        refine wp_izF rfl rfl (show ¬ (lg_cmp 0 (Int64.ofNat 0) ≠ 0) from by decide) ?_
        refine wp_st 1 (f' := (25, [some (.ref (r)), some (.int (Int32.ofNat i)), some (.int (Int32.ofNat k)), some (.int (Int32.ofNat l)), some (.long (0)), none, none], [.int (Int32.ofNat 0)], A75)) rfl ?_
        refine wp_rt rfl rfl rfl ?_
        have hres : rd_branch cs n (some f0) i nu a M = .error (e0) := by simp [rd_branch, and_true, not_true_eq_false, hs]
        rw [hres]
        exact mr_Q_er h77 f80
      · skip
        have hsl := rd_sel_le (by omega) hs
        have hsz := rd_sel_nz hcs (by omega) hs
        obtain ⟨A81, g82, h83, f84⟩ := ms_Q1 (mi_sel (d := d - 1) (nu := nu) (by omega) (by omega) h) hs
        have f85 := (mr_F.refl A t m).trans f84
        rw [hk6] at g82
        refine wp_cv (A' := A81) (v := some (.long (se))) rfl rfl rfl rfl rfl h.rc (by omega) (g82) rfl ?_
        show am_wp d 56 (15, [some (.ref (r)), some (.int (Int32.ofNat i)), some (.int (Int32.ofNat k)), some (.int (Int32.ofNat l)), none, none, none], [.long (se)], A81) _
        refine wp_st 4 (f' := (21, [some (.ref (r)), some (.int (Int32.ofNat i)), some (.int (Int32.ofNat k)), some (.int (Int32.ofNat l)), some (.long (se)), none, none], [.int (lg_cmp se (Int64.ofNat 0))], A81)) rfl ?_
        refine wp_izT rfl rfl (fun q => hsz ((lg_cmp_eq _ _).mp q)) ?_
        refine wp_st 1 (f' := (27, [some (.ref (r)), some (.int (Int32.ofNat i)), some (.int (Int32.ofNat k)), some (.int (Int32.ofNat l)), some (.long (se)), none, none], [.ref (r)], A81)) rfl ?_
        refine wp_gf rfl rfl h83.rc rfl rfl ?_
        have k86 := rd_sk_le (cs := cs) (n := n) (a := a1) (by omega)
        obtain ⟨A87, g88, h89, f90⟩ := mi_skip (d := d - 1) (by omega) (by omega) h83
        have f91 := f85.trans f90
        refine wp_cv (A' := A87) (v := none) rfl rfl rfl rfl rfl h83.tc (by omega) (g88) rfl ?_
        show am_wp d 56 (33, [some (.ref (r)), some (.int (Int32.ofNat i)), some (.int (Int32.ofNat k)), some (.int (Int32.ofNat l)), some (.long (se)), none, none], [], A87) _
        refine wp_st 1 (f' := (34, [some (.ref (r)), some (.int (Int32.ofNat i)), some (.int (Int32.ofNat k)), some (.int (Int32.ofNat l)), some (.long (se)), none, none], [.ref (r)], A87)) rfl ?_
        refine wp_gf rfl rfl h89.rc rfl rfl ?_
        refine wp_st 1 (f' := (38, [some (.ref (r)), some (.int (Int32.ofNat i)), some (.int (Int32.ofNat k)), some (.int (Int32.ofNat l)), some (.long (se)), none, none], [.ref (r), .ref (t)], A87)) rfl ?_
        refine wp_gf rfl rfl h89.rc rfl rfl ?_
        refine wp_gf rfl rfl h89.tc rfl rfl ?_
        by_cases c92 : rd_sk cs n a1 < n
        · skip
          have c92l := hlk (rd_sk cs n a1)
          refine wp_cv (A' := A87) (v := some (.int (Int32.ofNat (sb_lk cs n (rd_sk cs n a1))))) rfl rfl rfl rfl rfl h89.tc (by omega) (mi_chr1 c92 h89) rfl ?_
          show am_wp d 56 (47, [some (.ref (r)), some (.int (Int32.ofNat i)), some (.int (Int32.ofNat k)), some (.int (Int32.ofNat l)), some (.long (se)), none, none], [.int (Int32.ofNat (sb_lk cs n (rd_sk cs n a1)))], A87) _
          refine wp_st 1 (f' := (49, [some (.ref (r)), some (.int (Int32.ofNat i)), some (.int (Int32.ofNat k)), some (.int (Int32.ofNat l)), some (.long (se)), none, none], [.int (Int32.ofNat 123), .int (Int32.ofNat (sb_lk cs n (rd_sk cs n a1)))], A87)) rfl ?_
          refine wp_if rfl rfl rfl (fun (h93 : (Int32.ofNat (sb_lk cs n (rd_sk cs n a1))) ≠ (Int32.ofNat 123)) => ?_) (fun (h93 : ¬ ((Int32.ofNat (sb_lk cs n (rd_sk cs n a1))) ≠ (Int32.ofNat 123))) => ?_)
          · skip
            rw [ne_eq, i32_eq (by omega) (by omega)] at h93
            refine wp_st 1 (f' := (58, [some (.ref (r)), some (.int (Int32.ofNat i)), some (.int (Int32.ofNat k)), some (.int (Int32.ofNat l)), some (.long (se)), none, none], [.ref (r)], A87)) rfl ?_
            refine wp_gf rfl rfl h89.rc rfl rfl ?_
            refine wp_st 1 (f' := (62, [some (.ref (r)), some (.int (Int32.ofNat i)), some (.int (Int32.ofNat k)), some (.int (Int32.ofNat l)), some (.long (se)), none, none], [.ref (r), .ref (t)], A87)) rfl ?_
            refine wp_gf rfl rfl h89.rc rfl rfl ?_
            refine wp_gf rfl rfl h89.tc rfl rfl ?_
            obtain ⟨A94, g95, h96, f97⟩ := mi_refuse (d := d - 1) (x := Int32.ofNat (rd_sk cs n a1)) h89
            have f98 := f91.trans f97
            refine wp_cv (A' := A94) (v := some (.int (Int32.ofNat 0))) rfl rfl rfl rfl rfl h89.tc (by omega) (g95) rfl ?_
            show am_wp d 56 (71, [some (.ref (r)), some (.int (Int32.ofNat i)), some (.int (Int32.ofNat k)), some (.int (Int32.ofNat l)), some (.long (se)), none, none], [.int (Int32.ofNat 0)], A94) _
            refine wp_rt rfl rfl rfl ?_
            have hres : rd_branch cs n (some f0) i nu a M = .error (rd_sk cs n a1) := by simp [rd_branch, and_true, not_true_eq_false, hs, c92, h93]
            rw [hres]
            exact mr_Q_er h96 f98
          · skip
            rw [ne_eq, i32_eq (by omega) (by omega)] at h93
            replace h93 := Decidable.not_not.mp h93
            refine wp_st 2 (f' := (54, [some (.ref (r)), some (.int (Int32.ofNat i)), some (.int (Int32.ofNat k)), some (.int (Int32.ofNat l)), some (.long (se)), none, none], [.int (Int32.ofNat 3), .int (Int32.ofNat l)], A87)) rfl ?_
            refine wp_ifT rfl rfl ((i32_lt (a := l) (b := 3) (by omega) (by omega)).mpr (by omega)) ?_
            refine wp_st 1 (f' := (73, [some (.ref (r)), some (.int (Int32.ofNat i)), some (.int (Int32.ofNat k)), some (.int (Int32.ofNat l)), some (.long (se)), none, none], [.ref (r)], A87)) rfl ?_
            refine wp_gf rfl rfl h89.rc rfl rfl ?_
            refine wp_st 1 (f' := (77, [some (.ref (r)), some (.int (Int32.ofNat i)), some (.int (Int32.ofNat k)), some (.int (Int32.ofNat l)), some (.long (se)), none, none], [.ref (t), .ref (t)], A87)) rfl ?_
            refine wp_gf rfl rfl h89.tc rfl rfl ?_
            refine wp_st 2 (f' := (82, [some (.ref (r)), some (.int (Int32.ofNat i)), some (.int (Int32.ofNat k)), some (.int (Int32.ofNat l)), some (.long (se)), none, none], [.int ((Int32.ofNat (rd_sk cs n a1)) + (Int32.ofNat 1)), .ref (t)], A87)) rfl ?_
            rw [i32_add (rd_sk cs n a1) (1)]
            obtain ⟨A99, e100⟩ : ∃ B, B = A87.set t (sb_tc t n (rd_sk cs n a1 + 1) ((-1))) := ⟨_, rfl⟩
            have q101 := h89.set (a' := rd_sk cs n a1 + 1) (f' := (-1)) (by omega)
            rw [← e100] at q101
            refine wp_pf (A' := A99) rfl rfl h89.tc rfl rfl (decide_eq_true (by have := h89.ge; omega)) rfl e100.symm ?_
            have h102 := q101.1
            have f103 := f91.trans q101.2
            refine wp_st 1 (f' := (86, [some (.ref (r)), some (.int (Int32.ofNat i)), some (.int (Int32.ofNat k)), some (.int (Int32.ofNat l)), some (.long (se)), none, none], [.ref (r)], A99)) rfl ?_
            refine wp_gf rfl rfl h102.rc rfl rfl ?_
            refine wp_st 2 (f' := (92, [some (.ref (r)), some (.int (Int32.ofNat i)), some (.int (Int32.ofNat k)), some (.int (Int32.ofNat l)), some (.long (se)), none, none], [.long (se), .int (Int32.ofNat i), .ref (m)], A99)) rfl ?_
            obtain ⟨A104, g105, h106, f107⟩ := mi_addb (d := d - 1) (o := i) (s := se) (by omega) (by omega) h102
            have f108 := f103.trans f107
            refine wp_cv (A' := A104) (v := some (.int (Int32.ofNat (mg_B M)))) rfl rfl rfl rfl rfl h102.mc (by omega) (g105) rfl ?_
            show am_wp d 56 (95, [some (.ref (r)), some (.int (Int32.ofNat i)), some (.int (Int32.ofNat k)), some (.int (Int32.ofNat l)), some (.long (se)), none, none], [.int (Int32.ofNat (mg_B M))], A104) _
            refine wp_st 5 (f' := (101, [some (.ref (r)), some (.int (Int32.ofNat i)), some (.int (Int32.ofNat k)), some (.int (Int32.ofNat l)), some (.long (se)), none, some (.int (Int32.ofNat (mg_B M)))], [.int ((Int32.ofNat l) + (Int32.ofNat 1)), .ref (r)], A104)) rfl ?_
            rw [i32_add (l) (1)]
            refine wp_st 2 (f' := (104, [some (.ref (r)), some (.int (Int32.ofNat i)), some (.int (Int32.ofNat k)), some (.int (Int32.ofNat l)), some (.long (se)), none, some (.int (Int32.ofNat (mg_B M)))], [.int (Int32.ofNat 6), .int (Int32.ofNat k), .int (Int32.ofNat (l + 1)), .ref (r)], A104)) rfl ?_
            refine wp_ifF rfl rfl (fun q => absurd ((i32_eq (a := k) (b := 6) (by omega) (by omega)).mp q) (by omega)) ?_
            refine wp_st 2 (f' := (112, [some (.ref (r)), some (.int (Int32.ofNat i)), some (.int (Int32.ofNat k)), some (.int (Int32.ofNat l)), some (.long (se)), none, some (.int (Int32.ofNat (mg_B M)))], [.int (Int32.ofNat 1), .int (Int32.ofNat (l + 1)), .ref (r)], A104)) rfl ?_
            rcases hf : f0 nu (rd_sk cs n a1 + 1) (mg_addb M i se) with e3 | ⟨a3, M3⟩
            · skip
              obtain ⟨a113, M114, A109, g110, h111, f112⟩ := mr_Q0 ((hin.2 f0 rfl).2 (d - 1) _ nu _ _ (by omega) (by omega) (by show mg_P M ≤ _; omega) (by show 3 * (mg_B M + 1) ≤ _; omega) h106) hf
              have f115 := f108.trans f112
              rw [hk6] at g110
              refine wp_cv (A' := A109) (v := some (.int (Int32.ofNat 0))) rfl rfl rfl rfl rfl h106.rc (by omega) (g110) rfl ?_
              show am_wp d 56 (115, [some (.ref (r)), some (.int (Int32.ofNat i)), some (.int (Int32.ofNat k)), some (.int (Int32.ofNat l)), some (.long (se)), none, some (.int (Int32.ofNat (mg_B M)))], [.int (Int32.ofNat 0)], A109) _
              refine wp_izF rfl rfl (show ¬ ((Int32.ofNat 0) ≠ (Int32.ofNat 0)) from by decide) ?_
              refine wp_st 1 (f' := (119, [some (.ref (r)), some (.int (Int32.ofNat i)), some (.int (Int32.ofNat k)), some (.int (Int32.ofNat l)), some (.long (se)), none, some (.int (Int32.ofNat (mg_B M)))], [.int (Int32.ofNat 0)], A109)) rfl ?_
              refine wp_rt rfl rfl rfl ?_
              have hres : rd_branch cs n (some f0) i nu a M = .error (e3) := by simp [rd_branch, and_true, not_true_eq_false, hs, c92, h93, hf]
              rw [hres]
              exact mr_Q_er h111 f115
            · skip
              have hfl := hle f0 rfl _ _ _ _ _ (by omega) hf
              unfold rd_le at hfl
              rw [show mg_B (mg_addb M i se) = mg_B M + 1 from rfl, show mg_P (mg_addb M i se) = mg_P M from rfl] at hfl
              obtain ⟨A116, g117, h118, f119⟩ := mr_Q1 ((hin.2 f0 rfl).2 (d - 1) _ nu _ _ (by omega) (by omega) (by show mg_P M ≤ _; omega) (by show 3 * (mg_B M + 1) ≤ _; omega) h106) hf
              have f120 := f108.trans f119
              rw [hk6] at g117
              refine wp_cv (A' := A116) (v := some (.int (Int32.ofNat 1))) rfl rfl rfl rfl rfl h106.rc (by omega) (g117) rfl ?_
              show am_wp d 56 (115, [some (.ref (r)), some (.int (Int32.ofNat i)), some (.int (Int32.ofNat k)), some (.int (Int32.ofNat l)), some (.long (se)), none, some (.int (Int32.ofNat (mg_B M)))], [.int (Int32.ofNat 1)], A116) _
              refine wp_izT rfl rfl (show (Int32.ofNat 1) ≠ (Int32.ofNat 0) from by decide) ?_
              refine wp_st 1 (f' := (121, [some (.ref (r)), some (.int (Int32.ofNat i)), some (.int (Int32.ofNat k)), some (.int (Int32.ofNat l)), some (.long (se)), none, some (.int (Int32.ofNat (mg_B M)))], [.ref (r)], A116)) rfl ?_
              refine wp_gf rfl rfl h118.rc rfl rfl ?_
              refine wp_st 1 (f' := (126, [some (.ref (r)), some (.int (Int32.ofNat i)), some (.int (Int32.ofNat k)), some (.int (Int32.ofNat l)), some (.long (se)), none, some (.int (Int32.ofNat (mg_B M)))], [.int (Int32.ofNat (mg_B M)), .ref (m)], A116)) rfl ?_
              obtain ⟨A121, g122, h123, f124⟩ := mi_clb (d := d - 1) (j := mg_B M) (by omega) h118
              have f125 := f120.trans f124
              refine wp_cv (A' := A121) (v := none) rfl rfl rfl rfl rfl h118.mc (by omega) (g122) rfl ?_
              show am_wp d 56 (129, [some (.ref (r)), some (.int (Int32.ofNat i)), some (.int (Int32.ofNat k)), some (.int (Int32.ofNat l)), some (.long (se)), none, some (.int (Int32.ofNat (mg_B M)))], [], A121) _
              refine wp_st 1 (f' := (130, [some (.ref (r)), some (.int (Int32.ofNat i)), some (.int (Int32.ofNat k)), some (.int (Int32.ofNat l)), some (.long (se)), none, some (.int (Int32.ofNat (mg_B M)))], [.ref (r)], A121)) rfl ?_
              refine wp_gf rfl rfl h123.rc rfl rfl ?_
              refine wp_st 1 (f' := (135, [some (.ref (r)), some (.int (Int32.ofNat i)), some (.int (Int32.ofNat k)), some (.int (Int32.ofNat l)), some (.long (se)), none, some (.int (Int32.ofNat (mg_B M)))], [.int (Int32.ofNat 125), .ref (t)], A121)) rfl ?_
              by_cases c126 : sb_lk cs n a3 = 125
              · skip
                have c126p : a3 < n := sb_lk_pos (cs := cs) (by omega)
                obtain ⟨A127, g128, h129, f130⟩ := mi_need1 (d := d - 1) (by omega) (by omega) (by omega) c126 h123
                have f131 := f125.trans f130
                refine wp_cv (A' := A127) (v := some (.int (Int32.ofNat 1))) rfl rfl rfl rfl rfl h123.tc (by omega) (g128) rfl ?_
                show am_wp d 56 (138, [some (.ref (r)), some (.int (Int32.ofNat i)), some (.int (Int32.ofNat k)), some (.int (Int32.ofNat l)), some (.long (se)), none, some (.int (Int32.ofNat (mg_B M)))], [.int (Int32.ofNat 1)], A127) _
                refine wp_izT rfl rfl (show (Int32.ofNat 1) ≠ (Int32.ofNat 0) from by decide) ?_
                refine wp_st 1 (f' := (144, [some (.ref (r)), some (.int (Int32.ofNat i)), some (.int (Int32.ofNat k)), some (.int (Int32.ofNat l)), some (.long (se)), none, some (.int (Int32.ofNat (mg_B M)))], [.ref (r)], A127)) rfl ?_
                refine wp_gf rfl rfl h129.rc rfl rfl ?_
                have k132 := rd_sk_le (cs := cs) (n := n) (a := a3 + 1) (by omega)
                obtain ⟨A133, g134, h135, f136⟩ := mi_skip (d := d - 1) (by omega) (by omega) h129
                have f137 := f131.trans f136
                refine wp_cv (A' := A133) (v := none) rfl rfl rfl rfl rfl h129.tc (by omega) (g134) rfl ?_
                show am_wp d 56 (150, [some (.ref (r)), some (.int (Int32.ofNat i)), some (.int (Int32.ofNat k)), some (.int (Int32.ofNat l)), some (.long (se)), none, some (.int (Int32.ofNat (mg_B M)))], [], A133) _
                refine wp_st 1 (f' := (151, [some (.ref (r)), some (.int (Int32.ofNat i)), some (.int (Int32.ofNat k)), some (.int (Int32.ofNat l)), some (.long (se)), none, some (.int (Int32.ofNat (mg_B M)))], [.int (Int32.ofNat 1)], A133)) rfl ?_
                refine wp_rt rfl rfl rfl ?_
                have hres : rd_branch cs n (some f0) i nu a M = .ok (rd_sk cs n (a3 + 1), mg_clb M3 (mg_B M)) := by simp [rd_branch, and_true, not_true_eq_false, hs, c92, h93, hf, c126]
                rw [hres]
                exact mr_Q_ok h135 f137
              · skip
                obtain ⟨A138, g139, h140, f141⟩ := mi_need0 (d := d - 1) (by omega) (by omega) c126 h123
                have f142 := f125.trans f141
                refine wp_cv (A' := A138) (v := some (.int (Int32.ofNat 0))) rfl rfl rfl rfl rfl h123.tc (by omega) (g139) rfl ?_
                show am_wp d 56 (138, [some (.ref (r)), some (.int (Int32.ofNat i)), some (.int (Int32.ofNat k)), some (.int (Int32.ofNat l)), some (.long (se)), none, some (.int (Int32.ofNat (mg_B M)))], [.int (Int32.ofNat 0)], A138) _
                refine wp_izF rfl rfl (show ¬ ((Int32.ofNat 0) ≠ (Int32.ofNat 0)) from by decide) ?_
                refine wp_st 1 (f' := (142, [some (.ref (r)), some (.int (Int32.ofNat i)), some (.int (Int32.ofNat k)), some (.int (Int32.ofNat l)), some (.long (se)), none, some (.int (Int32.ofNat (mg_B M)))], [.int (Int32.ofNat 0)], A138)) rfl ?_
                refine wp_rt rfl rfl rfl ?_
                have hres : rd_branch cs n (some f0) i nu a M = .error (a3) := by simp [rd_branch, and_true, not_true_eq_false, hs, c92, h93, hf, c126]
                rw [hres]
                exact mr_Q_er h140 f142
        · skip
          have c92z : sb_lk cs n (rd_sk cs n a1) = 0 := sb_lk_out c92
          refine wp_cv (A' := A87) (v := some (.int ((-1)))) rfl rfl rfl rfl rfl h89.tc (by omega) (mi_chr0 c92 (by omega) h89) rfl ?_
          show am_wp d 56 (47, [some (.ref (r)), some (.int (Int32.ofNat i)), some (.int (Int32.ofNat k)), some (.int (Int32.ofNat l)), some (.long (se)), none, none], [.int ((-1))], A87) _
          refine wp_st 1 (f' := (49, [some (.ref (r)), some (.int (Int32.ofNat i)), some (.int (Int32.ofNat k)), some (.int (Int32.ofNat l)), some (.long (se)), none, none], [.int (Int32.ofNat 123), .int ((-1))], A87)) rfl ?_
          refine wp_ifT rfl rfl (show (-1 : Int32) ≠ (Int32.ofNat 123) from by decide) ?_
          refine wp_st 1 (f' := (58, [some (.ref (r)), some (.int (Int32.ofNat i)), some (.int (Int32.ofNat k)), some (.int (Int32.ofNat l)), some (.long (se)), none, none], [.ref (r)], A87)) rfl ?_
          refine wp_gf rfl rfl h89.rc rfl rfl ?_
          refine wp_st 1 (f' := (62, [some (.ref (r)), some (.int (Int32.ofNat i)), some (.int (Int32.ofNat k)), some (.int (Int32.ofNat l)), some (.long (se)), none, none], [.ref (r), .ref (t)], A87)) rfl ?_
          refine wp_gf rfl rfl h89.rc rfl rfl ?_
          refine wp_gf rfl rfl h89.tc rfl rfl ?_
          obtain ⟨A143, g144, h145, f146⟩ := mi_refuse (d := d - 1) (x := Int32.ofNat (rd_sk cs n a1)) h89
          have f147 := f91.trans f146
          refine wp_cv (A' := A143) (v := some (.int (Int32.ofNat 0))) rfl rfl rfl rfl rfl h89.tc (by omega) (g144) rfl ?_
          show am_wp d 56 (71, [some (.ref (r)), some (.int (Int32.ofNat i)), some (.int (Int32.ofNat k)), some (.int (Int32.ofNat l)), some (.long (se)), none, none], [.int (Int32.ofNat 0)], A143) _
          refine wp_rt rfl rfl rfl ?_
          have hres : rd_branch cs n (some f0) i nu a M = .error (rd_sk cs n a1) := by simp [rd_branch, and_true, not_true_eq_false, hs, c92, c92z]
          rw [hres]
          exact mr_Q_er h145 f147
theorem mi_brs_l {d D0 l r t m n : Nat} {cs : List Nat} {dbl z : Bool} {inner : Option (Bool → Nat → mg → rd_R)} {i k : Nat} (hd : 5 ≤ d) (hd0 : D0 + 2 ≤ d) (hl : l ≤ 3) (hk : k ≤ 8) (hin : mr_in D0 l r t m cs n dbl z inner) (hle : rd_inn n inner)  : ∀ (f a : Nat) (M : mg) (A : am_H), f ≤ 40 → a ≤ n → mg_P M ≤ a → 3 * mg_B M ≤ a → i < mg_P M → mr_I A r t m cs n a (-1) dbl M z → am_wp d 52 (33, [some (.ref r), some (.int (Int32.ofNat i)), some (.int (Int32.ofNat k)), some (.int (Int32.ofNat l)), some (.int (Int32.ofNat (40 - f)))], [], A) (mr_Q A r t m cs n dbl z (rd_brs cs n inner i k f a M)) := by
  intro f
  induction f with
  | zero =>
    intro a M A hf han hp hb hi h
    have hge := h.ge
    have hlk := h.lk
    have hcs := h.T.2.2.2.2.2.1
    have hPB := h.N.P
    refine wp_st 2 (f' := (37, [some (.ref (r)), some (.int (Int32.ofNat i)), some (.int (Int32.ofNat k)), some (.int (Int32.ofNat l)), some (.int (Int32.ofNat (40 - 0)))], [.int (Int32.ofNat 40), .int (Int32.ofNat (40 - 0))], A)) rfl ?_
    refine wp_ifT rfl rfl ((i32_le (a := 40) (b := 40 - 0) (by omega) (by omega)).mpr (by omega)) ?_
    refine wp_st 1 (f' := (78, [some (.ref (r)), some (.int (Int32.ofNat i)), some (.int (Int32.ofNat k)), some (.int (Int32.ofNat l)), some (.int (Int32.ofNat (40 - 0)))], [.ref (r)], A)) rfl ?_
    refine wp_gf rfl rfl h.rc rfl rfl ?_
    refine wp_st 2 (f' := (85, [some (.ref (r)), some (.int (Int32.ofNat i)), some (.int (Int32.ofNat k)), some (.int (Int32.ofNat l)), some (.int (Int32.ofNat (40 - 0)))], [.long ((478694368626)), .int (Int32.ofNat i), .ref (m)], A)) rfl ?_
    rcases hb9 : mg_bw M i sb_OTH (mg_B M) 0 with _ | j9
    · skip
      refine wp_cv (A' := A) (v := some (.int ((-1)))) rfl rfl rfl rfl rfl h.mc (by omega) (by have q := mn_with (d := d - 1) (o := i) (s := sb_OTH) (by omega) h.N; rw [hb9] at q; exact q) rfl ?_
      show am_wp d 52 (88, [some (.ref (r)), some (.int (Int32.ofNat i)), some (.int (Int32.ofNat k)), some (.int (Int32.ofNat l)), some (.int (Int32.ofNat (40 - 0)))], [.int ((-1))], A) _
      refine wp_st 1 (f' := (89, [some (.ref (r)), some (.int (Int32.ofNat i)), some (.int (Int32.ofNat k)), some (.int (Int32.ofNat l)), some (.int (Int32.ofNat (40 - 0)))], [.int ((-1)), .int ((-1))], A)) rfl ?_
      refine wp_ifF rfl rfl (fun q => q rfl) ?_
      refine wp_st 1 (f' := (93, [some (.ref (r)), some (.int (Int32.ofNat i)), some (.int (Int32.ofNat k)), some (.int (Int32.ofNat l)), some (.int (Int32.ofNat (40 - 0)))], [.ref (r)], A)) rfl ?_
      refine wp_gf rfl rfl h.rc rfl rfl ?_
      refine wp_st 1 (f' := (97, [some (.ref (r)), some (.int (Int32.ofNat i)), some (.int (Int32.ofNat k)), some (.int (Int32.ofNat l)), some (.int (Int32.ofNat (40 - 0)))], [.ref (r), .ref (t)], A)) rfl ?_
      refine wp_gf rfl rfl h.rc rfl rfl ?_
      refine wp_gf rfl rfl h.tc rfl rfl ?_
      obtain ⟨A1, g2, h3, f4⟩ := mi_refuse (d := d - 1) (x := Int32.ofNat a) h
      have f5 := (mr_F.refl A t m).trans f4
      refine wp_cv (A' := A1) (v := some (.int (Int32.ofNat 0))) rfl rfl rfl rfl rfl h.tc (by omega) (g2) rfl ?_
      show am_wp d 52 (106, [some (.ref (r)), some (.int (Int32.ofNat i)), some (.int (Int32.ofNat k)), some (.int (Int32.ofNat l)), some (.int (Int32.ofNat (40 - 0)))], [.int (Int32.ofNat 0)], A1) _
      refine wp_rt rfl rfl rfl ?_
      have hres : rd_brs cs n inner i k 0 a M = .error (a) := by first | (exfalso; omega) | simp [rd_brs, rd_fin, hb9]
      rw [hres]
      exact mr_Q_er h3 f5
    · skip
      have hb9l := mg_bw_lt hb9
      refine wp_cv (A' := A) (v := some (.int (Int32.ofNat j9))) rfl rfl rfl rfl rfl h.mc (by omega) (by have q := mn_with (d := d - 1) (o := i) (s := sb_OTH) (by omega) h.N; rw [hb9] at q; exact q) rfl ?_
      show am_wp d 52 (88, [some (.ref (r)), some (.int (Int32.ofNat i)), some (.int (Int32.ofNat k)), some (.int (Int32.ofNat l)), some (.int (Int32.ofNat (40 - 0)))], [.int (Int32.ofNat j9)], A) _
      refine wp_st 1 (f' := (89, [some (.ref (r)), some (.int (Int32.ofNat i)), some (.int (Int32.ofNat k)), some (.int (Int32.ofNat l)), some (.int (Int32.ofNat (40 - 0)))], [.int ((-1)), .int (Int32.ofNat j9)], A)) rfl ?_
      refine wp_ifT rfl rfl (i32_neg1 (by omega)) ?_
      refine wp_st 1 (f' := (108, [some (.ref (r)), some (.int (Int32.ofNat i)), some (.int (Int32.ofNat k)), some (.int (Int32.ofNat l)), some (.int (Int32.ofNat (40 - 0)))], [.ref (r)], A)) rfl ?_
      refine wp_gf rfl rfl h.rc rfl rfl ?_
      refine wp_st 1 (f' := (112, [some (.ref (r)), some (.int (Int32.ofNat i)), some (.int (Int32.ofNat k)), some (.int (Int32.ofNat l)), some (.int (Int32.ofNat (40 - 0)))], [.int (Int32.ofNat i), .ref (m)], A)) rfl ?_
      obtain ⟨A6, g7, h8, f9⟩ := mi_cla (d := d - 1) (i := i) (by omega) (by omega) h
      have f10 := (mr_F.refl A t m).trans f9
      refine wp_cv (A' := A6) (v := none) rfl rfl rfl rfl rfl h.mc (by omega) (g7) rfl ?_
      show am_wp d 52 (115, [some (.ref (r)), some (.int (Int32.ofNat i)), some (.int (Int32.ofNat k)), some (.int (Int32.ofNat l)), some (.int (Int32.ofNat (40 - 0)))], [], A6) _
      refine wp_st 1 (f' := (116, [some (.ref (r)), some (.int (Int32.ofNat i)), some (.int (Int32.ofNat k)), some (.int (Int32.ofNat l)), some (.int (Int32.ofNat (40 - 0)))], [.ref (r)], A6)) rfl ?_
      refine wp_gf rfl rfl h8.rc rfl rfl ?_
      refine wp_st 1 (f' := (121, [some (.ref (r)), some (.int (Int32.ofNat i)), some (.int (Int32.ofNat k)), some (.int (Int32.ofNat l)), some (.int (Int32.ofNat (40 - 0)))], [.int (Int32.ofNat 125), .ref (t)], A6)) rfl ?_
      by_cases c11 : sb_lk cs n a = 125
      · skip
        have c11p : a < n := sb_lk_pos (cs := cs) (by omega)
        obtain ⟨A12, g13, h14, f15⟩ := mi_need1 (d := d - 1) (by omega) (by omega) (by omega) c11 h8
        have f16 := f10.trans f15
        refine wp_cv (A' := A12) (v := some (.int (Int32.ofNat 1))) rfl rfl rfl rfl rfl h8.tc (by omega) (g13) rfl ?_
        show am_wp d 52 (124, [some (.ref (r)), some (.int (Int32.ofNat i)), some (.int (Int32.ofNat k)), some (.int (Int32.ofNat l)), some (.int (Int32.ofNat (40 - 0)))], [.int (Int32.ofNat 1)], A12) _
        refine wp_rt rfl rfl rfl ?_
        have hres : rd_brs cs n inner i k 0 a M = .ok (a + 1, mg_cla M i) := by first | (exfalso; omega) | simp [rd_brs, rd_fin, hb9, c11]
        rw [hres]
        exact mr_Q_ok h14 f16
      · skip
        obtain ⟨A17, g18, h19, f20⟩ := mi_need0 (d := d - 1) (by omega) (by omega) c11 h8
        have f21 := f10.trans f20
        refine wp_cv (A' := A17) (v := some (.int (Int32.ofNat 0))) rfl rfl rfl rfl rfl h8.tc (by omega) (g18) rfl ?_
        show am_wp d 52 (124, [some (.ref (r)), some (.int (Int32.ofNat i)), some (.int (Int32.ofNat k)), some (.int (Int32.ofNat l)), some (.int (Int32.ofNat (40 - 0)))], [.int (Int32.ofNat 0)], A17) _
        refine wp_rt rfl rfl rfl ?_
        have hres : rd_brs cs n inner i k 0 a M = .error (a) := by first | (exfalso; omega) | simp [rd_brs, rd_fin, hb9, c11]
        rw [hres]
        exact mr_Q_er h19 f21
  | succ f ih =>
    intro a M A hf han hp hb hi h
    have hge := h.ge
    have hlk := h.lk
    have hcs := h.T.2.2.2.2.2.1
    have hPB := h.N.P
    refine wp_st 2 (f' := (37, [some (.ref (r)), some (.int (Int32.ofNat i)), some (.int (Int32.ofNat k)), some (.int (Int32.ofNat l)), some (.int (Int32.ofNat (40 - (f + 1))))], [.int (Int32.ofNat 40), .int (Int32.ofNat (40 - (f + 1)))], A)) rfl ?_
    refine wp_ifF rfl rfl (fun q => absurd ((i32_le (a := 40) (b := 40 - (f + 1)) (by omega) (by omega)).mp q) (by omega)) ?_
    refine wp_st 1 (f' := (41, [some (.ref (r)), some (.int (Int32.ofNat i)), some (.int (Int32.ofNat k)), some (.int (Int32.ofNat l)), some (.int (Int32.ofNat (40 - (f + 1))))], [.ref (r)], A)) rfl ?_
    refine wp_gf rfl rfl h.rc rfl rfl ?_
    refine wp_st 1 (f' := (45, [some (.ref (r)), some (.int (Int32.ofNat i)), some (.int (Int32.ofNat k)), some (.int (Int32.ofNat l)), some (.int (Int32.ofNat (40 - (f + 1))))], [.ref (r), .ref (t)], A)) rfl ?_
    refine wp_gf rfl rfl h.rc rfl rfl ?_
    refine wp_gf rfl rfl h.tc rfl rfl ?_
    by_cases c1 : a < n
    · skip
      have c1l := hlk (a)
      refine wp_cv (A' := A) (v := some (.int (Int32.ofNat (sb_lk cs n a)))) rfl rfl rfl rfl rfl h.tc (by omega) (mi_chr1 c1 h) rfl ?_
      show am_wp d 52 (54, [some (.ref (r)), some (.int (Int32.ofNat i)), some (.int (Int32.ofNat k)), some (.int (Int32.ofNat l)), some (.int (Int32.ofNat (40 - (f + 1))))], [.int (Int32.ofNat (sb_lk cs n a))], A) _
      refine wp_st 1 (f' := (56, [some (.ref (r)), some (.int (Int32.ofNat i)), some (.int (Int32.ofNat k)), some (.int (Int32.ofNat l)), some (.int (Int32.ofNat (40 - (f + 1))))], [.int (Int32.ofNat 125), .int (Int32.ofNat (sb_lk cs n a))], A)) rfl ?_
      refine wp_if rfl rfl rfl (fun (h2 : (Int32.ofNat (sb_lk cs n a)) = (Int32.ofNat 125)) => ?_) (fun (h2 : ¬ ((Int32.ofNat (sb_lk cs n a)) = (Int32.ofNat 125))) => ?_)
      · skip
        rw [i32_eq (by omega) (by omega)] at h2
        refine wp_st 1 (f' := (78, [some (.ref (r)), some (.int (Int32.ofNat i)), some (.int (Int32.ofNat k)), some (.int (Int32.ofNat l)), some (.int (Int32.ofNat (40 - (f + 1))))], [.ref (r)], A)) rfl ?_
        refine wp_gf rfl rfl h.rc rfl rfl ?_
        refine wp_st 2 (f' := (85, [some (.ref (r)), some (.int (Int32.ofNat i)), some (.int (Int32.ofNat k)), some (.int (Int32.ofNat l)), some (.int (Int32.ofNat (40 - (f + 1))))], [.long ((478694368626)), .int (Int32.ofNat i), .ref (m)], A)) rfl ?_
        rcases hb9 : mg_bw M i sb_OTH (mg_B M) 0 with _ | j9
        · skip
          refine wp_cv (A' := A) (v := some (.int ((-1)))) rfl rfl rfl rfl rfl h.mc (by omega) (by have q := mn_with (d := d - 1) (o := i) (s := sb_OTH) (by omega) h.N; rw [hb9] at q; exact q) rfl ?_
          show am_wp d 52 (88, [some (.ref (r)), some (.int (Int32.ofNat i)), some (.int (Int32.ofNat k)), some (.int (Int32.ofNat l)), some (.int (Int32.ofNat (40 - (f + 1))))], [.int ((-1))], A) _
          refine wp_st 1 (f' := (89, [some (.ref (r)), some (.int (Int32.ofNat i)), some (.int (Int32.ofNat k)), some (.int (Int32.ofNat l)), some (.int (Int32.ofNat (40 - (f + 1))))], [.int ((-1)), .int ((-1))], A)) rfl ?_
          refine wp_ifF rfl rfl (fun q => q rfl) ?_
          refine wp_st 1 (f' := (93, [some (.ref (r)), some (.int (Int32.ofNat i)), some (.int (Int32.ofNat k)), some (.int (Int32.ofNat l)), some (.int (Int32.ofNat (40 - (f + 1))))], [.ref (r)], A)) rfl ?_
          refine wp_gf rfl rfl h.rc rfl rfl ?_
          refine wp_st 1 (f' := (97, [some (.ref (r)), some (.int (Int32.ofNat i)), some (.int (Int32.ofNat k)), some (.int (Int32.ofNat l)), some (.int (Int32.ofNat (40 - (f + 1))))], [.ref (r), .ref (t)], A)) rfl ?_
          refine wp_gf rfl rfl h.rc rfl rfl ?_
          refine wp_gf rfl rfl h.tc rfl rfl ?_
          obtain ⟨A3, g4, h5, f6⟩ := mi_refuse (d := d - 1) (x := Int32.ofNat a) h
          have f7 := (mr_F.refl A t m).trans f6
          refine wp_cv (A' := A3) (v := some (.int (Int32.ofNat 0))) rfl rfl rfl rfl rfl h.tc (by omega) (g4) rfl ?_
          show am_wp d 52 (106, [some (.ref (r)), some (.int (Int32.ofNat i)), some (.int (Int32.ofNat k)), some (.int (Int32.ofNat l)), some (.int (Int32.ofNat (40 - (f + 1))))], [.int (Int32.ofNat 0)], A3) _
          refine wp_rt rfl rfl rfl ?_
          have hres : rd_brs cs n inner i k (f + 1) a M = .error (a) := by first | (exfalso; omega) | simp [rd_brs, rd_fin, c1, h2, hb9]
          rw [hres]
          exact mr_Q_er h5 f7
        · skip
          have hb9l := mg_bw_lt hb9
          refine wp_cv (A' := A) (v := some (.int (Int32.ofNat j9))) rfl rfl rfl rfl rfl h.mc (by omega) (by have q := mn_with (d := d - 1) (o := i) (s := sb_OTH) (by omega) h.N; rw [hb9] at q; exact q) rfl ?_
          show am_wp d 52 (88, [some (.ref (r)), some (.int (Int32.ofNat i)), some (.int (Int32.ofNat k)), some (.int (Int32.ofNat l)), some (.int (Int32.ofNat (40 - (f + 1))))], [.int (Int32.ofNat j9)], A) _
          refine wp_st 1 (f' := (89, [some (.ref (r)), some (.int (Int32.ofNat i)), some (.int (Int32.ofNat k)), some (.int (Int32.ofNat l)), some (.int (Int32.ofNat (40 - (f + 1))))], [.int ((-1)), .int (Int32.ofNat j9)], A)) rfl ?_
          refine wp_ifT rfl rfl (i32_neg1 (by omega)) ?_
          refine wp_st 1 (f' := (108, [some (.ref (r)), some (.int (Int32.ofNat i)), some (.int (Int32.ofNat k)), some (.int (Int32.ofNat l)), some (.int (Int32.ofNat (40 - (f + 1))))], [.ref (r)], A)) rfl ?_
          refine wp_gf rfl rfl h.rc rfl rfl ?_
          refine wp_st 1 (f' := (112, [some (.ref (r)), some (.int (Int32.ofNat i)), some (.int (Int32.ofNat k)), some (.int (Int32.ofNat l)), some (.int (Int32.ofNat (40 - (f + 1))))], [.int (Int32.ofNat i), .ref (m)], A)) rfl ?_
          obtain ⟨A8, g9, h10, f11⟩ := mi_cla (d := d - 1) (i := i) (by omega) (by omega) h
          have f12 := (mr_F.refl A t m).trans f11
          refine wp_cv (A' := A8) (v := none) rfl rfl rfl rfl rfl h.mc (by omega) (g9) rfl ?_
          show am_wp d 52 (115, [some (.ref (r)), some (.int (Int32.ofNat i)), some (.int (Int32.ofNat k)), some (.int (Int32.ofNat l)), some (.int (Int32.ofNat (40 - (f + 1))))], [], A8) _
          refine wp_st 1 (f' := (116, [some (.ref (r)), some (.int (Int32.ofNat i)), some (.int (Int32.ofNat k)), some (.int (Int32.ofNat l)), some (.int (Int32.ofNat (40 - (f + 1))))], [.ref (r)], A8)) rfl ?_
          refine wp_gf rfl rfl h10.rc rfl rfl ?_
          refine wp_st 1 (f' := (121, [some (.ref (r)), some (.int (Int32.ofNat i)), some (.int (Int32.ofNat k)), some (.int (Int32.ofNat l)), some (.int (Int32.ofNat (40 - (f + 1))))], [.int (Int32.ofNat 125), .ref (t)], A8)) rfl ?_
          by_cases c13 : sb_lk cs n a = 125
          · skip
            have c13p : a < n := sb_lk_pos (cs := cs) (by omega)
            obtain ⟨A14, g15, h16, f17⟩ := mi_need1 (d := d - 1) (by omega) (by omega) (by omega) c13 h10
            have f18 := f12.trans f17
            refine wp_cv (A' := A14) (v := some (.int (Int32.ofNat 1))) rfl rfl rfl rfl rfl h10.tc (by omega) (g15) rfl ?_
            show am_wp d 52 (124, [some (.ref (r)), some (.int (Int32.ofNat i)), some (.int (Int32.ofNat k)), some (.int (Int32.ofNat l)), some (.int (Int32.ofNat (40 - (f + 1))))], [.int (Int32.ofNat 1)], A14) _
            refine wp_rt rfl rfl rfl ?_
            have hres : rd_brs cs n inner i k (f + 1) a M = .ok (a + 1, mg_cla M i) := by first | (exfalso; omega) | simp [rd_brs, rd_fin, c1, h2, hb9, c13]
            rw [hres]
            exact mr_Q_ok h16 f18
          · skip
            obtain ⟨A19, g20, h21, f22⟩ := mi_need0 (d := d - 1) (by omega) (by omega) c13 h10
            have f23 := f12.trans f22
            refine wp_cv (A' := A19) (v := some (.int (Int32.ofNat 0))) rfl rfl rfl rfl rfl h10.tc (by omega) (g20) rfl ?_
            show am_wp d 52 (124, [some (.ref (r)), some (.int (Int32.ofNat i)), some (.int (Int32.ofNat k)), some (.int (Int32.ofNat l)), some (.int (Int32.ofNat (40 - (f + 1))))], [.int (Int32.ofNat 0)], A19) _
            refine wp_rt rfl rfl rfl ?_
            have hres : rd_brs cs n inner i k (f + 1) a M = .error (a) := by first | (exfalso; omega) | simp [rd_brs, rd_fin, c1, h2, hb9, c13]
            rw [hres]
            exact mr_Q_er h21 f23
      · skip
        rw [i32_eq (by omega) (by omega)] at h2
        refine wp_st 4 (f' := (63, [some (.ref (r)), some (.int (Int32.ofNat i)), some (.int (Int32.ofNat k)), some (.int (Int32.ofNat l)), some (.int (Int32.ofNat (40 - (f + 1))))], [.int (Int32.ofNat l), .int (Int32.ofNat k), .int (Int32.ofNat i), .ref (r)], A)) rfl ?_
        rcases hbr : rd_branch cs n inner i (decide (k ≠ 6)) a M with e5 | ⟨a5, M5⟩
        · skip
          obtain ⟨a28, M29, A24, g25, h26, f27⟩ := mr_Q0 (mi_branch (d := d - 1) (D0 := D0) (i := i) (k := k) (l := l) (by omega) (by omega) (by omega) (by omega) (by omega) (by omega) (by omega) (by omega) (nu := decide (k ≠ 6)) rfl hin hle h) hbr
          have f30 := (mr_F.refl A t m).trans f27
          refine wp_cv (A' := A24) (v := some (.int (Int32.ofNat 0))) rfl rfl rfl rfl rfl h.rc (by omega) (g25) rfl ?_
          show am_wp d 52 (66, [some (.ref (r)), some (.int (Int32.ofNat i)), some (.int (Int32.ofNat k)), some (.int (Int32.ofNat l)), some (.int (Int32.ofNat (40 - (f + 1))))], [.int (Int32.ofNat 0)], A24) _
          refine wp_izF rfl rfl (show ¬ ((Int32.ofNat 0) ≠ (Int32.ofNat 0)) from by decide) ?_
          refine wp_st 1 (f' := (70, [some (.ref (r)), some (.int (Int32.ofNat i)), some (.int (Int32.ofNat k)), some (.int (Int32.ofNat l)), some (.int (Int32.ofNat (40 - (f + 1))))], [.int (Int32.ofNat 0)], A24)) rfl ?_
          refine wp_rt rfl rfl rfl ?_
          have hres : rd_brs cs n inner i k (f + 1) a M = .error (e5) := by rw [rd_brs]; simp only [show ¬ sb_lk cs n a = 125 by omega, hbr, ↓reduceIte]
          rw [hres]
          exact mr_Q_er h26 f30
        · skip
          have hbl := rd_branch_le hle (by omega) hbr
          unfold rd_le at hbl
          obtain ⟨A31, g32, h33, f34⟩ := mr_Q1 (mi_branch (d := d - 1) (D0 := D0) (i := i) (k := k) (l := l) (by omega) (by omega) (by omega) (by omega) (by omega) (by omega) (by omega) (by omega) (nu := decide (k ≠ 6)) rfl hin hle h) hbr
          have f35 := (mr_F.refl A t m).trans f34
          refine wp_cv (A' := A31) (v := some (.int (Int32.ofNat 1))) rfl rfl rfl rfl rfl h.rc (by omega) (g32) rfl ?_
          show am_wp d 52 (66, [some (.ref (r)), some (.int (Int32.ofNat i)), some (.int (Int32.ofNat k)), some (.int (Int32.ofNat l)), some (.int (Int32.ofNat (40 - (f + 1))))], [.int (Int32.ofNat 1)], A31) _
          refine wp_izT rfl rfl (show (Int32.ofNat 1) ≠ (Int32.ofNat 0) from by decide) ?_
          refine wp_st 1 (f' := (74, [some (.ref (r)), some (.int (Int32.ofNat i)), some (.int (Int32.ofNat k)), some (.int (Int32.ofNat l)), some (.int ((Int32.ofNat (40 - (f + 1))) + (Int32.ofNat 1)))], [], A31)) rfl ?_
          rw [i32_add (40 - (f + 1)) (1)]
          refine wp_st 1 (f' := (33, [some (.ref (r)), some (.int (Int32.ofNat i)), some (.int (Int32.ofNat k)), some (.int (Int32.ofNat l)), some (.int (Int32.ofNat (40 - (f + 1) + 1)))], [], A31)) rfl ?_
          have hres : rd_brs cs n inner i k (f + 1) a M = rd_brs cs n inner i k f a5 M5 := by rw [rd_brs]; simp only [show ¬ sb_lk cs n a = 125 by omega, hbr, ↓reduceIte]
          rw [hres, show 40 - (f + 1) + 1 = 40 - f by omega]
          obtain ⟨q, q1, q2⟩ := ih (a5) (M5) _ (by omega) (by omega) (by omega) (by omega) (by omega) h33
          exact ⟨q, q1, q2.tr f35⟩
    · skip
      have c1z : sb_lk cs n (a) = 0 := sb_lk_out c1
      refine wp_cv (A' := A) (v := some (.int ((-1)))) rfl rfl rfl rfl rfl h.tc (by omega) (mi_chr0 c1 (by omega) h) rfl ?_
      show am_wp d 52 (54, [some (.ref (r)), some (.int (Int32.ofNat i)), some (.int (Int32.ofNat k)), some (.int (Int32.ofNat l)), some (.int (Int32.ofNat (40 - (f + 1))))], [.int ((-1))], A) _
      refine wp_st 1 (f' := (56, [some (.ref (r)), some (.int (Int32.ofNat i)), some (.int (Int32.ofNat k)), some (.int (Int32.ofNat l)), some (.int (Int32.ofNat (40 - (f + 1))))], [.int (Int32.ofNat 125), .int ((-1))], A)) rfl ?_
      refine wp_ifF rfl rfl (show ¬ ((-1 : Int32) = (Int32.ofNat 125)) from by decide) ?_
      refine wp_st 4 (f' := (63, [some (.ref (r)), some (.int (Int32.ofNat i)), some (.int (Int32.ofNat k)), some (.int (Int32.ofNat l)), some (.int (Int32.ofNat (40 - (f + 1))))], [.int (Int32.ofNat l), .int (Int32.ofNat k), .int (Int32.ofNat i), .ref (r)], A)) rfl ?_
      rcases hbr : rd_branch cs n inner i (decide (k ≠ 6)) a M with e5 | ⟨a5, M5⟩
      · skip
        obtain ⟨a40, M41, A36, g37, h38, f39⟩ := mr_Q0 (mi_branch (d := d - 1) (D0 := D0) (i := i) (k := k) (l := l) (by omega) (by omega) (by omega) (by omega) (by omega) (by omega) (by omega) (by omega) (nu := decide (k ≠ 6)) rfl hin hle h) hbr
        have f42 := (mr_F.refl A t m).trans f39
        refine wp_cv (A' := A36) (v := some (.int (Int32.ofNat 0))) rfl rfl rfl rfl rfl h.rc (by omega) (g37) rfl ?_
        show am_wp d 52 (66, [some (.ref (r)), some (.int (Int32.ofNat i)), some (.int (Int32.ofNat k)), some (.int (Int32.ofNat l)), some (.int (Int32.ofNat (40 - (f + 1))))], [.int (Int32.ofNat 0)], A36) _
        refine wp_izF rfl rfl (show ¬ ((Int32.ofNat 0) ≠ (Int32.ofNat 0)) from by decide) ?_
        refine wp_st 1 (f' := (70, [some (.ref (r)), some (.int (Int32.ofNat i)), some (.int (Int32.ofNat k)), some (.int (Int32.ofNat l)), some (.int (Int32.ofNat (40 - (f + 1))))], [.int (Int32.ofNat 0)], A36)) rfl ?_
        refine wp_rt rfl rfl rfl ?_
        have hres : rd_brs cs n inner i k (f + 1) a M = .error (e5) := by rw [rd_brs]; simp only [show ¬ sb_lk cs n a = 125 by omega, hbr, ↓reduceIte]
        rw [hres]
        exact mr_Q_er h38 f42
      · skip
        have hbl := rd_branch_le hle (by omega) hbr
        unfold rd_le at hbl
        obtain ⟨A43, g44, h45, f46⟩ := mr_Q1 (mi_branch (d := d - 1) (D0 := D0) (i := i) (k := k) (l := l) (by omega) (by omega) (by omega) (by omega) (by omega) (by omega) (by omega) (by omega) (nu := decide (k ≠ 6)) rfl hin hle h) hbr
        have f47 := (mr_F.refl A t m).trans f46
        refine wp_cv (A' := A43) (v := some (.int (Int32.ofNat 1))) rfl rfl rfl rfl rfl h.rc (by omega) (g44) rfl ?_
        show am_wp d 52 (66, [some (.ref (r)), some (.int (Int32.ofNat i)), some (.int (Int32.ofNat k)), some (.int (Int32.ofNat l)), some (.int (Int32.ofNat (40 - (f + 1))))], [.int (Int32.ofNat 1)], A43) _
        refine wp_izT rfl rfl (show (Int32.ofNat 1) ≠ (Int32.ofNat 0) from by decide) ?_
        refine wp_st 1 (f' := (74, [some (.ref (r)), some (.int (Int32.ofNat i)), some (.int (Int32.ofNat k)), some (.int (Int32.ofNat l)), some (.int ((Int32.ofNat (40 - (f + 1))) + (Int32.ofNat 1)))], [], A43)) rfl ?_
        rw [i32_add (40 - (f + 1)) (1)]
        refine wp_st 1 (f' := (33, [some (.ref (r)), some (.int (Int32.ofNat i)), some (.int (Int32.ofNat k)), some (.int (Int32.ofNat l)), some (.int (Int32.ofNat (40 - (f + 1) + 1)))], [], A43)) rfl ?_
        have hres : rd_brs cs n inner i k (f + 1) a M = rd_brs cs n inner i k f a5 M5 := by rw [rd_brs]; simp only [show ¬ sb_lk cs n a = 125 by omega, hbr, ↓reduceIte]
        rw [hres, show 40 - (f + 1) + 1 = 40 - f by omega]
        obtain ⟨q, q1, q2⟩ := ih (a5) (M5) _ (by omega) (by omega) (by omega) (by omega) (by omega) h45
        exact ⟨q, q1, q2.tr f47⟩
theorem mi_rest {d D0 l r t m n : Nat} {cs : List Nat} {dbl z : Bool} {inner : Option (Bool → Nat → mg → rd_R)} {i k a : Nat} {M : mg} {A : am_H} (hd : 6 ≤ d) (hd0 : D0 + 2 ≤ d) (hl : l ≤ 3) (hk : k ≤ 8) (han : a ≤ n) (hp : mg_P M ≤ a) (hb : 3 * mg_B M ≤ a) (hi : i < mg_P M) (hin : mr_in D0 l r t m cs n dbl z inner) (hle : rd_inn n inner) (h : mr_I A r t m cs n a (-1) dbl M z)  : am_wp d 52 (0, am_ent 52 [.ref r, .int (Int32.ofNat i), .int (Int32.ofNat k), .int (Int32.ofNat l)], [], A) (mr_Q A r t m cs n dbl z (rd_rest cs n inner i k a M)) := by
  have hge := h.ge
  have hlk := h.lk
  have hcs := h.T.2.2.2.2.2.1
  have hPB := h.N.P
  refine wp_st 1 (f' := (1, [some (.ref (r)), some (.int (Int32.ofNat i)), some (.int (Int32.ofNat k)), some (.int (Int32.ofNat l)), none], [.ref (r)], A)) rfl ?_
  refine wp_gf rfl rfl h.rc rfl rfl ?_
  have k1 := rd_sk_le (cs := cs) (n := n) (a := a) (by omega)
  obtain ⟨A2, g3, h4, f5⟩ := mi_skip (d := d - 1) (by omega) (by omega) h
  have f6 := (mr_F.refl A t m).trans f5
  refine wp_cv (A' := A2) (v := none) rfl rfl rfl rfl rfl h.tc (by omega) (g3) rfl ?_
  show am_wp d 52 (7, [some (.ref (r)), some (.int (Int32.ofNat i)), some (.int (Int32.ofNat k)), some (.int (Int32.ofNat l)), none], [], A2) _
  refine wp_st 2 (f' := (10, [some (.ref (r)), some (.int (Int32.ofNat i)), some (.int (Int32.ofNat k)), some (.int (Int32.ofNat l)), none], [.int (Int32.ofNat 6), .int (Int32.ofNat k)], A2)) rfl ?_
  refine wp_if rfl rfl rfl (fun (h7 : (Int32.ofNat k) = (Int32.ofNat 6)) => ?_) (fun (h7 : ¬ ((Int32.ofNat k) = (Int32.ofNat 6))) => ?_)
  · skip
    rw [i32_eq (by omega) (by omega)] at h7
    refine wp_st 1 (f' := (24, [some (.ref (r)), some (.int (Int32.ofNat i)), some (.int (Int32.ofNat k)), some (.int (Int32.ofNat l)), none], [.ref (r)], A2)) rfl ?_
    refine wp_gf rfl rfl h4.rc rfl rfl ?_
    have k8 := rd_sk_le (cs := cs) (n := n) (a := rd_sk cs n a) (by omega)
    obtain ⟨A9, g10, h11, f12⟩ := mi_skip (d := d - 1) (by omega) (by omega) h4
    have f13 := f6.trans f12
    refine wp_cv (A' := A9) (v := none) rfl rfl rfl rfl rfl h4.tc (by omega) (g10) rfl ?_
    show am_wp d 52 (30, [some (.ref (r)), some (.int (Int32.ofNat i)), some (.int (Int32.ofNat k)), some (.int (Int32.ofNat l)), none], [], A9) _
    refine wp_st 2 (f' := (33, [some (.ref (r)), some (.int (Int32.ofNat i)), some (.int (Int32.ofNat k)), some (.int (Int32.ofNat l)), some (.int (Int32.ofNat 0))], [], A9)) rfl ?_
    have hres : rd_rest cs n inner i k a M = rd_brs cs n inner i k 40 (rd_sk cs n (rd_sk cs n a)) M := by simp [rd_rest, h7]
    rw [hres]
    obtain ⟨q, q1, q2⟩ := mi_brs_l (i := i) (k := k) (l := l) (by omega) hd0 hl hk hin hle 40 (rd_sk cs n (rd_sk cs n a)) (M) _ (by omega) (by omega) (by omega) (by omega) (by omega) h11
    exact ⟨q, q1, q2.tr f13⟩
  · skip
    rw [i32_eq (by omega) (by omega)] at h7
    refine wp_st 2 (f' := (15, [some (.ref (r)), some (.int (Int32.ofNat i)), some (.int (Int32.ofNat k)), some (.int (Int32.ofNat l)), none], [.int (Int32.ofNat i), .ref (r)], A2)) rfl ?_
    rcases ho : rd_off cs n i (rd_sk cs n a) M with e6 | ⟨a6, M6⟩
    · skip
      obtain ⟨a18, M19, A14, g15, h16, f17⟩ := mr_Q0 (mi_off (d := d - 1) (i := i) (by omega) (by omega) (by omega) (by omega) h4) ho
      have f20 := f6.trans f17
      refine wp_cv (A' := A14) (v := some (.int (Int32.ofNat 0))) rfl rfl rfl rfl rfl h4.rc (by omega) (g15) rfl ?_
      show am_wp d 52 (18, [some (.ref (r)), some (.int (Int32.ofNat i)), some (.int (Int32.ofNat k)), some (.int (Int32.ofNat l)), none], [.int (Int32.ofNat 0)], A14) _
      refine wp_izF rfl rfl (show ¬ ((Int32.ofNat 0) ≠ (Int32.ofNat 0)) from by decide) ?_
      refine wp_st 1 (f' := (22, [some (.ref (r)), some (.int (Int32.ofNat i)), some (.int (Int32.ofNat k)), some (.int (Int32.ofNat l)), none], [.int (Int32.ofNat 0)], A14)) rfl ?_
      refine wp_rt rfl rfl rfl ?_
      have hres : rd_rest cs n inner i k a M = .error (e6) := by simp [rd_rest, h7, ho]
      rw [hres]
      exact mr_Q_er h16 f20
    · skip
      have hol := rd_off_le (by omega) ho
      unfold rd_le at hol
      obtain ⟨A21, g22, h23, f24⟩ := mr_Q1 (mi_off (d := d - 1) (i := i) (by omega) (by omega) (by omega) (by omega) h4) ho
      have f25 := f6.trans f24
      refine wp_cv (A' := A21) (v := some (.int (Int32.ofNat 1))) rfl rfl rfl rfl rfl h4.rc (by omega) (g22) rfl ?_
      show am_wp d 52 (18, [some (.ref (r)), some (.int (Int32.ofNat i)), some (.int (Int32.ofNat k)), some (.int (Int32.ofNat l)), none], [.int (Int32.ofNat 1)], A21) _
      refine wp_izT rfl rfl (show (Int32.ofNat 1) ≠ (Int32.ofNat 0) from by decide) ?_
      refine wp_st 1 (f' := (24, [some (.ref (r)), some (.int (Int32.ofNat i)), some (.int (Int32.ofNat k)), some (.int (Int32.ofNat l)), none], [.ref (r)], A21)) rfl ?_
      refine wp_gf rfl rfl h23.rc rfl rfl ?_
      have k26 := rd_sk_le (cs := cs) (n := n) (a := a6) (by omega)
      obtain ⟨A27, g28, h29, f30⟩ := mi_skip (d := d - 1) (by omega) (by omega) h23
      have f31 := f25.trans f30
      refine wp_cv (A' := A27) (v := none) rfl rfl rfl rfl rfl h23.tc (by omega) (g28) rfl ?_
      show am_wp d 52 (30, [some (.ref (r)), some (.int (Int32.ofNat i)), some (.int (Int32.ofNat k)), some (.int (Int32.ofNat l)), none], [], A27) _
      refine wp_st 2 (f' := (33, [some (.ref (r)), some (.int (Int32.ofNat i)), some (.int (Int32.ofNat k)), some (.int (Int32.ofNat l)), some (.int (Int32.ofNat 0))], [], A27)) rfl ?_
      have hres : rd_rest cs n inner i k a M = rd_brs cs n inner i k 40 (rd_sk cs n a6) M6 := by simp [rd_rest, h7, ho]
      rw [hres]
      obtain ⟨q, q1, q2⟩ := mi_brs_l (i := i) (k := k) (l := l) (by omega) hd0 hl hk hin hle 40 (rd_sk cs n a6) (M6) _ (by omega) (by omega) (by omega) (by omega) (by omega) h29
      exact ⟨q, q1, q2.tr f31⟩
theorem mi_arg {d D0 l r t m n : Nat} {cs : List Nat} {dbl z : Bool} {inner : Option (Bool → Nat → mg → rd_R)} {a : Nat} {M : mg} {A : am_H} (hd : 8 ≤ d) (hd0 : D0 + 3 ≤ d) (hl : l ≤ 3) (han : a ≤ n) (hp : mg_P M < a) (hb : 3 * mg_B M ≤ a) (hin : mr_in D0 l r t m cs n dbl z inner) (hle : rd_inn n inner) (h : mr_I A r t m cs n a (-1) dbl M z)  : am_wp d 35 (0, am_ent 35 [.ref r, .int (Int32.ofNat l)], [], A) (mr_Q A r t m cs n dbl z (rd_arg cs n inner a M)) := by
  have hge := h.ge
  have hlk := h.lk
  have hcs := h.T.2.2.2.2.2.1
  have hPB := h.N.P
  refine wp_st 1 (f' := (1, [some (.ref (r)), some (.int (Int32.ofNat l)), none, none, none], [.ref (r)], A)) rfl ?_
  refine wp_gf rfl rfl h.rc rfl rfl ?_
  have k1 := rd_sk_le (cs := cs) (n := n) (a := a) (by omega)
  obtain ⟨A2, g3, h4, f5⟩ := mi_skip (d := d - 1) (by omega) (by omega) h
  have f6 := (mr_F.refl A t m).trans f5
  refine wp_cv (A' := A2) (v := none) rfl rfl rfl rfl rfl h.tc (by omega) (g3) rfl ?_
  show am_wp d 35 (7, [some (.ref (r)), some (.int (Int32.ofNat l)), none, none, none], [], A2) _
  refine wp_st 1 (f' := (8, [some (.ref (r)), some (.int (Int32.ofNat l)), none, none, none], [.ref (r)], A2)) rfl ?_
  rcases hnm : rd_name cs n (rd_sk cs n a) with e1 | ⟨a2, x⟩
  · skip
    obtain ⟨A7, g8, h9, f10⟩ := (mi_name (d := d - 1) (by omega) (by omega) h4).1 _ hnm
    have f11 := f6.trans f10
    refine wp_cv (A' := A7) (v := some (.int ((-1)))) rfl rfl rfl rfl rfl h4.rc (by omega) (g8) rfl ?_
    show am_wp d 35 (11, [some (.ref (r)), some (.int (Int32.ofNat l)), none, none, none], [.int ((-1))], A7) _
    refine wp_st 3 (f' := (14, [some (.ref (r)), some (.int (Int32.ofNat l)), some (.int ((-1))), none, none], [.int ((-1)), .int ((-1))], A7)) rfl ?_
    refine wp_ifF rfl rfl (fun q => q rfl) ?_
    refine wp_st 1 (f' := (18, [some (.ref (r)), some (.int (Int32.ofNat l)), some (.int ((-1))), none, none], [.int (Int32.ofNat 0)], A7)) rfl ?_
    refine wp_rt rfl rfl rfl ?_
    have hres : rd_arg cs n inner a M = .error (e1) := by simp [rd_arg, rd_typed, hnm]
    rw [hres]
    exact mr_Q_er h9 f11
  · skip
    have hnl := rd_name_le (by omega) hnm
    have hnn := rd_name_n hcs (by omega) hnm
    obtain ⟨A12, g13, h14, f15⟩ := (mi_name (d := d - 1) (by omega) (by omega) h4).2 _ _ hnm
    have f16 := f6.trans f15
    refine wp_cv (A' := A12) (v := some (.int (x))) rfl rfl rfl rfl rfl h4.rc (by omega) (g13) rfl ?_
    show am_wp d 35 (11, [some (.ref (r)), some (.int (Int32.ofNat l)), none, none, none], [.int (x)], A12) _
    refine wp_st 3 (f' := (14, [some (.ref (r)), some (.int (Int32.ofNat l)), some (.int (x)), none, none], [.int ((-1)), .int (x)], A12)) rfl ?_
    refine wp_ifT rfl rfl (by rw [hnn.1]; exact i32_neg1 hnn.2.1) ?_
    refine wp_st 1 (f' := (20, [some (.ref (r)), some (.int (Int32.ofNat l)), some (.int (x)), none, none], [.ref (r)], A12)) rfl ?_
    refine wp_gf rfl rfl h14.rc rfl rfl ?_
    have k17 := rd_sk_le (cs := cs) (n := n) (a := a2) (by omega)
    obtain ⟨A18, g19, h20, f21⟩ := mi_skip (d := d - 1) (by omega) (by omega) h14
    have f22 := f16.trans f21
    refine wp_cv (A' := A18) (v := none) rfl rfl rfl rfl rfl h14.tc (by omega) (g19) rfl ?_
    show am_wp d 35 (26, [some (.ref (r)), some (.int (Int32.ofNat l)), some (.int (x)), none, none], [], A18) _
    refine wp_st 1 (f' := (27, [some (.ref (r)), some (.int (Int32.ofNat l)), some (.int (x)), none, none], [.ref (r)], A18)) rfl ?_
    refine wp_gf rfl rfl h20.rc rfl rfl ?_
    refine wp_st 1 (f' := (32, [some (.ref (r)), some (.int (Int32.ofNat l)), some (.int (x)), none, none], [.int (Int32.ofNat 125), .ref (t)], A18)) rfl ?_
    by_cases c23 : sb_lk cs n (rd_sk cs n a2) = 125
    · skip
      have c23p : rd_sk cs n a2 < n := sb_lk_pos (cs := cs) (by omega)
      obtain ⟨A24, g25, h26, f27⟩ := mi_take1 (d := d - 1) (by omega) (by omega) c23 h20
      have f28 := f22.trans f27
      refine wp_cv (A' := A24) (v := some (.int (Int32.ofNat 1))) rfl rfl rfl rfl rfl h20.tc (by omega) (g25) rfl ?_
      show am_wp d 35 (35, [some (.ref (r)), some (.int (Int32.ofNat l)), some (.int (x)), none, none], [.int (Int32.ofNat 1)], A24) _
      refine wp_izF rfl rfl (show ¬ ((Int32.ofNat 1) = (Int32.ofNat 0)) from by decide) ?_
      refine wp_st 1 (f' := (39, [some (.ref (r)), some (.int (Int32.ofNat l)), some (.int (x)), none, none], [.ref (r)], A24)) rfl ?_
      refine wp_gf rfl rfl h26.rc rfl rfl ?_
      refine wp_st 2 (f' := (44, [some (.ref (r)), some (.int (Int32.ofNat l)), some (.int (x)), none, none], [.int (x), .int (Int32.ofNat 2), .ref (m)], A24)) rfl ?_
      obtain ⟨A29, g30, h31, f32⟩ := mi_add (d := d - 1) (k := 2) (x := x) (by omega) h26
      have f33 := f28.trans f32
      refine wp_cv (A' := A29) (v := some (.int (Int32.ofNat (mg_P M)))) rfl rfl rfl rfl rfl h26.mc (by omega) (g30) rfl ?_
      show am_wp d 35 (47, [some (.ref (r)), some (.int (Int32.ofNat l)), some (.int (x)), none, none], [.int (Int32.ofNat (mg_P M))], A29) _
      refine wp_st 2 (f' := (49, [some (.ref (r)), some (.int (Int32.ofNat l)), some (.int (x)), none, none], [.int (Int32.ofNat 1)], A29)) rfl ?_
      refine wp_rt rfl rfl rfl ?_
      have hres : rd_arg cs n inner a M = .ok (rd_sk cs n a2 + 1, mg_add M 2 x) := by simp [rd_arg, rd_typed, hnm, c23]
      rw [hres]
      exact mr_Q_ok h31 f33
    · skip
      obtain ⟨A34, g35, h36, f37⟩ := mi_take0 (d := d - 1) (by omega) (by omega) c23 h20
      have f38 := f22.trans f37
      refine wp_cv (A' := A34) (v := some (.int (Int32.ofNat 0))) rfl rfl rfl rfl rfl h20.tc (by omega) (g35) rfl ?_
      show am_wp d 35 (35, [some (.ref (r)), some (.int (Int32.ofNat l)), some (.int (x)), none, none], [.int (Int32.ofNat 0)], A34) _
      refine wp_izT rfl rfl (show (Int32.ofNat 0) = (Int32.ofNat 0) from by decide) ?_
      refine wp_st 1 (f' := (51, [some (.ref (r)), some (.int (Int32.ofNat l)), some (.int (x)), none, none], [.ref (r)], A34)) rfl ?_
      refine wp_gf rfl rfl h36.rc rfl rfl ?_
      refine wp_st 1 (f' := (56, [some (.ref (r)), some (.int (Int32.ofNat l)), some (.int (x)), none, none], [.int (Int32.ofNat 44), .ref (t)], A34)) rfl ?_
      by_cases c39 : sb_lk cs n (rd_sk cs n a2) = 44
      · skip
        have c39p : rd_sk cs n a2 < n := sb_lk_pos (cs := cs) (by omega)
        obtain ⟨A40, g41, h42, f43⟩ := mi_need1 (d := d - 1) (by omega) (by omega) (by omega) c39 h36
        have f44 := f38.trans f43
        refine wp_cv (A' := A40) (v := some (.int (Int32.ofNat 1))) rfl rfl rfl rfl rfl h36.tc (by omega) (g41) rfl ?_
        show am_wp d 35 (59, [some (.ref (r)), some (.int (Int32.ofNat l)), some (.int (x)), none, none], [.int (Int32.ofNat 1)], A40) _
        refine wp_izT rfl rfl (show (Int32.ofNat 1) ≠ (Int32.ofNat 0) from by decide) ?_
        refine wp_st 1 (f' := (65, [some (.ref (r)), some (.int (Int32.ofNat l)), some (.int (x)), none, none], [.ref (r)], A40)) rfl ?_
        refine wp_gf rfl rfl h42.rc rfl rfl ?_
        have k45 := rd_sk_le (cs := cs) (n := n) (a := rd_sk cs n a2 + 1) (by omega)
        obtain ⟨A46, g47, h48, f49⟩ := mi_skip (d := d - 1) (by omega) (by omega) h42
        have f50 := f44.trans f49
        refine wp_cv (A' := A46) (v := none) rfl rfl rfl rfl rfl h42.tc (by omega) (g47) rfl ?_
        show am_wp d 35 (71, [some (.ref (r)), some (.int (Int32.ofNat l)), some (.int (x)), none, none], [], A46) _
        refine wp_st 1 (f' := (72, [some (.ref (r)), some (.int (Int32.ofNat l)), some (.int (x)), none, none], [.ref (r)], A46)) rfl ?_
        by_cases hki : rd_kind cs (rd_sk cs n (rd_sk cs n a2 + 1)) (sb_re 97 122 cs n (rd_sk cs n (rd_sk cs n a2 + 1))) = 0
        · skip
          have hty := mi_type (d := d - 1) (a := rd_sk cs n (rd_sk cs n a2 + 1)) (by omega) (by omega) h48
          rw [if_pos hki] at hty
          obtain ⟨A51, g52, h53, f54⟩ := hty
          have f55 := f50.trans f54
          refine wp_cv (A' := A51) (v := some (.int ((-1)))) rfl rfl rfl rfl rfl h48.rc (by omega) (g52) rfl ?_
          show am_wp d 35 (75, [some (.ref (r)), some (.int (Int32.ofNat l)), some (.int (x)), none, none], [.int ((-1))], A51) _
          refine wp_st 3 (f' := (78, [some (.ref (r)), some (.int (Int32.ofNat l)), some (.int (x)), some (.int ((-1))), none], [.int ((-1)), .int ((-1))], A51)) rfl ?_
          refine wp_ifF rfl rfl (fun q => q rfl) ?_
          refine wp_st 1 (f' := (82, [some (.ref (r)), some (.int (Int32.ofNat l)), some (.int (x)), some (.int ((-1))), none], [.int (Int32.ofNat 0)], A51)) rfl ?_
          refine wp_rt rfl rfl rfl ?_
          have hres : rd_arg cs n inner a M = .error (rd_sk cs n (rd_sk cs n a2 + 1)) := by simp [rd_arg, rd_typed, hnm, c23, c39, hki]
          rw [hres]
          exact mr_Q_er h53 f55
        · skip
          have hty := mi_type (d := d - 1) (a := rd_sk cs n (rd_sk cs n a2 + 1)) (by omega) (by omega) h48
          rw [if_neg hki] at hty
          have hkl := rd_kind_le (cs := cs) (a := rd_sk cs n (rd_sk cs n a2 + 1)) (e := sb_re 97 122 cs n (rd_sk cs n (rd_sk cs n a2 + 1)))
          have hre := sb_re_le (lo := 97) (hi := 122) (cs := cs) (n := n) (a := rd_sk cs n (rd_sk cs n a2 + 1))
          have hre2 := hre.2.1 (by omega)
          obtain ⟨A56, g57, h58, f59⟩ := hty
          have f60 := f50.trans f59
          refine wp_cv (A' := A56) (v := some (.int (Int32.ofNat (rd_kind cs (rd_sk cs n (rd_sk cs n a2 + 1)) (sb_re 97 122 cs n (rd_sk cs n (rd_sk cs n a2 + 1))))))) rfl rfl rfl rfl rfl h48.rc (by omega) (g57) rfl ?_
          show am_wp d 35 (75, [some (.ref (r)), some (.int (Int32.ofNat l)), some (.int (x)), none, none], [.int (Int32.ofNat (rd_kind cs (rd_sk cs n (rd_sk cs n a2 + 1)) (sb_re 97 122 cs n (rd_sk cs n (rd_sk cs n a2 + 1)))))], A56) _
          refine wp_st 3 (f' := (78, [some (.ref (r)), some (.int (Int32.ofNat l)), some (.int (x)), some (.int (Int32.ofNat (rd_kind cs (rd_sk cs n (rd_sk cs n a2 + 1)) (sb_re 97 122 cs n (rd_sk cs n (rd_sk cs n a2 + 1)))))), none], [.int ((-1)), .int (Int32.ofNat (rd_kind cs (rd_sk cs n (rd_sk cs n a2 + 1)) (sb_re 97 122 cs n (rd_sk cs n (rd_sk cs n a2 + 1)))))], A56)) rfl ?_
          refine wp_ifT rfl rfl (i32_neg1 (by omega)) ?_
          refine wp_st 1 (f' := (84, [some (.ref (r)), some (.int (Int32.ofNat l)), some (.int (x)), some (.int (Int32.ofNat (rd_kind cs (rd_sk cs n (rd_sk cs n a2 + 1)) (sb_re 97 122 cs n (rd_sk cs n (rd_sk cs n a2 + 1)))))), none], [.ref (r)], A56)) rfl ?_
          refine wp_gf rfl rfl h58.rc rfl rfl ?_
          have k61 := rd_sk_le (cs := cs) (n := n) (a := sb_re 97 122 cs n (rd_sk cs n (rd_sk cs n a2 + 1))) (by omega)
          obtain ⟨A62, g63, h64, f65⟩ := mi_skip (d := d - 1) (by omega) (by omega) h58
          have f66 := f60.trans f65
          refine wp_cv (A' := A62) (v := none) rfl rfl rfl rfl rfl h58.tc (by omega) (g63) rfl ?_
          show am_wp d 35 (90, [some (.ref (r)), some (.int (Int32.ofNat l)), some (.int (x)), some (.int (Int32.ofNat (rd_kind cs (rd_sk cs n (rd_sk cs n a2 + 1)) (sb_re 97 122 cs n (rd_sk cs n (rd_sk cs n a2 + 1)))))), none], [], A62) _
          refine wp_st 1 (f' := (91, [some (.ref (r)), some (.int (Int32.ofNat l)), some (.int (x)), some (.int (Int32.ofNat (rd_kind cs (rd_sk cs n (rd_sk cs n a2 + 1)) (sb_re 97 122 cs n (rd_sk cs n (rd_sk cs n a2 + 1)))))), none], [.ref (r)], A62)) rfl ?_
          refine wp_gf rfl rfl h64.rc rfl rfl ?_
          refine wp_st 2 (f' := (96, [some (.ref (r)), some (.int (Int32.ofNat l)), some (.int (x)), some (.int (Int32.ofNat (rd_kind cs (rd_sk cs n (rd_sk cs n a2 + 1)) (sb_re 97 122 cs n (rd_sk cs n (rd_sk cs n a2 + 1)))))), none], [.int (x), .int (Int32.ofNat (rd_kind cs (rd_sk cs n (rd_sk cs n a2 + 1)) (sb_re 97 122 cs n (rd_sk cs n (rd_sk cs n a2 + 1))))), .ref (m)], A62)) rfl ?_
          obtain ⟨A67, g68, h69, f70⟩ := mi_add (d := d - 1) (k := rd_kind cs (rd_sk cs n (rd_sk cs n a2 + 1)) (sb_re 97 122 cs n (rd_sk cs n (rd_sk cs n a2 + 1)))) (x := x) (by omega) h64
          have f71 := f66.trans f70
          refine wp_cv (A' := A67) (v := some (.int (Int32.ofNat (mg_P M)))) rfl rfl rfl rfl rfl h64.mc (by omega) (g68) rfl ?_
          show am_wp d 35 (99, [some (.ref (r)), some (.int (Int32.ofNat l)), some (.int (x)), some (.int (Int32.ofNat (rd_kind cs (rd_sk cs n (rd_sk cs n a2 + 1)) (sb_re 97 122 cs n (rd_sk cs n (rd_sk cs n a2 + 1)))))), none], [.int (Int32.ofNat (mg_P M))], A67) _
          refine wp_st 3 (f' := (104, [some (.ref (r)), some (.int (Int32.ofNat l)), some (.int (x)), some (.int (Int32.ofNat (rd_kind cs (rd_sk cs n (rd_sk cs n a2 + 1)) (sb_re 97 122 cs n (rd_sk cs n (rd_sk cs n a2 + 1)))))), some (.int (Int32.ofNat (mg_P M)))], [.int (Int32.ofNat 6), .int (Int32.ofNat (rd_kind cs (rd_sk cs n (rd_sk cs n a2 + 1)) (sb_re 97 122 cs n (rd_sk cs n (rd_sk cs n a2 + 1)))))], A67)) rfl ?_
          refine wp_if rfl rfl rfl (fun (h72 : (Int32.ofNat 6) ≤ (Int32.ofNat (rd_kind cs (rd_sk cs n (rd_sk cs n a2 + 1)) (sb_re 97 122 cs n (rd_sk cs n (rd_sk cs n a2 + 1)))))) => ?_) (fun (h72 : ¬ ((Int32.ofNat 6) ≤ (Int32.ofNat (rd_kind cs (rd_sk cs n (rd_sk cs n a2 + 1)) (sb_re 97 122 cs n (rd_sk cs n (rd_sk cs n a2 + 1))))))) => ?_)
          · skip
            rw [i32_le (by omega) (by omega)] at h72
            have h72n : ¬ rd_kind cs (rd_sk cs n (rd_sk cs n a2 + 1)) (sb_re 97 122 cs n (rd_sk cs n (rd_sk cs n a2 + 1))) < 6 := by omega
            refine wp_st 1 (f' := (118, [some (.ref (r)), some (.int (Int32.ofNat l)), some (.int (x)), some (.int (Int32.ofNat (rd_kind cs (rd_sk cs n (rd_sk cs n a2 + 1)) (sb_re 97 122 cs n (rd_sk cs n (rd_sk cs n a2 + 1)))))), some (.int (Int32.ofNat (mg_P M)))], [.ref (r)], A67)) rfl ?_
            refine wp_gf rfl rfl h69.rc rfl rfl ?_
            refine wp_st 1 (f' := (123, [some (.ref (r)), some (.int (Int32.ofNat l)), some (.int (x)), some (.int (Int32.ofNat (rd_kind cs (rd_sk cs n (rd_sk cs n a2 + 1)) (sb_re 97 122 cs n (rd_sk cs n (rd_sk cs n a2 + 1)))))), some (.int (Int32.ofNat (mg_P M)))], [.int (Int32.ofNat 44), .ref (t)], A67)) rfl ?_
            by_cases c73 : sb_lk cs n (rd_sk cs n (sb_re 97 122 cs n (rd_sk cs n (rd_sk cs n a2 + 1)))) = 44
            · skip
              have c73p : rd_sk cs n (sb_re 97 122 cs n (rd_sk cs n (rd_sk cs n a2 + 1))) < n := sb_lk_pos (cs := cs) (by omega)
              obtain ⟨A74, g75, h76, f77⟩ := mi_need1 (d := d - 1) (by omega) (by omega) (by omega) c73 h69
              have f78 := f71.trans f77
              refine wp_cv (A' := A74) (v := some (.int (Int32.ofNat 1))) rfl rfl rfl rfl rfl h69.tc (by omega) (g75) rfl ?_
              show am_wp d 35 (126, [some (.ref (r)), some (.int (Int32.ofNat l)), some (.int (x)), some (.int (Int32.ofNat (rd_kind cs (rd_sk cs n (rd_sk cs n a2 + 1)) (sb_re 97 122 cs n (rd_sk cs n (rd_sk cs n a2 + 1)))))), some (.int (Int32.ofNat (mg_P M)))], [.int (Int32.ofNat 1)], A74) _
              refine wp_izF rfl rfl (show ¬ ((Int32.ofNat 1) = (Int32.ofNat 0)) from by decide) ?_
              refine wp_st 4 (f' := (134, [some (.ref (r)), some (.int (Int32.ofNat l)), some (.int (x)), some (.int (Int32.ofNat (rd_kind cs (rd_sk cs n (rd_sk cs n a2 + 1)) (sb_re 97 122 cs n (rd_sk cs n (rd_sk cs n a2 + 1)))))), some (.int (Int32.ofNat (mg_P M)))], [.int (Int32.ofNat l), .int (Int32.ofNat (rd_kind cs (rd_sk cs n (rd_sk cs n a2 + 1)) (sb_re 97 122 cs n (rd_sk cs n (rd_sk cs n a2 + 1))))), .int (Int32.ofNat (mg_P M)), .ref (r)], A74)) rfl ?_
              rcases hrs : rd_rest cs n inner (mg_P M) (rd_kind cs (rd_sk cs n (rd_sk cs n a2 + 1)) (sb_re 97 122 cs n (rd_sk cs n (rd_sk cs n a2 + 1)))) (rd_sk cs n (sb_re 97 122 cs n (rd_sk cs n (rd_sk cs n a2 + 1))) + 1) (mg_add M (rd_kind cs (rd_sk cs n (rd_sk cs n a2 + 1)) (sb_re 97 122 cs n (rd_sk cs n (rd_sk cs n a2 + 1)))) x) with e7 | ⟨a7, M7⟩
              · skip
                obtain ⟨a83, M84, A79, g80, h81, f82⟩ := mr_Q0 (mi_rest (d := d - 1) (D0 := D0) (i := mg_P M) (k := rd_kind cs (rd_sk cs n (rd_sk cs n a2 + 1)) (sb_re 97 122 cs n (rd_sk cs n (rd_sk cs n a2 + 1)))) (l := l) (by omega) (by omega) (by omega) (by omega) (by omega) (by rw [mg_add_P]; omega) (by rw [mg_add_B]; omega) (by rw [mg_add_P]; omega) hin hle h76) hrs
                have f85 := f78.trans f82
                refine wp_cv (A' := A79) (v := some (.int (Int32.ofNat 0))) rfl rfl rfl rfl rfl h76.rc (by omega) (g80) rfl ?_
                show am_wp d 35 (137, [some (.ref (r)), some (.int (Int32.ofNat l)), some (.int (x)), some (.int (Int32.ofNat (rd_kind cs (rd_sk cs n (rd_sk cs n a2 + 1)) (sb_re 97 122 cs n (rd_sk cs n (rd_sk cs n a2 + 1)))))), some (.int (Int32.ofNat (mg_P M)))], [.int (Int32.ofNat 0)], A79) _
                refine wp_izT rfl rfl (show (Int32.ofNat 0) = (Int32.ofNat 0) from by decide) ?_
                refine wp_st 1 (f' := (145, [some (.ref (r)), some (.int (Int32.ofNat l)), some (.int (x)), some (.int (Int32.ofNat (rd_kind cs (rd_sk cs n (rd_sk cs n a2 + 1)) (sb_re 97 122 cs n (rd_sk cs n (rd_sk cs n a2 + 1)))))), some (.int (Int32.ofNat (mg_P M)))], [.int (Int32.ofNat 0)], A79)) rfl ?_
                refine wp_rt rfl rfl rfl ?_
                have hres : rd_arg cs n inner a M = .error (e7) := by simp [rd_arg, rd_typed, hnm, c23, c39, hki, h72n, c73, hrs]
                rw [hres]
                exact mr_Q_er h81 f85
              · skip
                obtain ⟨A86, g87, h88, f89⟩ := mr_Q1 (mi_rest (d := d - 1) (D0 := D0) (i := mg_P M) (k := rd_kind cs (rd_sk cs n (rd_sk cs n a2 + 1)) (sb_re 97 122 cs n (rd_sk cs n (rd_sk cs n a2 + 1)))) (l := l) (by omega) (by omega) (by omega) (by omega) (by omega) (by rw [mg_add_P]; omega) (by rw [mg_add_B]; omega) (by rw [mg_add_P]; omega) hin hle h76) hrs
                have f90 := f78.trans f89
                refine wp_cv (A' := A86) (v := some (.int (Int32.ofNat 1))) rfl rfl rfl rfl rfl h76.rc (by omega) (g87) rfl ?_
                show am_wp d 35 (137, [some (.ref (r)), some (.int (Int32.ofNat l)), some (.int (x)), some (.int (Int32.ofNat (rd_kind cs (rd_sk cs n (rd_sk cs n a2 + 1)) (sb_re 97 122 cs n (rd_sk cs n (rd_sk cs n a2 + 1)))))), some (.int (Int32.ofNat (mg_P M)))], [.int (Int32.ofNat 1)], A86) _
                refine wp_izF rfl rfl (show ¬ ((Int32.ofNat 1) = (Int32.ofNat 0)) from by decide) ?_
                refine wp_st 2 (f' := (145, [some (.ref (r)), some (.int (Int32.ofNat l)), some (.int (x)), some (.int (Int32.ofNat (rd_kind cs (rd_sk cs n (rd_sk cs n a2 + 1)) (sb_re 97 122 cs n (rd_sk cs n (rd_sk cs n a2 + 1)))))), some (.int (Int32.ofNat (mg_P M)))], [.int (Int32.ofNat 1)], A86)) rfl ?_
                refine wp_rt rfl rfl rfl ?_
                have hres : rd_arg cs n inner a M = .ok (a7, M7) := by simp [rd_arg, rd_typed, hnm, c23, c39, hki, h72n, c73, hrs]
                rw [hres]
                exact mr_Q_ok h88 f90
            · skip
              obtain ⟨A91, g92, h93, f94⟩ := mi_need0 (d := d - 1) (by omega) (by omega) c73 h69
              have f95 := f71.trans f94
              refine wp_cv (A' := A91) (v := some (.int (Int32.ofNat 0))) rfl rfl rfl rfl rfl h69.tc (by omega) (g92) rfl ?_
              show am_wp d 35 (126, [some (.ref (r)), some (.int (Int32.ofNat l)), some (.int (x)), some (.int (Int32.ofNat (rd_kind cs (rd_sk cs n (rd_sk cs n a2 + 1)) (sb_re 97 122 cs n (rd_sk cs n (rd_sk cs n a2 + 1)))))), some (.int (Int32.ofNat (mg_P M)))], [.int (Int32.ofNat 0)], A91) _
              refine wp_izT rfl rfl (show (Int32.ofNat 0) = (Int32.ofNat 0) from by decide) ?_
              refine wp_st 1 (f' := (145, [some (.ref (r)), some (.int (Int32.ofNat l)), some (.int (x)), some (.int (Int32.ofNat (rd_kind cs (rd_sk cs n (rd_sk cs n a2 + 1)) (sb_re 97 122 cs n (rd_sk cs n (rd_sk cs n a2 + 1)))))), some (.int (Int32.ofNat (mg_P M)))], [.int (Int32.ofNat 0)], A91)) rfl ?_
              refine wp_rt rfl rfl rfl ?_
              have hres : rd_arg cs n inner a M = .error (rd_sk cs n (sb_re 97 122 cs n (rd_sk cs n (rd_sk cs n a2 + 1)))) := by simp [rd_arg, rd_typed, hnm, c23, c39, hki, h72n, c73]
              rw [hres]
              exact mr_Q_er h93 f95
          · skip
            rw [i32_le (by omega) (by omega)] at h72
            refine wp_st 1 (f' := (108, [some (.ref (r)), some (.int (Int32.ofNat l)), some (.int (x)), some (.int (Int32.ofNat (rd_kind cs (rd_sk cs n (rd_sk cs n a2 + 1)) (sb_re 97 122 cs n (rd_sk cs n (rd_sk cs n a2 + 1)))))), some (.int (Int32.ofNat (mg_P M)))], [.ref (r)], A67)) rfl ?_
            refine wp_gf rfl rfl h69.rc rfl rfl ?_
            refine wp_st 1 (f' := (113, [some (.ref (r)), some (.int (Int32.ofNat l)), some (.int (x)), some (.int (Int32.ofNat (rd_kind cs (rd_sk cs n (rd_sk cs n a2 + 1)) (sb_re 97 122 cs n (rd_sk cs n (rd_sk cs n a2 + 1)))))), some (.int (Int32.ofNat (mg_P M)))], [.int (Int32.ofNat 125), .ref (t)], A67)) rfl ?_
            by_cases c96 : sb_lk cs n (rd_sk cs n (sb_re 97 122 cs n (rd_sk cs n (rd_sk cs n a2 + 1)))) = 125
            · skip
              have c96p : rd_sk cs n (sb_re 97 122 cs n (rd_sk cs n (rd_sk cs n a2 + 1))) < n := sb_lk_pos (cs := cs) (by omega)
              obtain ⟨A97, g98, h99, f100⟩ := mi_need1 (d := d - 1) (by omega) (by omega) (by omega) c96 h69
              have f101 := f71.trans f100
              refine wp_cv (A' := A97) (v := some (.int (Int32.ofNat 1))) rfl rfl rfl rfl rfl h69.tc (by omega) (g98) rfl ?_
              show am_wp d 35 (116, [some (.ref (r)), some (.int (Int32.ofNat l)), some (.int (x)), some (.int (Int32.ofNat (rd_kind cs (rd_sk cs n (rd_sk cs n a2 + 1)) (sb_re 97 122 cs n (rd_sk cs n (rd_sk cs n a2 + 1)))))), some (.int (Int32.ofNat (mg_P M)))], [.int (Int32.ofNat 1)], A97) _
              refine wp_rt rfl rfl rfl ?_
              have hres : rd_arg cs n inner a M = .ok (rd_sk cs n (sb_re 97 122 cs n (rd_sk cs n (rd_sk cs n a2 + 1))) + 1, mg_add M (rd_kind cs (rd_sk cs n (rd_sk cs n a2 + 1)) (sb_re 97 122 cs n (rd_sk cs n (rd_sk cs n a2 + 1)))) x) := by simp [rd_arg, rd_typed, hnm, c23, c39, hki, h72, c96]
              rw [hres]
              exact mr_Q_ok h99 f101
            · skip
              obtain ⟨A102, g103, h104, f105⟩ := mi_need0 (d := d - 1) (by omega) (by omega) c96 h69
              have f106 := f71.trans f105
              refine wp_cv (A' := A102) (v := some (.int (Int32.ofNat 0))) rfl rfl rfl rfl rfl h69.tc (by omega) (g103) rfl ?_
              show am_wp d 35 (116, [some (.ref (r)), some (.int (Int32.ofNat l)), some (.int (x)), some (.int (Int32.ofNat (rd_kind cs (rd_sk cs n (rd_sk cs n a2 + 1)) (sb_re 97 122 cs n (rd_sk cs n (rd_sk cs n a2 + 1)))))), some (.int (Int32.ofNat (mg_P M)))], [.int (Int32.ofNat 0)], A102) _
              refine wp_rt rfl rfl rfl ?_
              have hres : rd_arg cs n inner a M = .error (rd_sk cs n (sb_re 97 122 cs n (rd_sk cs n (rd_sk cs n a2 + 1)))) := by simp [rd_arg, rd_typed, hnm, c23, c39, hki, h72, c96]
              rw [hres]
              exact mr_Q_er h104 f106
      · skip
        obtain ⟨A107, g108, h109, f110⟩ := mi_need0 (d := d - 1) (by omega) (by omega) c39 h36
        have f111 := f38.trans f110
        refine wp_cv (A' := A107) (v := some (.int (Int32.ofNat 0))) rfl rfl rfl rfl rfl h36.tc (by omega) (g108) rfl ?_
        show am_wp d 35 (59, [some (.ref (r)), some (.int (Int32.ofNat l)), some (.int (x)), none, none], [.int (Int32.ofNat 0)], A107) _
        refine wp_izF rfl rfl (show ¬ ((Int32.ofNat 0) ≠ (Int32.ofNat 0)) from by decide) ?_
        refine wp_st 1 (f' := (63, [some (.ref (r)), some (.int (Int32.ofNat l)), some (.int (x)), none, none], [.int (Int32.ofNat 0)], A107)) rfl ?_
        refine wp_rt rfl rfl rfl ?_
        have hres : rd_arg cs n inner a M = .error (rd_sk cs n a2) := by simp [rd_arg, rd_typed, hnm, c23, c39]
        rw [hres]
        exact mr_Q_er h109 f111
theorem mi_msg_l {d D0 l r t m n : Nat} {cs : List Nat} {dbl z : Bool} {inner : Option (Bool → Nat → mg → rd_R)} {top sg : Bool} (hd : 9 ≤ d) (hd0 : D0 + 4 ≤ d) (hl : l ≤ 3) (htop : (top = true ∧ l = 0) ∨ (top = false ∧ 0 < l)) (hin : mr_in D0 l r t m cs n dbl z inner) (hle : rd_inn n inner)  : ∀ (f a : Nat) (M : mg) (A : am_H) (b4 : Option Value), f ≤ 120 → a ≤ n → mg_P M ≤ a → 3 * mg_B M ≤ a + 1 → mr_I A r t m cs n a (-1) dbl M z → am_wp d 29 (2, [some (.ref r), some (.int (Int32.ofNat l)), some (.int (sb_i sg)), some (.int (Int32.ofNat (120 - f))), b4], [], A) (mr_Q A r t m cs n dbl z (rd_loop cs n dbl inner top sg f a M)) := by
  intro f
  induction f with
  | zero =>
    intro a M A b4 hf han hp hb h
    have hge := h.ge
    have hlk := h.lk
    have hcs := h.T.2.2.2.2.2.1
    refine wp_st 2 (f' := (5, [some (.ref (r)), some (.int (Int32.ofNat l)), some (.int (sb_i sg)), some (.int (Int32.ofNat (120 - 0))), b4], [.int (Int32.ofNat 120), .int (Int32.ofNat (120 - 0))], A)) rfl ?_
    refine wp_ifT rfl rfl ((i32_le (a := 120) (b := 120 - 0) (by omega) (by omega)).mpr (by omega)) ?_
    refine wp_st 1 (f' := (121, [some (.ref (r)), some (.int (Int32.ofNat l)), some (.int (sb_i sg)), some (.int (Int32.ofNat (120 - 0))), b4], [.int (Int32.ofNat 1)], A)) rfl ?_
    refine wp_rt rfl rfl rfl ?_
    exact mr_Q_ok h (mr_F.refl A t m)
  | succ f ih =>
    intro a M A b4 hf han hp hb h
    have hge := h.ge
    have hlk := h.lk
    have hcs := h.T.2.2.2.2.2.1
    have hPB := h.N.P
    rcases htop with ⟨htp, hl0⟩ | ⟨htp, hl0⟩
    · skip
      refine wp_st 2 (f' := (5, [some (.ref (r)), some (.int (Int32.ofNat l)), some (.int (sb_i sg)), some (.int (Int32.ofNat (120 - (f + 1)))), b4], [.int (Int32.ofNat 120), .int (Int32.ofNat (120 - (f + 1)))], A)) rfl ?_
      refine wp_ifF rfl rfl (fun q => absurd ((i32_le (a := 120) (b := 120 - (f + 1)) (by omega) (by omega)).mp q) (by omega)) ?_
      refine wp_st 1 (f' := (9, [some (.ref (r)), some (.int (Int32.ofNat l)), some (.int (sb_i sg)), some (.int (Int32.ofNat (120 - (f + 1)))), b4], [.ref (r)], A)) rfl ?_
      refine wp_gf rfl rfl h.rc rfl rfl ?_
      refine wp_st 1 (f' := (13, [some (.ref (r)), some (.int (Int32.ofNat l)), some (.int (sb_i sg)), some (.int (Int32.ofNat (120 - (f + 1)))), b4], [.ref (r), .ref (t)], A)) rfl ?_
      refine wp_gf rfl rfl h.rc rfl rfl ?_
      refine wp_gf rfl rfl h.tc rfl rfl ?_
      by_cases c1 : a < n
      · skip
        have c1l := hlk (a)
        have c1n : ¬ n ≤ a := by omega
        refine wp_cv (A' := A) (v := some (.int (Int32.ofNat (sb_lk cs n a)))) rfl rfl rfl rfl rfl h.tc (by omega) (mi_chr1 c1 h) rfl ?_
        show am_wp d 29 (22, [some (.ref (r)), some (.int (Int32.ofNat l)), some (.int (sb_i sg)), some (.int (Int32.ofNat (120 - (f + 1)))), b4], [.int (Int32.ofNat (sb_lk cs n a))], A) _
        refine wp_st 3 (f' := (27, [some (.ref (r)), some (.int (Int32.ofNat l)), some (.int (sb_i sg)), some (.int (Int32.ofNat (120 - (f + 1)))), some (.int (Int32.ofNat (sb_lk cs n a)))], [.int ((-1)), .int (Int32.ofNat (sb_lk cs n a))], A)) rfl ?_
        refine wp_ifF rfl rfl (i32_neg1 (by omega)) ?_
        refine wp_st 2 (f' := (34, [some (.ref (r)), some (.int (Int32.ofNat l)), some (.int (sb_i sg)), some (.int (Int32.ofNat (120 - (f + 1)))), some (.int (Int32.ofNat (sb_lk cs n a)))], [.int (Int32.ofNat 125), .int (Int32.ofNat (sb_lk cs n a))], A)) rfl ?_
        refine wp_if rfl rfl rfl (fun (h2 : (Int32.ofNat (sb_lk cs n a)) ≠ (Int32.ofNat 125)) => ?_) (fun (h2 : ¬ ((Int32.ofNat (sb_lk cs n a)) ≠ (Int32.ofNat 125))) => ?_)
        · skip
          rw [ne_eq, i32_eq (by omega) (by omega)] at h2
          refine wp_st 2 (f' := (47, [some (.ref (r)), some (.int (Int32.ofNat l)), some (.int (sb_i sg)), some (.int (Int32.ofNat (120 - (f + 1)))), some (.int (Int32.ofNat (sb_lk cs n a)))], [.int (Int32.ofNat 39), .int (Int32.ofNat (sb_lk cs n a))], A)) rfl ?_
          refine wp_if rfl rfl rfl (fun (h3 : (Int32.ofNat (sb_lk cs n a)) ≠ (Int32.ofNat 39)) => ?_) (fun (h3 : ¬ ((Int32.ofNat (sb_lk cs n a)) ≠ (Int32.ofNat 39))) => ?_)
          · skip
            rw [ne_eq, i32_eq (by omega) (by omega)] at h3
            refine wp_st 1 (f' := (59, [some (.ref (r)), some (.int (Int32.ofNat l)), some (.int (sb_i sg)), some (.int (Int32.ofNat (120 - (f + 1)))), some (.int (Int32.ofNat (sb_lk cs n a)))], [.ref (r)], A)) rfl ?_
            refine wp_gf rfl rfl h.rc rfl rfl ?_
            refine wp_st 1 (f' := (63, [some (.ref (r)), some (.int (Int32.ofNat l)), some (.int (sb_i sg)), some (.int (Int32.ofNat (120 - (f + 1)))), some (.int (Int32.ofNat (sb_lk cs n a)))], [.ref (t), .ref (t)], A)) rfl ?_
            refine wp_gf rfl rfl h.tc rfl rfl ?_
            refine wp_st 2 (f' := (68, [some (.ref (r)), some (.int (Int32.ofNat l)), some (.int (sb_i sg)), some (.int (Int32.ofNat (120 - (f + 1)))), some (.int (Int32.ofNat (sb_lk cs n a)))], [.int ((Int32.ofNat a) + (Int32.ofNat 1)), .ref (t)], A)) rfl ?_
            rw [i32_add (a) (1)]
            obtain ⟨A4, e5⟩ : ∃ B, B = A.set t (sb_tc t n (a + 1) ((-1))) := ⟨_, rfl⟩
            have q6 := h.set (a' := a + 1) (f' := (-1)) (by omega)
            rw [← e5] at q6
            refine wp_pf (A' := A4) rfl rfl h.tc rfl rfl (decide_eq_true (by have := h.ge; omega)) rfl e5.symm ?_
            have h7 := q6.1
            have f8 := (mr_F.refl A t m).trans q6.2
            refine wp_st 2 (f' := (75, [some (.ref (r)), some (.int (Int32.ofNat l)), some (.int (sb_i sg)), some (.int (Int32.ofNat (120 - (f + 1)))), some (.int (Int32.ofNat (sb_lk cs n a)))], [.int (Int32.ofNat 123), .int (Int32.ofNat (sb_lk cs n a))], A4)) rfl ?_
            refine wp_if rfl rfl rfl (fun (h9 : (Int32.ofNat (sb_lk cs n a)) ≠ (Int32.ofNat 123)) => ?_) (fun (h9 : ¬ ((Int32.ofNat (sb_lk cs n a)) ≠ (Int32.ofNat 123))) => ?_)
            · skip
              rw [ne_eq, i32_eq (by omega) (by omega)] at h9
              refine wp_st 1 (f' := (89, [some (.ref (r)), some (.int (Int32.ofNat l)), some (.int (sb_i sg)), some (.int (Int32.ofNat (120 - (f + 1)))), some (.int (Int32.ofNat (sb_lk cs n a)))], [.ref (r)], A4)) rfl ?_
              refine wp_gf rfl rfl h7.rc rfl rfl ?_
              refine wp_st 2 (f' := (96, [some (.ref (r)), some (.int (Int32.ofNat l)), some (.int (sb_i sg)), some (.int (Int32.ofNat (120 - (f + 1)))), some (.int (Int32.ofNat (sb_lk cs n a)))], [.int (Int32.ofNat 35), .int (Int32.ofNat (sb_lk cs n a)), .ref (m)], A4)) rfl ?_
              refine wp_if rfl rfl rfl (fun (h10 : (Int32.ofNat (sb_lk cs n a)) ≠ (Int32.ofNat 35)) => ?_) (fun (h10 : ¬ ((Int32.ofNat (sb_lk cs n a)) ≠ (Int32.ofNat 35))) => ?_)
              · skip
                rw [ne_eq, i32_eq (by omega) (by omega)] at h10
                refine wp_st 2 (f' := (110, [some (.ref (r)), some (.int (Int32.ofNat l)), some (.int (sb_i sg)), some (.int (Int32.ofNat (120 - (f + 1)))), some (.int (Int32.ofNat (sb_lk cs n a)))], [.int (Int32.ofNat (sb_lk cs n a)), .int (Int32.ofNat 0), .ref (m)], A4)) rfl ?_
                obtain ⟨A11, g12, h13, f14⟩ := mi_add (d := d - 1) (k := 0) (x := Int32.ofNat (sb_lk cs n a)) (by omega) h7
                have f15 := f8.trans f14
                refine wp_cv (A' := A11) (v := some (.int (Int32.ofNat (mg_P M)))) rfl rfl rfl rfl rfl h7.mc (by omega) (g12) rfl ?_
                show am_wp d 29 (113, [some (.ref (r)), some (.int (Int32.ofNat l)), some (.int (sb_i sg)), some (.int (Int32.ofNat (120 - (f + 1)))), some (.int (Int32.ofNat (sb_lk cs n a)))], [.int (Int32.ofNat (mg_P M))], A11) _
                refine wp_st 2 (f' := (117, [some (.ref (r)), some (.int (Int32.ofNat l)), some (.int (sb_i sg)), some (.int ((Int32.ofNat (120 - (f + 1))) + (Int32.ofNat 1))), some (.int (Int32.ofNat (sb_lk cs n a)))], [], A11)) rfl ?_
                rw [i32_add (120 - (f + 1)) (1)]
                refine wp_st 1 (f' := (2, [some (.ref (r)), some (.int (Int32.ofNat l)), some (.int (sb_i sg)), some (.int (Int32.ofNat (120 - (f + 1) + 1))), some (.int (Int32.ofNat (sb_lk cs n a)))], [], A11)) rfl ?_
                have hres : rd_loop cs n dbl inner top sg (f + 1) a M = rd_loop cs n dbl inner top sg f (a + 1) (mg_add M 0 (Int32.ofNat (sb_lk cs n a))) := by first | (exfalso; omega) | simp [rd_loop, htp, c1n, h2, h3, h9, h10]
                rw [hres, show 120 - (f + 1) + 1 = 120 - f by omega]
                obtain ⟨q, q1, q2⟩ := ih (a + 1) (mg_add M 0 (Int32.ofNat (sb_lk cs n a))) _ _ (by omega) (by omega) (by first | omega | (rw [mg_add_P]; omega)) (by first | omega | (rw [mg_add_B]; omega)) h13
                exact ⟨q, q1, q2.tr f15⟩
              · skip
                rw [ne_eq, i32_eq (by omega) (by omega)] at h10
                replace h10 := Decidable.not_not.mp h10
                refine wp_st 1 (f' := (100, [some (.ref (r)), some (.int (Int32.ofNat l)), some (.int (sb_i sg)), some (.int (Int32.ofNat (120 - (f + 1)))), some (.int (Int32.ofNat (sb_lk cs n a)))], [.int (sb_i sg), .ref (m)], A4)) rfl ?_
                by_cases b16 : sg = true
                · skip
                  refine wp_izF rfl rfl (show ¬ (sb_i sg = 0) from by rw [b16]; decide) ?_
                  refine wp_st 3 (f' := (110, [some (.ref (r)), some (.int (Int32.ofNat l)), some (.int (sb_i sg)), some (.int (Int32.ofNat (120 - (f + 1)))), some (.int (Int32.ofNat (sb_lk cs n a)))], [.int (Int32.ofNat (sb_lk cs n a)), .int (Int32.ofNat 1), .ref (m)], A4)) rfl ?_
                  obtain ⟨A17, g18, h19, f20⟩ := mi_add (d := d - 1) (k := 1) (x := Int32.ofNat (sb_lk cs n a)) (by omega) h7
                  have f21 := f8.trans f20
                  refine wp_cv (A' := A17) (v := some (.int (Int32.ofNat (mg_P M)))) rfl rfl rfl rfl rfl h7.mc (by omega) (g18) rfl ?_
                  show am_wp d 29 (113, [some (.ref (r)), some (.int (Int32.ofNat l)), some (.int (sb_i sg)), some (.int (Int32.ofNat (120 - (f + 1)))), some (.int (Int32.ofNat (sb_lk cs n a)))], [.int (Int32.ofNat (mg_P M))], A17) _
                  refine wp_st 2 (f' := (117, [some (.ref (r)), some (.int (Int32.ofNat l)), some (.int (sb_i sg)), some (.int ((Int32.ofNat (120 - (f + 1))) + (Int32.ofNat 1))), some (.int (Int32.ofNat (sb_lk cs n a)))], [], A17)) rfl ?_
                  rw [i32_add (120 - (f + 1)) (1)]
                  refine wp_st 1 (f' := (2, [some (.ref (r)), some (.int (Int32.ofNat l)), some (.int (sb_i sg)), some (.int (Int32.ofNat (120 - (f + 1) + 1))), some (.int (Int32.ofNat (sb_lk cs n a)))], [], A17)) rfl ?_
                  have hres : rd_loop cs n dbl inner top sg (f + 1) a M = rd_loop cs n dbl inner top sg f (a + 1) (mg_add M 1 (Int32.ofNat (sb_lk cs n a))) := by first | (exfalso; omega) | simp [rd_loop, htp, c1n, h2, h3, h9, h10, b16]
                  rw [hres, show 120 - (f + 1) + 1 = 120 - f by omega]
                  obtain ⟨q, q1, q2⟩ := ih (a + 1) (mg_add M 1 (Int32.ofNat (sb_lk cs n a))) _ _ (by omega) (by omega) (by first | omega | (rw [mg_add_P]; omega)) (by first | omega | (rw [mg_add_B]; omega)) h19
                  exact ⟨q, q1, q2.tr f21⟩
                · skip
                  have b16f : sg = false := by simpa using b16
                  refine wp_izT rfl rfl (show sb_i sg = 0 from by rw [b16f]; decide) ?_
                  refine wp_st 2 (f' := (110, [some (.ref (r)), some (.int (Int32.ofNat l)), some (.int (sb_i sg)), some (.int (Int32.ofNat (120 - (f + 1)))), some (.int (Int32.ofNat (sb_lk cs n a)))], [.int (Int32.ofNat (sb_lk cs n a)), .int (Int32.ofNat 0), .ref (m)], A4)) rfl ?_
                  obtain ⟨A22, g23, h24, f25⟩ := mi_add (d := d - 1) (k := 0) (x := Int32.ofNat (sb_lk cs n a)) (by omega) h7
                  have f26 := f8.trans f25
                  refine wp_cv (A' := A22) (v := some (.int (Int32.ofNat (mg_P M)))) rfl rfl rfl rfl rfl h7.mc (by omega) (g23) rfl ?_
                  show am_wp d 29 (113, [some (.ref (r)), some (.int (Int32.ofNat l)), some (.int (sb_i sg)), some (.int (Int32.ofNat (120 - (f + 1)))), some (.int (Int32.ofNat (sb_lk cs n a)))], [.int (Int32.ofNat (mg_P M))], A22) _
                  refine wp_st 2 (f' := (117, [some (.ref (r)), some (.int (Int32.ofNat l)), some (.int (sb_i sg)), some (.int ((Int32.ofNat (120 - (f + 1))) + (Int32.ofNat 1))), some (.int (Int32.ofNat (sb_lk cs n a)))], [], A22)) rfl ?_
                  rw [i32_add (120 - (f + 1)) (1)]
                  refine wp_st 1 (f' := (2, [some (.ref (r)), some (.int (Int32.ofNat l)), some (.int (sb_i sg)), some (.int (Int32.ofNat (120 - (f + 1) + 1))), some (.int (Int32.ofNat (sb_lk cs n a)))], [], A22)) rfl ?_
                  have hres : rd_loop cs n dbl inner top sg (f + 1) a M = rd_loop cs n dbl inner top sg f (a + 1) (mg_add M 0 (Int32.ofNat (sb_lk cs n a))) := by first | (exfalso; omega) | simp [rd_loop, htp, c1n, h2, h3, h9, h10, b16]
                  rw [hres, show 120 - (f + 1) + 1 = 120 - f by omega]
                  obtain ⟨q, q1, q2⟩ := ih (a + 1) (mg_add M 0 (Int32.ofNat (sb_lk cs n a))) _ _ (by omega) (by omega) (by first | omega | (rw [mg_add_P]; omega)) (by first | omega | (rw [mg_add_B]; omega)) h24
                  exact ⟨q, q1, q2.tr f26⟩
            · skip
              rw [ne_eq, i32_eq (by omega) (by omega)] at h9
              replace h9 := Decidable.not_not.mp h9
              refine wp_st 2 (f' := (80, [some (.ref (r)), some (.int (Int32.ofNat l)), some (.int (sb_i sg)), some (.int (Int32.ofNat (120 - (f + 1)))), some (.int (Int32.ofNat (sb_lk cs n a)))], [.int (Int32.ofNat l), .ref (r)], A4)) rfl ?_
              rcases ha9 : rd_arg cs n inner (a + 1) M with e8 | ⟨a8, M8⟩
              · skip
                obtain ⟨a31, M32, A27, g28, h29, f30⟩ := mr_Q0 (mi_arg (d := d - 1) (D0 := D0) (l := l) (by omega) (by omega) (by omega) (by omega) (by omega) (by omega) hin hle h7) ha9
                have f33 := f8.trans f30
                refine wp_cv (A' := A27) (v := some (.int (Int32.ofNat 0))) rfl rfl rfl rfl rfl h7.rc (by omega) (g28) rfl ?_
                show am_wp d 29 (83, [some (.ref (r)), some (.int (Int32.ofNat l)), some (.int (sb_i sg)), some (.int (Int32.ofNat (120 - (f + 1)))), some (.int (Int32.ofNat (sb_lk cs n a)))], [.int (Int32.ofNat 0)], A27) _
                refine wp_izF rfl rfl (show ¬ ((Int32.ofNat 0) ≠ (Int32.ofNat 0)) from by decide) ?_
                refine wp_st 1 (f' := (87, [some (.ref (r)), some (.int (Int32.ofNat l)), some (.int (sb_i sg)), some (.int (Int32.ofNat (120 - (f + 1)))), some (.int (Int32.ofNat (sb_lk cs n a)))], [.int (Int32.ofNat 0)], A27)) rfl ?_
                refine wp_rt rfl rfl rfl ?_
                have hres : rd_loop cs n dbl inner top sg (f + 1) a M = .error (e8) := by first | (exfalso; omega) | simp [rd_loop, htp, c1n, h2, h3, h9, ha9]
                rw [hres]
                exact mr_Q_er h29 f33
              · skip
                have hal := rd_arg_le hle (by omega) ha9
                unfold rd_le at hal
                obtain ⟨A34, g35, h36, f37⟩ := mr_Q1 (mi_arg (d := d - 1) (D0 := D0) (l := l) (by omega) (by omega) (by omega) (by omega) (by omega) (by omega) hin hle h7) ha9
                have f38 := f8.trans f37
                refine wp_cv (A' := A34) (v := some (.int (Int32.ofNat 1))) rfl rfl rfl rfl rfl h7.rc (by omega) (g35) rfl ?_
                show am_wp d 29 (83, [some (.ref (r)), some (.int (Int32.ofNat l)), some (.int (sb_i sg)), some (.int (Int32.ofNat (120 - (f + 1)))), some (.int (Int32.ofNat (sb_lk cs n a)))], [.int (Int32.ofNat 1)], A34) _
                refine wp_izT rfl rfl (show (Int32.ofNat 1) ≠ (Int32.ofNat 0) from by decide) ?_
                refine wp_st 1 (f' := (117, [some (.ref (r)), some (.int (Int32.ofNat l)), some (.int (sb_i sg)), some (.int ((Int32.ofNat (120 - (f + 1))) + (Int32.ofNat 1))), some (.int (Int32.ofNat (sb_lk cs n a)))], [], A34)) rfl ?_
                rw [i32_add (120 - (f + 1)) (1)]
                refine wp_st 1 (f' := (2, [some (.ref (r)), some (.int (Int32.ofNat l)), some (.int (sb_i sg)), some (.int (Int32.ofNat (120 - (f + 1) + 1))), some (.int (Int32.ofNat (sb_lk cs n a)))], [], A34)) rfl ?_
                have hres : rd_loop cs n dbl inner top sg (f + 1) a M = rd_loop cs n dbl inner top sg f (a8) (M8) := by first | (exfalso; omega) | simp [rd_loop, htp, c1n, h2, h3, h9, ha9]
                rw [hres, show 120 - (f + 1) + 1 = 120 - f by omega]
                obtain ⟨q, q1, q2⟩ := ih (a8) (M8) _ _ (by omega) (by omega) (by first | omega | (rw [mg_add_P]; omega)) (by first | omega | (rw [mg_add_B]; omega)) h36
                exact ⟨q, q1, q2.tr f38⟩
          · skip
            rw [ne_eq, i32_eq (by omega) (by omega)] at h3
            replace h3 := Decidable.not_not.mp h3
            refine wp_st 2 (f' := (52, [some (.ref (r)), some (.int (Int32.ofNat l)), some (.int (sb_i sg)), some (.int (Int32.ofNat (120 - (f + 1)))), some (.int (Int32.ofNat (sb_lk cs n a)))], [.int (sb_i sg), .ref (r)], A)) rfl ?_
            have hal := rd_apos_le (cs := cs) (n := n) (M := M) (dbl := dbl) (signs := sg) (a := a) (by omega)
            unfold rd_le at hal
            obtain ⟨A39, g40, h41, f42⟩ := mi_apos (d := d - 1) (sg := sg) (by omega) (by omega) (by omega) h
            have f43 := (mr_F.refl A t m).trans f42
            refine wp_cv (A' := A39) (v := none) rfl rfl rfl rfl rfl h.rc (by omega) (g40) rfl ?_
            show am_wp d 29 (55, [some (.ref (r)), some (.int (Int32.ofNat l)), some (.int (sb_i sg)), some (.int (Int32.ofNat (120 - (f + 1)))), some (.int (Int32.ofNat (sb_lk cs n a)))], [], A39) _
            refine wp_st 2 (f' := (117, [some (.ref (r)), some (.int (Int32.ofNat l)), some (.int (sb_i sg)), some (.int ((Int32.ofNat (120 - (f + 1))) + (Int32.ofNat 1))), some (.int (Int32.ofNat (sb_lk cs n a)))], [], A39)) rfl ?_
            rw [i32_add (120 - (f + 1)) (1)]
            refine wp_st 1 (f' := (2, [some (.ref (r)), some (.int (Int32.ofNat l)), some (.int (sb_i sg)), some (.int (Int32.ofNat (120 - (f + 1) + 1))), some (.int (Int32.ofNat (sb_lk cs n a)))], [], A39)) rfl ?_
            have hres : rd_loop cs n dbl inner top sg (f + 1) a M = rd_loop cs n dbl inner top sg f ((rd_apos cs n dbl sg a M).1) ((rd_apos cs n dbl sg a M).2) := by first | (exfalso; omega) | simp [rd_loop, htp, c1n, h2, h3]
            rw [hres, show 120 - (f + 1) + 1 = 120 - f by omega]
            obtain ⟨q, q1, q2⟩ := ih ((rd_apos cs n dbl sg a M).1) ((rd_apos cs n dbl sg a M).2) _ _ (by omega) (by omega) (by first | omega | (rw [mg_add_P]; omega)) (by first | omega | (rw [mg_add_B]; omega)) h41
            exact ⟨q, q1, q2.tr f43⟩
        · skip
          rw [ne_eq, i32_eq (by omega) (by omega)] at h2
          replace h2 := Decidable.not_not.mp h2
          refine wp_st 1 (f' := (38, [some (.ref (r)), some (.int (Int32.ofNat l)), some (.int (sb_i sg)), some (.int (Int32.ofNat (120 - (f + 1)))), some (.int (Int32.ofNat (sb_lk cs n a)))], [.int (Int32.ofNat l)], A)) rfl ?_
          refine wp_izT rfl rfl ((i32_le (a := l) (b := 0) (by omega) (by omega)).mpr (by omega)) ?_
          refine wp_st 2 (f' := (47, [some (.ref (r)), some (.int (Int32.ofNat l)), some (.int (sb_i sg)), some (.int (Int32.ofNat (120 - (f + 1)))), some (.int (Int32.ofNat (sb_lk cs n a)))], [.int (Int32.ofNat 39), .int (Int32.ofNat (sb_lk cs n a))], A)) rfl ?_
          refine wp_if rfl rfl rfl (fun (h44 : (Int32.ofNat (sb_lk cs n a)) ≠ (Int32.ofNat 39)) => ?_) (fun (h44 : ¬ ((Int32.ofNat (sb_lk cs n a)) ≠ (Int32.ofNat 39))) => ?_)
          · skip
            rw [ne_eq, i32_eq (by omega) (by omega)] at h44
            refine wp_st 1 (f' := (59, [some (.ref (r)), some (.int (Int32.ofNat l)), some (.int (sb_i sg)), some (.int (Int32.ofNat (120 - (f + 1)))), some (.int (Int32.ofNat (sb_lk cs n a)))], [.ref (r)], A)) rfl ?_
            refine wp_gf rfl rfl h.rc rfl rfl ?_
            refine wp_st 1 (f' := (63, [some (.ref (r)), some (.int (Int32.ofNat l)), some (.int (sb_i sg)), some (.int (Int32.ofNat (120 - (f + 1)))), some (.int (Int32.ofNat (sb_lk cs n a)))], [.ref (t), .ref (t)], A)) rfl ?_
            refine wp_gf rfl rfl h.tc rfl rfl ?_
            refine wp_st 2 (f' := (68, [some (.ref (r)), some (.int (Int32.ofNat l)), some (.int (sb_i sg)), some (.int (Int32.ofNat (120 - (f + 1)))), some (.int (Int32.ofNat (sb_lk cs n a)))], [.int ((Int32.ofNat a) + (Int32.ofNat 1)), .ref (t)], A)) rfl ?_
            rw [i32_add (a) (1)]
            obtain ⟨A45, e46⟩ : ∃ B, B = A.set t (sb_tc t n (a + 1) ((-1))) := ⟨_, rfl⟩
            have q47 := h.set (a' := a + 1) (f' := (-1)) (by omega)
            rw [← e46] at q47
            refine wp_pf (A' := A45) rfl rfl h.tc rfl rfl (decide_eq_true (by have := h.ge; omega)) rfl e46.symm ?_
            have h48 := q47.1
            have f49 := (mr_F.refl A t m).trans q47.2
            refine wp_st 2 (f' := (75, [some (.ref (r)), some (.int (Int32.ofNat l)), some (.int (sb_i sg)), some (.int (Int32.ofNat (120 - (f + 1)))), some (.int (Int32.ofNat (sb_lk cs n a)))], [.int (Int32.ofNat 123), .int (Int32.ofNat (sb_lk cs n a))], A45)) rfl ?_
            refine wp_if rfl rfl rfl (fun (h50 : (Int32.ofNat (sb_lk cs n a)) ≠ (Int32.ofNat 123)) => ?_) (fun (h50 : ¬ ((Int32.ofNat (sb_lk cs n a)) ≠ (Int32.ofNat 123))) => ?_)
            · skip
              rw [ne_eq, i32_eq (by omega) (by omega)] at h50
              refine wp_st 1 (f' := (89, [some (.ref (r)), some (.int (Int32.ofNat l)), some (.int (sb_i sg)), some (.int (Int32.ofNat (120 - (f + 1)))), some (.int (Int32.ofNat (sb_lk cs n a)))], [.ref (r)], A45)) rfl ?_
              refine wp_gf rfl rfl h48.rc rfl rfl ?_
              refine wp_st 2 (f' := (96, [some (.ref (r)), some (.int (Int32.ofNat l)), some (.int (sb_i sg)), some (.int (Int32.ofNat (120 - (f + 1)))), some (.int (Int32.ofNat (sb_lk cs n a)))], [.int (Int32.ofNat 35), .int (Int32.ofNat (sb_lk cs n a)), .ref (m)], A45)) rfl ?_
              refine wp_if rfl rfl rfl (fun (h51 : (Int32.ofNat (sb_lk cs n a)) ≠ (Int32.ofNat 35)) => ?_) (fun (h51 : ¬ ((Int32.ofNat (sb_lk cs n a)) ≠ (Int32.ofNat 35))) => ?_)
              · skip
                rw [ne_eq, i32_eq (by omega) (by omega)] at h51
                refine wp_st 2 (f' := (110, [some (.ref (r)), some (.int (Int32.ofNat l)), some (.int (sb_i sg)), some (.int (Int32.ofNat (120 - (f + 1)))), some (.int (Int32.ofNat (sb_lk cs n a)))], [.int (Int32.ofNat (sb_lk cs n a)), .int (Int32.ofNat 0), .ref (m)], A45)) rfl ?_
                obtain ⟨A52, g53, h54, f55⟩ := mi_add (d := d - 1) (k := 0) (x := Int32.ofNat (sb_lk cs n a)) (by omega) h48
                have f56 := f49.trans f55
                refine wp_cv (A' := A52) (v := some (.int (Int32.ofNat (mg_P M)))) rfl rfl rfl rfl rfl h48.mc (by omega) (g53) rfl ?_
                show am_wp d 29 (113, [some (.ref (r)), some (.int (Int32.ofNat l)), some (.int (sb_i sg)), some (.int (Int32.ofNat (120 - (f + 1)))), some (.int (Int32.ofNat (sb_lk cs n a)))], [.int (Int32.ofNat (mg_P M))], A52) _
                refine wp_st 2 (f' := (117, [some (.ref (r)), some (.int (Int32.ofNat l)), some (.int (sb_i sg)), some (.int ((Int32.ofNat (120 - (f + 1))) + (Int32.ofNat 1))), some (.int (Int32.ofNat (sb_lk cs n a)))], [], A52)) rfl ?_
                rw [i32_add (120 - (f + 1)) (1)]
                refine wp_st 1 (f' := (2, [some (.ref (r)), some (.int (Int32.ofNat l)), some (.int (sb_i sg)), some (.int (Int32.ofNat (120 - (f + 1) + 1))), some (.int (Int32.ofNat (sb_lk cs n a)))], [], A52)) rfl ?_
                have hres : rd_loop cs n dbl inner top sg (f + 1) a M = rd_loop cs n dbl inner top sg f (a + 1) (mg_add M 0 (Int32.ofNat (sb_lk cs n a))) := by first | (exfalso; omega) | simp [rd_loop, htp, c1n, h2, h44, h50, h51]
                rw [hres, show 120 - (f + 1) + 1 = 120 - f by omega]
                obtain ⟨q, q1, q2⟩ := ih (a + 1) (mg_add M 0 (Int32.ofNat (sb_lk cs n a))) _ _ (by omega) (by omega) (by first | omega | (rw [mg_add_P]; omega)) (by first | omega | (rw [mg_add_B]; omega)) h54
                exact ⟨q, q1, q2.tr f56⟩
              · skip
                rw [ne_eq, i32_eq (by omega) (by omega)] at h51
                replace h51 := Decidable.not_not.mp h51
                refine wp_st 1 (f' := (100, [some (.ref (r)), some (.int (Int32.ofNat l)), some (.int (sb_i sg)), some (.int (Int32.ofNat (120 - (f + 1)))), some (.int (Int32.ofNat (sb_lk cs n a)))], [.int (sb_i sg), .ref (m)], A45)) rfl ?_
                by_cases b57 : sg = true
                · skip
                  refine wp_izF rfl rfl (show ¬ (sb_i sg = 0) from by rw [b57]; decide) ?_
                  refine wp_st 3 (f' := (110, [some (.ref (r)), some (.int (Int32.ofNat l)), some (.int (sb_i sg)), some (.int (Int32.ofNat (120 - (f + 1)))), some (.int (Int32.ofNat (sb_lk cs n a)))], [.int (Int32.ofNat (sb_lk cs n a)), .int (Int32.ofNat 1), .ref (m)], A45)) rfl ?_
                  obtain ⟨A58, g59, h60, f61⟩ := mi_add (d := d - 1) (k := 1) (x := Int32.ofNat (sb_lk cs n a)) (by omega) h48
                  have f62 := f49.trans f61
                  refine wp_cv (A' := A58) (v := some (.int (Int32.ofNat (mg_P M)))) rfl rfl rfl rfl rfl h48.mc (by omega) (g59) rfl ?_
                  show am_wp d 29 (113, [some (.ref (r)), some (.int (Int32.ofNat l)), some (.int (sb_i sg)), some (.int (Int32.ofNat (120 - (f + 1)))), some (.int (Int32.ofNat (sb_lk cs n a)))], [.int (Int32.ofNat (mg_P M))], A58) _
                  refine wp_st 2 (f' := (117, [some (.ref (r)), some (.int (Int32.ofNat l)), some (.int (sb_i sg)), some (.int ((Int32.ofNat (120 - (f + 1))) + (Int32.ofNat 1))), some (.int (Int32.ofNat (sb_lk cs n a)))], [], A58)) rfl ?_
                  rw [i32_add (120 - (f + 1)) (1)]
                  refine wp_st 1 (f' := (2, [some (.ref (r)), some (.int (Int32.ofNat l)), some (.int (sb_i sg)), some (.int (Int32.ofNat (120 - (f + 1) + 1))), some (.int (Int32.ofNat (sb_lk cs n a)))], [], A58)) rfl ?_
                  have hres : rd_loop cs n dbl inner top sg (f + 1) a M = rd_loop cs n dbl inner top sg f (a + 1) (mg_add M 1 (Int32.ofNat (sb_lk cs n a))) := by first | (exfalso; omega) | simp [rd_loop, htp, c1n, h2, h44, h50, h51, b57]
                  rw [hres, show 120 - (f + 1) + 1 = 120 - f by omega]
                  obtain ⟨q, q1, q2⟩ := ih (a + 1) (mg_add M 1 (Int32.ofNat (sb_lk cs n a))) _ _ (by omega) (by omega) (by first | omega | (rw [mg_add_P]; omega)) (by first | omega | (rw [mg_add_B]; omega)) h60
                  exact ⟨q, q1, q2.tr f62⟩
                · skip
                  have b57f : sg = false := by simpa using b57
                  refine wp_izT rfl rfl (show sb_i sg = 0 from by rw [b57f]; decide) ?_
                  refine wp_st 2 (f' := (110, [some (.ref (r)), some (.int (Int32.ofNat l)), some (.int (sb_i sg)), some (.int (Int32.ofNat (120 - (f + 1)))), some (.int (Int32.ofNat (sb_lk cs n a)))], [.int (Int32.ofNat (sb_lk cs n a)), .int (Int32.ofNat 0), .ref (m)], A45)) rfl ?_
                  obtain ⟨A63, g64, h65, f66⟩ := mi_add (d := d - 1) (k := 0) (x := Int32.ofNat (sb_lk cs n a)) (by omega) h48
                  have f67 := f49.trans f66
                  refine wp_cv (A' := A63) (v := some (.int (Int32.ofNat (mg_P M)))) rfl rfl rfl rfl rfl h48.mc (by omega) (g64) rfl ?_
                  show am_wp d 29 (113, [some (.ref (r)), some (.int (Int32.ofNat l)), some (.int (sb_i sg)), some (.int (Int32.ofNat (120 - (f + 1)))), some (.int (Int32.ofNat (sb_lk cs n a)))], [.int (Int32.ofNat (mg_P M))], A63) _
                  refine wp_st 2 (f' := (117, [some (.ref (r)), some (.int (Int32.ofNat l)), some (.int (sb_i sg)), some (.int ((Int32.ofNat (120 - (f + 1))) + (Int32.ofNat 1))), some (.int (Int32.ofNat (sb_lk cs n a)))], [], A63)) rfl ?_
                  rw [i32_add (120 - (f + 1)) (1)]
                  refine wp_st 1 (f' := (2, [some (.ref (r)), some (.int (Int32.ofNat l)), some (.int (sb_i sg)), some (.int (Int32.ofNat (120 - (f + 1) + 1))), some (.int (Int32.ofNat (sb_lk cs n a)))], [], A63)) rfl ?_
                  have hres : rd_loop cs n dbl inner top sg (f + 1) a M = rd_loop cs n dbl inner top sg f (a + 1) (mg_add M 0 (Int32.ofNat (sb_lk cs n a))) := by first | (exfalso; omega) | simp [rd_loop, htp, c1n, h2, h44, h50, h51, b57]
                  rw [hres, show 120 - (f + 1) + 1 = 120 - f by omega]
                  obtain ⟨q, q1, q2⟩ := ih (a + 1) (mg_add M 0 (Int32.ofNat (sb_lk cs n a))) _ _ (by omega) (by omega) (by first | omega | (rw [mg_add_P]; omega)) (by first | omega | (rw [mg_add_B]; omega)) h65
                  exact ⟨q, q1, q2.tr f67⟩
            · skip
              rw [ne_eq, i32_eq (by omega) (by omega)] at h50
              replace h50 := Decidable.not_not.mp h50
              refine wp_st 2 (f' := (80, [some (.ref (r)), some (.int (Int32.ofNat l)), some (.int (sb_i sg)), some (.int (Int32.ofNat (120 - (f + 1)))), some (.int (Int32.ofNat (sb_lk cs n a)))], [.int (Int32.ofNat l), .ref (r)], A45)) rfl ?_
              rcases ha9 : rd_arg cs n inner (a + 1) M with e8 | ⟨a8, M8⟩
              · skip
                obtain ⟨a72, M73, A68, g69, h70, f71⟩ := mr_Q0 (mi_arg (d := d - 1) (D0 := D0) (l := l) (by omega) (by omega) (by omega) (by omega) (by omega) (by omega) hin hle h48) ha9
                have f74 := f49.trans f71
                refine wp_cv (A' := A68) (v := some (.int (Int32.ofNat 0))) rfl rfl rfl rfl rfl h48.rc (by omega) (g69) rfl ?_
                show am_wp d 29 (83, [some (.ref (r)), some (.int (Int32.ofNat l)), some (.int (sb_i sg)), some (.int (Int32.ofNat (120 - (f + 1)))), some (.int (Int32.ofNat (sb_lk cs n a)))], [.int (Int32.ofNat 0)], A68) _
                refine wp_izF rfl rfl (show ¬ ((Int32.ofNat 0) ≠ (Int32.ofNat 0)) from by decide) ?_
                refine wp_st 1 (f' := (87, [some (.ref (r)), some (.int (Int32.ofNat l)), some (.int (sb_i sg)), some (.int (Int32.ofNat (120 - (f + 1)))), some (.int (Int32.ofNat (sb_lk cs n a)))], [.int (Int32.ofNat 0)], A68)) rfl ?_
                refine wp_rt rfl rfl rfl ?_
                have hres : rd_loop cs n dbl inner top sg (f + 1) a M = .error (e8) := by first | (exfalso; omega) | simp [rd_loop, htp, c1n, h2, h44, h50, ha9]
                rw [hres]
                exact mr_Q_er h70 f74
              · skip
                have hal := rd_arg_le hle (by omega) ha9
                unfold rd_le at hal
                obtain ⟨A75, g76, h77, f78⟩ := mr_Q1 (mi_arg (d := d - 1) (D0 := D0) (l := l) (by omega) (by omega) (by omega) (by omega) (by omega) (by omega) hin hle h48) ha9
                have f79 := f49.trans f78
                refine wp_cv (A' := A75) (v := some (.int (Int32.ofNat 1))) rfl rfl rfl rfl rfl h48.rc (by omega) (g76) rfl ?_
                show am_wp d 29 (83, [some (.ref (r)), some (.int (Int32.ofNat l)), some (.int (sb_i sg)), some (.int (Int32.ofNat (120 - (f + 1)))), some (.int (Int32.ofNat (sb_lk cs n a)))], [.int (Int32.ofNat 1)], A75) _
                refine wp_izT rfl rfl (show (Int32.ofNat 1) ≠ (Int32.ofNat 0) from by decide) ?_
                refine wp_st 1 (f' := (117, [some (.ref (r)), some (.int (Int32.ofNat l)), some (.int (sb_i sg)), some (.int ((Int32.ofNat (120 - (f + 1))) + (Int32.ofNat 1))), some (.int (Int32.ofNat (sb_lk cs n a)))], [], A75)) rfl ?_
                rw [i32_add (120 - (f + 1)) (1)]
                refine wp_st 1 (f' := (2, [some (.ref (r)), some (.int (Int32.ofNat l)), some (.int (sb_i sg)), some (.int (Int32.ofNat (120 - (f + 1) + 1))), some (.int (Int32.ofNat (sb_lk cs n a)))], [], A75)) rfl ?_
                have hres : rd_loop cs n dbl inner top sg (f + 1) a M = rd_loop cs n dbl inner top sg f (a8) (M8) := by first | (exfalso; omega) | simp [rd_loop, htp, c1n, h2, h44, h50, ha9]
                rw [hres, show 120 - (f + 1) + 1 = 120 - f by omega]
                obtain ⟨q, q1, q2⟩ := ih (a8) (M8) _ _ (by omega) (by omega) (by first | omega | (rw [mg_add_P]; omega)) (by first | omega | (rw [mg_add_B]; omega)) h77
                exact ⟨q, q1, q2.tr f79⟩
          · skip
            rw [ne_eq, i32_eq (by omega) (by omega)] at h44
            replace h44 := Decidable.not_not.mp h44
            refine wp_st 2 (f' := (52, [some (.ref (r)), some (.int (Int32.ofNat l)), some (.int (sb_i sg)), some (.int (Int32.ofNat (120 - (f + 1)))), some (.int (Int32.ofNat (sb_lk cs n a)))], [.int (sb_i sg), .ref (r)], A)) rfl ?_
            have hal := rd_apos_le (cs := cs) (n := n) (M := M) (dbl := dbl) (signs := sg) (a := a) (by omega)
            unfold rd_le at hal
            obtain ⟨A80, g81, h82, f83⟩ := mi_apos (d := d - 1) (sg := sg) (by omega) (by omega) (by omega) h
            have f84 := (mr_F.refl A t m).trans f83
            refine wp_cv (A' := A80) (v := none) rfl rfl rfl rfl rfl h.rc (by omega) (g81) rfl ?_
            show am_wp d 29 (55, [some (.ref (r)), some (.int (Int32.ofNat l)), some (.int (sb_i sg)), some (.int (Int32.ofNat (120 - (f + 1)))), some (.int (Int32.ofNat (sb_lk cs n a)))], [], A80) _
            refine wp_st 2 (f' := (117, [some (.ref (r)), some (.int (Int32.ofNat l)), some (.int (sb_i sg)), some (.int ((Int32.ofNat (120 - (f + 1))) + (Int32.ofNat 1))), some (.int (Int32.ofNat (sb_lk cs n a)))], [], A80)) rfl ?_
            rw [i32_add (120 - (f + 1)) (1)]
            refine wp_st 1 (f' := (2, [some (.ref (r)), some (.int (Int32.ofNat l)), some (.int (sb_i sg)), some (.int (Int32.ofNat (120 - (f + 1) + 1))), some (.int (Int32.ofNat (sb_lk cs n a)))], [], A80)) rfl ?_
            have hres : rd_loop cs n dbl inner top sg (f + 1) a M = rd_loop cs n dbl inner top sg f ((rd_apos cs n dbl sg a M).1) ((rd_apos cs n dbl sg a M).2) := by first | (exfalso; omega) | simp [rd_loop, htp, c1n, h2, h44]
            rw [hres, show 120 - (f + 1) + 1 = 120 - f by omega]
            obtain ⟨q, q1, q2⟩ := ih ((rd_apos cs n dbl sg a M).1) ((rd_apos cs n dbl sg a M).2) _ _ (by omega) (by omega) (by first | omega | (rw [mg_add_P]; omega)) (by first | omega | (rw [mg_add_B]; omega)) h82
            exact ⟨q, q1, q2.tr f84⟩
      · skip
        have c1n : n ≤ a := by omega
        refine wp_cv (A' := A) (v := some (.int ((-1)))) rfl rfl rfl rfl rfl h.tc (by omega) (mi_chr0 c1 (by omega) h) rfl ?_
        show am_wp d 29 (22, [some (.ref (r)), some (.int (Int32.ofNat l)), some (.int (sb_i sg)), some (.int (Int32.ofNat (120 - (f + 1)))), b4], [.int ((-1))], A) _
        refine wp_st 3 (f' := (27, [some (.ref (r)), some (.int (Int32.ofNat l)), some (.int (sb_i sg)), some (.int (Int32.ofNat (120 - (f + 1)))), some (.int ((-1)))], [.int ((-1)), .int ((-1))], A)) rfl ?_
        refine wp_ifT rfl rfl (rfl) ?_
        refine wp_st 1 (f' := (42, [some (.ref (r)), some (.int (Int32.ofNat l)), some (.int (sb_i sg)), some (.int (Int32.ofNat (120 - (f + 1)))), some (.int ((-1)))], [.int (Int32.ofNat 1)], A)) rfl ?_
        refine wp_rt rfl rfl rfl ?_
        have hres : rd_loop cs n dbl inner top sg (f + 1) a M = .ok (a, M) := by first | (exfalso; omega) | simp [rd_loop, htp, c1n]
        rw [hres]
        exact mr_Q_ok h (mr_F.refl A t m)
    · skip
      refine wp_st 2 (f' := (5, [some (.ref (r)), some (.int (Int32.ofNat l)), some (.int (sb_i sg)), some (.int (Int32.ofNat (120 - (f + 1)))), b4], [.int (Int32.ofNat 120), .int (Int32.ofNat (120 - (f + 1)))], A)) rfl ?_
      refine wp_ifF rfl rfl (fun q => absurd ((i32_le (a := 120) (b := 120 - (f + 1)) (by omega) (by omega)).mp q) (by omega)) ?_
      refine wp_st 1 (f' := (9, [some (.ref (r)), some (.int (Int32.ofNat l)), some (.int (sb_i sg)), some (.int (Int32.ofNat (120 - (f + 1)))), b4], [.ref (r)], A)) rfl ?_
      refine wp_gf rfl rfl h.rc rfl rfl ?_
      refine wp_st 1 (f' := (13, [some (.ref (r)), some (.int (Int32.ofNat l)), some (.int (sb_i sg)), some (.int (Int32.ofNat (120 - (f + 1)))), b4], [.ref (r), .ref (t)], A)) rfl ?_
      refine wp_gf rfl rfl h.rc rfl rfl ?_
      refine wp_gf rfl rfl h.tc rfl rfl ?_
      by_cases c1 : a < n
      · skip
        have c1l := hlk (a)
        have c1n : ¬ n ≤ a := by omega
        refine wp_cv (A' := A) (v := some (.int (Int32.ofNat (sb_lk cs n a)))) rfl rfl rfl rfl rfl h.tc (by omega) (mi_chr1 c1 h) rfl ?_
        show am_wp d 29 (22, [some (.ref (r)), some (.int (Int32.ofNat l)), some (.int (sb_i sg)), some (.int (Int32.ofNat (120 - (f + 1)))), b4], [.int (Int32.ofNat (sb_lk cs n a))], A) _
        refine wp_st 3 (f' := (27, [some (.ref (r)), some (.int (Int32.ofNat l)), some (.int (sb_i sg)), some (.int (Int32.ofNat (120 - (f + 1)))), some (.int (Int32.ofNat (sb_lk cs n a)))], [.int ((-1)), .int (Int32.ofNat (sb_lk cs n a))], A)) rfl ?_
        refine wp_ifF rfl rfl (i32_neg1 (by omega)) ?_
        refine wp_st 2 (f' := (34, [some (.ref (r)), some (.int (Int32.ofNat l)), some (.int (sb_i sg)), some (.int (Int32.ofNat (120 - (f + 1)))), some (.int (Int32.ofNat (sb_lk cs n a)))], [.int (Int32.ofNat 125), .int (Int32.ofNat (sb_lk cs n a))], A)) rfl ?_
        refine wp_if rfl rfl rfl (fun (h2 : (Int32.ofNat (sb_lk cs n a)) ≠ (Int32.ofNat 125)) => ?_) (fun (h2 : ¬ ((Int32.ofNat (sb_lk cs n a)) ≠ (Int32.ofNat 125))) => ?_)
        · skip
          rw [ne_eq, i32_eq (by omega) (by omega)] at h2
          refine wp_st 2 (f' := (47, [some (.ref (r)), some (.int (Int32.ofNat l)), some (.int (sb_i sg)), some (.int (Int32.ofNat (120 - (f + 1)))), some (.int (Int32.ofNat (sb_lk cs n a)))], [.int (Int32.ofNat 39), .int (Int32.ofNat (sb_lk cs n a))], A)) rfl ?_
          refine wp_if rfl rfl rfl (fun (h3 : (Int32.ofNat (sb_lk cs n a)) ≠ (Int32.ofNat 39)) => ?_) (fun (h3 : ¬ ((Int32.ofNat (sb_lk cs n a)) ≠ (Int32.ofNat 39))) => ?_)
          · skip
            rw [ne_eq, i32_eq (by omega) (by omega)] at h3
            refine wp_st 1 (f' := (59, [some (.ref (r)), some (.int (Int32.ofNat l)), some (.int (sb_i sg)), some (.int (Int32.ofNat (120 - (f + 1)))), some (.int (Int32.ofNat (sb_lk cs n a)))], [.ref (r)], A)) rfl ?_
            refine wp_gf rfl rfl h.rc rfl rfl ?_
            refine wp_st 1 (f' := (63, [some (.ref (r)), some (.int (Int32.ofNat l)), some (.int (sb_i sg)), some (.int (Int32.ofNat (120 - (f + 1)))), some (.int (Int32.ofNat (sb_lk cs n a)))], [.ref (t), .ref (t)], A)) rfl ?_
            refine wp_gf rfl rfl h.tc rfl rfl ?_
            refine wp_st 2 (f' := (68, [some (.ref (r)), some (.int (Int32.ofNat l)), some (.int (sb_i sg)), some (.int (Int32.ofNat (120 - (f + 1)))), some (.int (Int32.ofNat (sb_lk cs n a)))], [.int ((Int32.ofNat a) + (Int32.ofNat 1)), .ref (t)], A)) rfl ?_
            rw [i32_add (a) (1)]
            obtain ⟨A4, e5⟩ : ∃ B, B = A.set t (sb_tc t n (a + 1) ((-1))) := ⟨_, rfl⟩
            have q6 := h.set (a' := a + 1) (f' := (-1)) (by omega)
            rw [← e5] at q6
            refine wp_pf (A' := A4) rfl rfl h.tc rfl rfl (decide_eq_true (by have := h.ge; omega)) rfl e5.symm ?_
            have h7 := q6.1
            have f8 := (mr_F.refl A t m).trans q6.2
            refine wp_st 2 (f' := (75, [some (.ref (r)), some (.int (Int32.ofNat l)), some (.int (sb_i sg)), some (.int (Int32.ofNat (120 - (f + 1)))), some (.int (Int32.ofNat (sb_lk cs n a)))], [.int (Int32.ofNat 123), .int (Int32.ofNat (sb_lk cs n a))], A4)) rfl ?_
            refine wp_if rfl rfl rfl (fun (h9 : (Int32.ofNat (sb_lk cs n a)) ≠ (Int32.ofNat 123)) => ?_) (fun (h9 : ¬ ((Int32.ofNat (sb_lk cs n a)) ≠ (Int32.ofNat 123))) => ?_)
            · skip
              rw [ne_eq, i32_eq (by omega) (by omega)] at h9
              refine wp_st 1 (f' := (89, [some (.ref (r)), some (.int (Int32.ofNat l)), some (.int (sb_i sg)), some (.int (Int32.ofNat (120 - (f + 1)))), some (.int (Int32.ofNat (sb_lk cs n a)))], [.ref (r)], A4)) rfl ?_
              refine wp_gf rfl rfl h7.rc rfl rfl ?_
              refine wp_st 2 (f' := (96, [some (.ref (r)), some (.int (Int32.ofNat l)), some (.int (sb_i sg)), some (.int (Int32.ofNat (120 - (f + 1)))), some (.int (Int32.ofNat (sb_lk cs n a)))], [.int (Int32.ofNat 35), .int (Int32.ofNat (sb_lk cs n a)), .ref (m)], A4)) rfl ?_
              refine wp_if rfl rfl rfl (fun (h10 : (Int32.ofNat (sb_lk cs n a)) ≠ (Int32.ofNat 35)) => ?_) (fun (h10 : ¬ ((Int32.ofNat (sb_lk cs n a)) ≠ (Int32.ofNat 35))) => ?_)
              · skip
                rw [ne_eq, i32_eq (by omega) (by omega)] at h10
                refine wp_st 2 (f' := (110, [some (.ref (r)), some (.int (Int32.ofNat l)), some (.int (sb_i sg)), some (.int (Int32.ofNat (120 - (f + 1)))), some (.int (Int32.ofNat (sb_lk cs n a)))], [.int (Int32.ofNat (sb_lk cs n a)), .int (Int32.ofNat 0), .ref (m)], A4)) rfl ?_
                obtain ⟨A11, g12, h13, f14⟩ := mi_add (d := d - 1) (k := 0) (x := Int32.ofNat (sb_lk cs n a)) (by omega) h7
                have f15 := f8.trans f14
                refine wp_cv (A' := A11) (v := some (.int (Int32.ofNat (mg_P M)))) rfl rfl rfl rfl rfl h7.mc (by omega) (g12) rfl ?_
                show am_wp d 29 (113, [some (.ref (r)), some (.int (Int32.ofNat l)), some (.int (sb_i sg)), some (.int (Int32.ofNat (120 - (f + 1)))), some (.int (Int32.ofNat (sb_lk cs n a)))], [.int (Int32.ofNat (mg_P M))], A11) _
                refine wp_st 2 (f' := (117, [some (.ref (r)), some (.int (Int32.ofNat l)), some (.int (sb_i sg)), some (.int ((Int32.ofNat (120 - (f + 1))) + (Int32.ofNat 1))), some (.int (Int32.ofNat (sb_lk cs n a)))], [], A11)) rfl ?_
                rw [i32_add (120 - (f + 1)) (1)]
                refine wp_st 1 (f' := (2, [some (.ref (r)), some (.int (Int32.ofNat l)), some (.int (sb_i sg)), some (.int (Int32.ofNat (120 - (f + 1) + 1))), some (.int (Int32.ofNat (sb_lk cs n a)))], [], A11)) rfl ?_
                have hres : rd_loop cs n dbl inner top sg (f + 1) a M = rd_loop cs n dbl inner top sg f (a + 1) (mg_add M 0 (Int32.ofNat (sb_lk cs n a))) := by first | (exfalso; omega) | simp [rd_loop, htp, c1n, h2, h3, h9, h10]
                rw [hres, show 120 - (f + 1) + 1 = 120 - f by omega]
                obtain ⟨q, q1, q2⟩ := ih (a + 1) (mg_add M 0 (Int32.ofNat (sb_lk cs n a))) _ _ (by omega) (by omega) (by first | omega | (rw [mg_add_P]; omega)) (by first | omega | (rw [mg_add_B]; omega)) h13
                exact ⟨q, q1, q2.tr f15⟩
              · skip
                rw [ne_eq, i32_eq (by omega) (by omega)] at h10
                replace h10 := Decidable.not_not.mp h10
                refine wp_st 1 (f' := (100, [some (.ref (r)), some (.int (Int32.ofNat l)), some (.int (sb_i sg)), some (.int (Int32.ofNat (120 - (f + 1)))), some (.int (Int32.ofNat (sb_lk cs n a)))], [.int (sb_i sg), .ref (m)], A4)) rfl ?_
                by_cases b16 : sg = true
                · skip
                  refine wp_izF rfl rfl (show ¬ (sb_i sg = 0) from by rw [b16]; decide) ?_
                  refine wp_st 3 (f' := (110, [some (.ref (r)), some (.int (Int32.ofNat l)), some (.int (sb_i sg)), some (.int (Int32.ofNat (120 - (f + 1)))), some (.int (Int32.ofNat (sb_lk cs n a)))], [.int (Int32.ofNat (sb_lk cs n a)), .int (Int32.ofNat 1), .ref (m)], A4)) rfl ?_
                  obtain ⟨A17, g18, h19, f20⟩ := mi_add (d := d - 1) (k := 1) (x := Int32.ofNat (sb_lk cs n a)) (by omega) h7
                  have f21 := f8.trans f20
                  refine wp_cv (A' := A17) (v := some (.int (Int32.ofNat (mg_P M)))) rfl rfl rfl rfl rfl h7.mc (by omega) (g18) rfl ?_
                  show am_wp d 29 (113, [some (.ref (r)), some (.int (Int32.ofNat l)), some (.int (sb_i sg)), some (.int (Int32.ofNat (120 - (f + 1)))), some (.int (Int32.ofNat (sb_lk cs n a)))], [.int (Int32.ofNat (mg_P M))], A17) _
                  refine wp_st 2 (f' := (117, [some (.ref (r)), some (.int (Int32.ofNat l)), some (.int (sb_i sg)), some (.int ((Int32.ofNat (120 - (f + 1))) + (Int32.ofNat 1))), some (.int (Int32.ofNat (sb_lk cs n a)))], [], A17)) rfl ?_
                  rw [i32_add (120 - (f + 1)) (1)]
                  refine wp_st 1 (f' := (2, [some (.ref (r)), some (.int (Int32.ofNat l)), some (.int (sb_i sg)), some (.int (Int32.ofNat (120 - (f + 1) + 1))), some (.int (Int32.ofNat (sb_lk cs n a)))], [], A17)) rfl ?_
                  have hres : rd_loop cs n dbl inner top sg (f + 1) a M = rd_loop cs n dbl inner top sg f (a + 1) (mg_add M 1 (Int32.ofNat (sb_lk cs n a))) := by first | (exfalso; omega) | simp [rd_loop, htp, c1n, h2, h3, h9, h10, b16]
                  rw [hres, show 120 - (f + 1) + 1 = 120 - f by omega]
                  obtain ⟨q, q1, q2⟩ := ih (a + 1) (mg_add M 1 (Int32.ofNat (sb_lk cs n a))) _ _ (by omega) (by omega) (by first | omega | (rw [mg_add_P]; omega)) (by first | omega | (rw [mg_add_B]; omega)) h19
                  exact ⟨q, q1, q2.tr f21⟩
                · skip
                  have b16f : sg = false := by simpa using b16
                  refine wp_izT rfl rfl (show sb_i sg = 0 from by rw [b16f]; decide) ?_
                  refine wp_st 2 (f' := (110, [some (.ref (r)), some (.int (Int32.ofNat l)), some (.int (sb_i sg)), some (.int (Int32.ofNat (120 - (f + 1)))), some (.int (Int32.ofNat (sb_lk cs n a)))], [.int (Int32.ofNat (sb_lk cs n a)), .int (Int32.ofNat 0), .ref (m)], A4)) rfl ?_
                  obtain ⟨A22, g23, h24, f25⟩ := mi_add (d := d - 1) (k := 0) (x := Int32.ofNat (sb_lk cs n a)) (by omega) h7
                  have f26 := f8.trans f25
                  refine wp_cv (A' := A22) (v := some (.int (Int32.ofNat (mg_P M)))) rfl rfl rfl rfl rfl h7.mc (by omega) (g23) rfl ?_
                  show am_wp d 29 (113, [some (.ref (r)), some (.int (Int32.ofNat l)), some (.int (sb_i sg)), some (.int (Int32.ofNat (120 - (f + 1)))), some (.int (Int32.ofNat (sb_lk cs n a)))], [.int (Int32.ofNat (mg_P M))], A22) _
                  refine wp_st 2 (f' := (117, [some (.ref (r)), some (.int (Int32.ofNat l)), some (.int (sb_i sg)), some (.int ((Int32.ofNat (120 - (f + 1))) + (Int32.ofNat 1))), some (.int (Int32.ofNat (sb_lk cs n a)))], [], A22)) rfl ?_
                  rw [i32_add (120 - (f + 1)) (1)]
                  refine wp_st 1 (f' := (2, [some (.ref (r)), some (.int (Int32.ofNat l)), some (.int (sb_i sg)), some (.int (Int32.ofNat (120 - (f + 1) + 1))), some (.int (Int32.ofNat (sb_lk cs n a)))], [], A22)) rfl ?_
                  have hres : rd_loop cs n dbl inner top sg (f + 1) a M = rd_loop cs n dbl inner top sg f (a + 1) (mg_add M 0 (Int32.ofNat (sb_lk cs n a))) := by first | (exfalso; omega) | simp [rd_loop, htp, c1n, h2, h3, h9, h10, b16]
                  rw [hres, show 120 - (f + 1) + 1 = 120 - f by omega]
                  obtain ⟨q, q1, q2⟩ := ih (a + 1) (mg_add M 0 (Int32.ofNat (sb_lk cs n a))) _ _ (by omega) (by omega) (by first | omega | (rw [mg_add_P]; omega)) (by first | omega | (rw [mg_add_B]; omega)) h24
                  exact ⟨q, q1, q2.tr f26⟩
            · skip
              rw [ne_eq, i32_eq (by omega) (by omega)] at h9
              replace h9 := Decidable.not_not.mp h9
              refine wp_st 2 (f' := (80, [some (.ref (r)), some (.int (Int32.ofNat l)), some (.int (sb_i sg)), some (.int (Int32.ofNat (120 - (f + 1)))), some (.int (Int32.ofNat (sb_lk cs n a)))], [.int (Int32.ofNat l), .ref (r)], A4)) rfl ?_
              rcases ha9 : rd_arg cs n inner (a + 1) M with e8 | ⟨a8, M8⟩
              · skip
                obtain ⟨a31, M32, A27, g28, h29, f30⟩ := mr_Q0 (mi_arg (d := d - 1) (D0 := D0) (l := l) (by omega) (by omega) (by omega) (by omega) (by omega) (by omega) hin hle h7) ha9
                have f33 := f8.trans f30
                refine wp_cv (A' := A27) (v := some (.int (Int32.ofNat 0))) rfl rfl rfl rfl rfl h7.rc (by omega) (g28) rfl ?_
                show am_wp d 29 (83, [some (.ref (r)), some (.int (Int32.ofNat l)), some (.int (sb_i sg)), some (.int (Int32.ofNat (120 - (f + 1)))), some (.int (Int32.ofNat (sb_lk cs n a)))], [.int (Int32.ofNat 0)], A27) _
                refine wp_izF rfl rfl (show ¬ ((Int32.ofNat 0) ≠ (Int32.ofNat 0)) from by decide) ?_
                refine wp_st 1 (f' := (87, [some (.ref (r)), some (.int (Int32.ofNat l)), some (.int (sb_i sg)), some (.int (Int32.ofNat (120 - (f + 1)))), some (.int (Int32.ofNat (sb_lk cs n a)))], [.int (Int32.ofNat 0)], A27)) rfl ?_
                refine wp_rt rfl rfl rfl ?_
                have hres : rd_loop cs n dbl inner top sg (f + 1) a M = .error (e8) := by first | (exfalso; omega) | simp [rd_loop, htp, c1n, h2, h3, h9, ha9]
                rw [hres]
                exact mr_Q_er h29 f33
              · skip
                have hal := rd_arg_le hle (by omega) ha9
                unfold rd_le at hal
                obtain ⟨A34, g35, h36, f37⟩ := mr_Q1 (mi_arg (d := d - 1) (D0 := D0) (l := l) (by omega) (by omega) (by omega) (by omega) (by omega) (by omega) hin hle h7) ha9
                have f38 := f8.trans f37
                refine wp_cv (A' := A34) (v := some (.int (Int32.ofNat 1))) rfl rfl rfl rfl rfl h7.rc (by omega) (g35) rfl ?_
                show am_wp d 29 (83, [some (.ref (r)), some (.int (Int32.ofNat l)), some (.int (sb_i sg)), some (.int (Int32.ofNat (120 - (f + 1)))), some (.int (Int32.ofNat (sb_lk cs n a)))], [.int (Int32.ofNat 1)], A34) _
                refine wp_izT rfl rfl (show (Int32.ofNat 1) ≠ (Int32.ofNat 0) from by decide) ?_
                refine wp_st 1 (f' := (117, [some (.ref (r)), some (.int (Int32.ofNat l)), some (.int (sb_i sg)), some (.int ((Int32.ofNat (120 - (f + 1))) + (Int32.ofNat 1))), some (.int (Int32.ofNat (sb_lk cs n a)))], [], A34)) rfl ?_
                rw [i32_add (120 - (f + 1)) (1)]
                refine wp_st 1 (f' := (2, [some (.ref (r)), some (.int (Int32.ofNat l)), some (.int (sb_i sg)), some (.int (Int32.ofNat (120 - (f + 1) + 1))), some (.int (Int32.ofNat (sb_lk cs n a)))], [], A34)) rfl ?_
                have hres : rd_loop cs n dbl inner top sg (f + 1) a M = rd_loop cs n dbl inner top sg f (a8) (M8) := by first | (exfalso; omega) | simp [rd_loop, htp, c1n, h2, h3, h9, ha9]
                rw [hres, show 120 - (f + 1) + 1 = 120 - f by omega]
                obtain ⟨q, q1, q2⟩ := ih (a8) (M8) _ _ (by omega) (by omega) (by first | omega | (rw [mg_add_P]; omega)) (by first | omega | (rw [mg_add_B]; omega)) h36
                exact ⟨q, q1, q2.tr f38⟩
          · skip
            rw [ne_eq, i32_eq (by omega) (by omega)] at h3
            replace h3 := Decidable.not_not.mp h3
            refine wp_st 2 (f' := (52, [some (.ref (r)), some (.int (Int32.ofNat l)), some (.int (sb_i sg)), some (.int (Int32.ofNat (120 - (f + 1)))), some (.int (Int32.ofNat (sb_lk cs n a)))], [.int (sb_i sg), .ref (r)], A)) rfl ?_
            have hal := rd_apos_le (cs := cs) (n := n) (M := M) (dbl := dbl) (signs := sg) (a := a) (by omega)
            unfold rd_le at hal
            obtain ⟨A39, g40, h41, f42⟩ := mi_apos (d := d - 1) (sg := sg) (by omega) (by omega) (by omega) h
            have f43 := (mr_F.refl A t m).trans f42
            refine wp_cv (A' := A39) (v := none) rfl rfl rfl rfl rfl h.rc (by omega) (g40) rfl ?_
            show am_wp d 29 (55, [some (.ref (r)), some (.int (Int32.ofNat l)), some (.int (sb_i sg)), some (.int (Int32.ofNat (120 - (f + 1)))), some (.int (Int32.ofNat (sb_lk cs n a)))], [], A39) _
            refine wp_st 2 (f' := (117, [some (.ref (r)), some (.int (Int32.ofNat l)), some (.int (sb_i sg)), some (.int ((Int32.ofNat (120 - (f + 1))) + (Int32.ofNat 1))), some (.int (Int32.ofNat (sb_lk cs n a)))], [], A39)) rfl ?_
            rw [i32_add (120 - (f + 1)) (1)]
            refine wp_st 1 (f' := (2, [some (.ref (r)), some (.int (Int32.ofNat l)), some (.int (sb_i sg)), some (.int (Int32.ofNat (120 - (f + 1) + 1))), some (.int (Int32.ofNat (sb_lk cs n a)))], [], A39)) rfl ?_
            have hres : rd_loop cs n dbl inner top sg (f + 1) a M = rd_loop cs n dbl inner top sg f ((rd_apos cs n dbl sg a M).1) ((rd_apos cs n dbl sg a M).2) := by first | (exfalso; omega) | simp [rd_loop, htp, c1n, h2, h3]
            rw [hres, show 120 - (f + 1) + 1 = 120 - f by omega]
            obtain ⟨q, q1, q2⟩ := ih ((rd_apos cs n dbl sg a M).1) ((rd_apos cs n dbl sg a M).2) _ _ (by omega) (by omega) (by first | omega | (rw [mg_add_P]; omega)) (by first | omega | (rw [mg_add_B]; omega)) h41
            exact ⟨q, q1, q2.tr f43⟩
        · skip
          rw [ne_eq, i32_eq (by omega) (by omega)] at h2
          replace h2 := Decidable.not_not.mp h2
          refine wp_st 1 (f' := (38, [some (.ref (r)), some (.int (Int32.ofNat l)), some (.int (sb_i sg)), some (.int (Int32.ofNat (120 - (f + 1)))), some (.int (Int32.ofNat (sb_lk cs n a)))], [.int (Int32.ofNat l)], A)) rfl ?_
          refine wp_izF rfl rfl (fun q => absurd ((i32_le (a := l) (b := 0) (by omega) (by omega)).mp q) (by omega)) ?_
          refine wp_st 1 (f' := (42, [some (.ref (r)), some (.int (Int32.ofNat l)), some (.int (sb_i sg)), some (.int (Int32.ofNat (120 - (f + 1)))), some (.int (Int32.ofNat (sb_lk cs n a)))], [.int (Int32.ofNat 1)], A)) rfl ?_
          refine wp_rt rfl rfl rfl ?_
          have hres : rd_loop cs n dbl inner top sg (f + 1) a M = .ok (a, M) := by first | (exfalso; omega) | simp [rd_loop, htp, c1n, h2]
          rw [hres]
          exact mr_Q_ok h (mr_F.refl A t m)
      · skip
        have c1n : n ≤ a := by omega
        refine wp_cv (A' := A) (v := some (.int ((-1)))) rfl rfl rfl rfl rfl h.tc (by omega) (mi_chr0 c1 (by omega) h) rfl ?_
        show am_wp d 29 (22, [some (.ref (r)), some (.int (Int32.ofNat l)), some (.int (sb_i sg)), some (.int (Int32.ofNat (120 - (f + 1)))), b4], [.int ((-1))], A) _
        refine wp_st 3 (f' := (27, [some (.ref (r)), some (.int (Int32.ofNat l)), some (.int (sb_i sg)), some (.int (Int32.ofNat (120 - (f + 1)))), some (.int ((-1)))], [.int ((-1)), .int ((-1))], A)) rfl ?_
        refine wp_ifT rfl rfl (rfl) ?_
        refine wp_st 1 (f' := (42, [some (.ref (r)), some (.int (Int32.ofNat l)), some (.int (sb_i sg)), some (.int (Int32.ofNat (120 - (f + 1)))), some (.int ((-1)))], [.int (Int32.ofNat 1)], A)) rfl ?_
        refine wp_rt rfl rfl rfl ?_
        have hres : rd_loop cs n dbl inner top sg (f + 1) a M = .ok (a, M) := by first | (exfalso; omega) | simp [rd_loop, htp, c1n]
        rw [hres]
        exact mr_Q_ok h (mr_F.refl A t m)
theorem mi_msg1 {d D0 l r t m n : Nat} {cs : List Nat} {dbl z : Bool} {inner : Option (Bool → Nat → mg → rd_R)} {a : Nat} {M : mg} {A : am_H} {top sg : Bool} (hd : 9 ≤ d) (hd0 : D0 + 4 ≤ d) (hl : l ≤ 3) (htop : (top = true ∧ l = 0) ∨ (top = false ∧ 0 < l)) (han : a ≤ n) (hp : mg_P M ≤ a) (hb : 3 * mg_B M ≤ a + 1) (hin : mr_in D0 l r t m cs n dbl z inner) (hle : rd_inn n inner) (h : mr_I A r t m cs n a (-1) dbl M z)  : am_wp d 29 (0, am_ent 29 [.ref r, .int (Int32.ofNat l), .int (sb_i sg)], [], A) (mr_Q A r t m cs n dbl z (rd_loop cs n dbl inner top sg 120 a M)) := by
  refine wp_st 2 (f' := (2, [some (.ref (r)), some (.int (Int32.ofNat l)), some (.int (sb_i sg)), some (.int (Int32.ofNat 0)), none], [], A)) rfl ?_
  exact mi_msg_l hd hd0 hl htop hin hle 120 a M A none (by omega) han hp hb h
theorem mi_msg {r t m n : Nat} {cs : List Nat} {dbl z : Bool} : ∀ (D l : Nat) (top : Bool), l + D = 3 → ((top = true ∧ l = 0) ∨ (top = false ∧ 0 < l)) → ∀ (d a : Nat) (sg : Bool) (M : mg) (A : am_H), 9 + 4 * D ≤ d → a ≤ n → mg_P M ≤ a → 3 * mg_B M ≤ a + 1 → mr_I A r t m cs n a (-1) dbl M z → am_wp d 29 (0, am_ent 29 [.ref r, .int (Int32.ofNat l), .int (sb_i sg)], [], A) (mr_Q A r t m cs n dbl z (rd_msg cs n dbl D top sg a M))
  | 0, l, top, hl, ht, d, a, sg, M, A, hd, han, hp, hb, h => mi_msg1 (D0 := 0) (inner := none) (by omega) (by omega) (by omega) ht han hp hb ⟨fun _ => (by omega), fun f hf => (by cases hf)⟩ (fun f hf => (by cases hf)) h
  | D + 1, l, top, hl, ht, d, a, sg, M, A, hd, han, hp, hb, h => mi_msg1 (D0 := 9 + 4 * D) (inner := some (rd_msg cs n dbl D false)) (by omega) (by omega) (by omega) ht han hp hb ⟨fun q => (by cases q), fun f hf => (by cases hf; exact ⟨by omega, fun d a sg M A h1 h2 h3 h4 h5 => mi_msg D (l + 1) false (by omega) (Or.inr ⟨rfl, by omega⟩) d a sg M A h1 h2 h3 h4 h5⟩)⟩ (fun f hf sg a M a' M' q1 q2 => by cases hf; exact rd_msg_le D false sg a M a' M' q1 q2) h
