/-! The reference draws: characters, numbers, words, hexadecimal numbers, names. -/
theorem rw_put {d b : Nat} {s : rf_S} {X : Option (List Nat)} {A : am_H} {c : Nat} (hx : rf_wx s X) (h : rf A b s) : rf_wg d 175 [.ref b, .int (Int32.ofNat c)] A b s X [c] := by
  refine wp_goW ?_
  cases X with
  | none =>
    have hc : s 0 0 = .int (Int32.ofNat 4) := hx
    refine wp_st 1 (f' := (1, [some (.ref (b)), some (.int (Int32.ofNat c))], [.ref (b)], A)) rfl ?_
    refine rw_gf (v := .int (Int32.ofNat 4)) h rfl rfl rfl rfl (hc) rfl ?_
    refine wp_izF rfl rfl (show ¬ ((Int32.ofNat 4) ≤ (Int32.ofNat 0)) from by decide) ?_
    refine wp_rt rfl rfl rfl ?_
    exact ⟨rfl, s, h, hx, rf_wk.refl s, sb_fr.refl A b (b + 38)⟩
  | some w =>
    have hw : rf_dw s w := hx
    have hwl := hw.2.1
    refine wp_st 1 (f' := (1, [some (.ref (b)), some (.int (Int32.ofNat c))], [.ref (b)], A)) rfl ?_
    refine rw_gf (v := .int (Int32.ofNat 0)) h rfl rfl rfl rfl (hw.2.2.2) rfl ?_
    refine wp_izT rfl rfl (show (Int32.ofNat 0) ≤ (Int32.ofNat 0) from by decide) ?_
    refine wp_st 1 (f' := (9, [some (.ref (b)), some (.int (Int32.ofNat c))], [.ref (b)], A)) rfl ?_
    refine rw_gf (v := .int (Int32.ofNat (w.length))) h rfl rfl rfl rfl (hw.1) rfl ?_
    refine wp_st 1 (f' := (15, [some (.ref (b)), some (.int (Int32.ofNat c))], [.int (Int32.ofNat 160), .int (Int32.ofNat (w.length))], A)) rfl ?_
    refine wp_if rfl rfl rfl (fun (h1 : (Int32.ofNat (w.length)) ≠ (Int32.ofNat 160)) => ?_) (fun (h1 : ¬ ((Int32.ofNat (w.length)) ≠ (Int32.ofNat 160))) => ?_)
    · skip
      rw [ne_eq, i32_eq (by omega) (by omega)] at h1
      refine wp_st 1 (f' := (25, [some (.ref (b)), some (.int (Int32.ofNat c))], [.ref (b)], A)) rfl ?_
      refine rw_gr h rfl rfl rfl rfl rfl rfl ?_
      refine wp_st 1 (f' := (29, [some (.ref (b)), some (.int (Int32.ofNat c))], [.ref (b), .ref (b + 33)], A)) rfl ?_
      refine rw_gf (v := .int (Int32.ofNat (w.length))) h rfl rfl rfl rfl (hw.1) rfl ?_
      refine wp_st 1 (f' := (33, [some (.ref (b)), some (.int (Int32.ofNat c))], [.int (Int32.ofNat c), .int (Int32.ofNat (w.length)), .ref (b + 33)], A)) rfl ?_
      refine rw_as (j := 47) (n := w.length) (v := .int (Int32.ofNat c)) h rfl rfl rfl (Or.inl ⟨rfl, rfl, rfl⟩) (show _ < 160 from by omega) rfl rfl (fun A2 h3 f4 => ?_)
      have f5 := (sb_fr.refl A b (b + 38)).trans f4
      refine wp_st 2 (f' := (36, [some (.ref (b)), some (.int (Int32.ofNat c))], [.ref (b), .ref (b)], A2)) rfl ?_
      refine rw_gf (v := .int (Int32.ofNat (w.length))) h3 rfl rfl rfl rfl (hw.1) rfl ?_
      refine wp_st 2 (f' := (41, [some (.ref (b)), some (.int (Int32.ofNat c))], [.int ((Int32.ofNat (w.length)) + (Int32.ofNat 1)), .ref (b)], A2)) rfl ?_
      rw [i32_add (w.length) (1)]
      refine rw_pf (v := .int (Int32.ofNat (w.length + 1))) h3 rfl rfl rfl rfl rfl rfl (fun A6 h7 f8 => ?_)
      have f9 := f5.trans f8
      refine wp_rt rfl rfl rfl ?_
      exact ⟨rfl, _, h7, (by unfold wx_app; dsimp only; rw [if_pos (by simp; omega)]; exact hw.put (by omega)), (fun j i q1 q2 q3 => (rf_u_ne (Or.inl q3)).trans (rf_u_ne (Or.inl q2))), f9⟩
    · skip
      rw [ne_eq, i32_eq (by omega) (by omega)] at h1
      replace h1 := Decidable.not_not.mp h1
      refine wp_st 2 (f' := (20, [some (.ref (b)), some (.int (Int32.ofNat c))], [.int (Int32.ofNat 4), .ref (b)], A)) rfl ?_
      refine rw_pf (v := .int (Int32.ofNat 4)) h rfl rfl rfl rfl rfl rfl (fun A10 h11 f12 => ?_)
      have f13 := (sb_fr.refl A b (b + 38)).trans f12
      refine wp_rt rfl rfl rfl ?_
      exact ⟨rfl, _, h11, (by unfold wx_app; dsimp only; rw [if_neg (by simp; omega)]; rfl), (fun j i q1 q2 q3 => rf_u_ne (Or.inl q1)), f13⟩
theorem rw_dA {d b v W : Nat} {y1 : Int64} {z3 z9 : Int32} {g : Bool} {Q : am_O × am_H → Prop} (hd : 1 ≤ d) (hW : W < 9223372036854775808) : ∀ (q : Nat) (s : rf_S) (X : Option (List Nat)) (A : am_H), q ≤ 18 → rf_wx s X → rf A b s → (∀ (B : am_H) (t : rf_S), rf B b t → rf_wx t (wx_app X (sb_ds W g q)) → rf_wk s t → sb_fr A B b (b + 38) → am_wp d 177 (123, [some (.ref b), some (.long y1), none, some (.int z3), some (.int (sb_i g)), some (.long (Int64.ofNat v)), none, some (.long (Int64.ofNat W)), none, some (.int z9), some (.int (sb_k1 0))], [], B) Q) → am_wp d 177 (68, [some (.ref b), some (.long y1), none, some (.int z3), some (.int (sb_i g)), some (.long (Int64.ofNat v)), none, some (.long (Int64.ofNat W)), none, some (.int z9), some (.int (sb_k1 q))], [], A) Q := by
  intro q
  induction q with
  | zero =>
    intro s X A hq hx h kk
    have k9 := kk A s h (by rw [sb_ds, wx_app_nil hx]; exact hx) (rf_wk.refl s) (sb_fr.refl A b (b + 38))
    refine wp_st 1 (f' := (70, [some (.ref (b)), some (.long (y1)), none, some (.int (z3)), some (.int (sb_i g)), some (.long (Int64.ofNat v)), none, some (.long (Int64.ofNat W)), none, some (.int (z9)), some (.int (sb_k1 0))], [.int (sb_k1 0)], A)) rfl ?_
    refine wp_izT rfl rfl (sb_k1_z) ?_
    exact k9
  | succ q ih =>
    intro s X A hq hx h kk
    have hp := sb_p10 (j := q) (by omega)
    have hdl : W / 10 ^ q ≤ W := Nat.div_le_self _ _
    rw [sb_k1_s]
    refine wp_st 1 (f' := (70, [some (.ref (b)), some (.long (y1)), none, some (.int (z3)), some (.int (sb_i g)), some (.long (Int64.ofNat v)), none, some (.long (Int64.ofNat W)), none, some (.int (z9)), some (.int (Int32.ofNat q))], [.int (Int32.ofNat q)], A)) rfl ?_
    refine wp_izF rfl rfl (Int32.ofNat_not_neg (by omega)) ?_
    refine wp_st 4 (f' := (81, [some (.ref (b)), some (.long (y1)), none, some (.int (z3)), some (.int (sb_i g)), some (.long (Int64.ofNat v)), none, some (.long (Int64.ofNat W)), none, some (.int (z9)), some (.int (Int32.ofNat q))], [.int (Int32.ofNat q), .long (Int64.ofNat W), .long ((48)), .ref (b)], A)) rfl ?_
    refine wp_cs (n := 0) (A' := A) (v := some (.long (Int64.ofNat (10 ^ q)))) rfl rfl rfl (by omega) (rn_ten (by omega)) rfl ?_
    show am_wp d 177 (84, [some (.ref (b)), some (.long (y1)), none, some (.int (z3)), some (.int (sb_i g)), some (.long (Int64.ofNat v)), none, some (.long (Int64.ofNat W)), none, some (.int (z9)), some (.int (Int32.ofNat q))], [.long (Int64.ofNat (10 ^ q)), .long (Int64.ofNat W), .long ((48)), .ref (b)], A) _
    refine wp_dv rfl (fun z => absurd ((i64_eq (a := 10 ^ q) (b := 0) (by omega) (by omega)).mp z) (by omega)) rfl ?_
    rw [i64_div (by omega) (by omega)]
    refine wp_st 1 (f' := (88, [some (.ref (b)), some (.long (y1)), none, some (.int (z3)), some (.int (sb_i g)), some (.long (Int64.ofNat v)), none, some (.long (Int64.ofNat W)), none, some (.int (z9)), some (.int (Int32.ofNat q))], [.long ((10)), .long (Int64.ofNat (W / 10 ^ q)), .long ((48)), .ref (b)], A)) rfl ?_
    refine wp_lr rfl (by decide) rfl ?_
    rw [show Int64.ofNat (W / 10 ^ q) - Int64.ofNat (W / 10 ^ q) / (10) * (10) = Int64.ofNat (W / 10 ^ q % 10) from i64_rem (b := 10) (by omega) (by omega)]
    refine wp_st 1 (f' := (90, [some (.ref (b)), some (.long (y1)), none, some (.int (z3)), some (.int (sb_i g)), some (.long (Int64.ofNat v)), none, some (.long (Int64.ofNat W)), none, some (.int (z9)), some (.int (Int32.ofNat q))], [.long ((48) + (Int64.ofNat (W / 10 ^ q % 10))), .ref (b)], A)) rfl ?_
    rw [show (48) + Int64.ofNat (W / 10 ^ q % 10) = Int64.ofNat (W / 10 ^ q % 10 + 48) from by rw [Nat.add_comm, Int64.ofNat_add]; rfl]
    refine wp_st 1 (f' := (91, [some (.ref (b)), some (.long (y1)), none, some (.int (z3)), some (.int (sb_i g)), some (.long (Int64.ofNat v)), none, some (.long (Int64.ofNat W)), none, some (.int (z9)), some (.int (Int32.ofNat q))], [.int ((Int64.ofNat (W / 10 ^ q % 10 + 48)).toInt32), .ref (b)], A)) rfl ?_
    rw [i64_i32]
    obtain ⟨A1, t2, g3, h4, x5, k6, f7⟩ := rw_put (d := d - 1) (c := W / 10 ^ q % 10 + 48) hx h
    have f8 := (sb_fr.refl A b (b + 38)).trans f7
    have k9 := (rf_wk.refl s).trans k6
    refine wp_cv (A' := A1) (v := none) rfl rfl rfl rfl rfl (show _ from h.1) (by omega) (g3) rfl ?_
    show am_wp d 177 (94, [some (.ref (b)), some (.long (y1)), none, some (.int (z3)), some (.int (sb_i g)), some (.long (Int64.ofNat v)), none, some (.long (Int64.ofNat W)), none, some (.int (z9)), some (.int (Int32.ofNat q))], [], A1) _
    refine wp_st 1 (f' := (96, [some (.ref (b)), some (.long (y1)), none, some (.int (z3)), some (.int (sb_i g)), some (.long (Int64.ofNat v)), none, some (.long (Int64.ofNat W)), none, some (.int (z9)), some (.int (Int32.ofNat q))], [.int (sb_i g)], A1)) rfl ?_
    by_cases b10 : g = true
    · skip
      refine wp_izF rfl rfl (show ¬ (sb_i g = 0) from by rw [b10]; decide) ?_
      refine wp_st 1 (f' := (101, [some (.ref (b)), some (.long (y1)), none, some (.int (z3)), some (.int (sb_i g)), some (.long (Int64.ofNat v)), none, some (.long (Int64.ofNat W)), none, some (.int (z9)), some (.int (Int32.ofNat q))], [.int (Int32.ofNat q)], A1)) rfl ?_
      refine wp_iz rfl rfl rfl (fun (h11 : (Int32.ofNat q) ≤ (Int32.ofNat 0)) => ?_) (fun (h11 : ¬ ((Int32.ofNat q) ≤ (Int32.ofNat 0))) => ?_)
      · skip
        rw [i32_le (by omega) (by omega)] at h11
        refine wp_st 2 (f' := (68, [some (.ref (b)), some (.long (y1)), none, some (.int (z3)), some (.int (sb_i g)), some (.long (Int64.ofNat v)), none, some (.long (Int64.ofNat W)), none, some (.int (z9)), some (.int ((Int32.ofNat q) + (-1)))], [], A1)) rfl ?_
        rw [show Int32.ofNat q + (-1) = sb_k1 q from rfl]
        refine ih _ _ _ (by omega) x5 h4 (fun B t r1 r2 r3 r4 => kk B t r1 ?_ (k9.trans r3) (f8.trans r4))
        have ed : sb_ds W g (q + 1) = (W / 10 ^ q % 10 + 48) :: sb_ds W g q := by
          rw [sb_ds, if_neg]
          exact fun e => by omega
        rw [ed]
        simp only [wx_app2, List.cons_append, List.nil_append] at r2
        exact r2
      · skip
        rw [i32_le (by omega) (by omega)] at h11
        refine wp_st 3 (f' := (108, [some (.ref (b)), some (.long (y1)), none, some (.int (z3)), some (.int (sb_i g)), some (.long (Int64.ofNat v)), none, some (.long (Int64.ofNat W)), none, some (.int (z9)), some (.int (Int32.ofNat q))], [.int ((Int32.ofNat q) - (Int32.ofNat q) / (Int32.ofNat 3) * (Int32.ofNat 3))], A1)) rfl ?_
        rw [i32_rem3 (by omega)]
        refine wp_iz rfl rfl rfl (fun (h12 : (Int32.ofNat (q % 3)) ≠ (Int32.ofNat 0)) => ?_) (fun (h12 : ¬ ((Int32.ofNat (q % 3)) ≠ (Int32.ofNat 0))) => ?_)
        · skip
          rw [ne_eq, i32_eq (by omega) (by omega)] at h12
          refine wp_st 2 (f' := (68, [some (.ref (b)), some (.long (y1)), none, some (.int (z3)), some (.int (sb_i g)), some (.long (Int64.ofNat v)), none, some (.long (Int64.ofNat W)), none, some (.int (z9)), some (.int ((Int32.ofNat q) + (-1)))], [], A1)) rfl ?_
          rw [show Int32.ofNat q + (-1) = sb_k1 q from rfl]
          refine ih _ _ _ (by omega) x5 h4 (fun B t r1 r2 r3 r4 => kk B t r1 ?_ (k9.trans r3) (f8.trans r4))
          have ed : sb_ds W g (q + 1) = (W / 10 ^ q % 10 + 48) :: sb_ds W g q := by
            rw [sb_ds, if_neg]
            exact fun e => by omega
          rw [ed]
          simp only [wx_app2, List.cons_append, List.nil_append] at r2
          exact r2
        · skip
          rw [ne_eq, i32_eq (by omega) (by omega)] at h12
          replace h12 := Decidable.not_not.mp h12
          refine wp_st 2 (f' := (114, [some (.ref (b)), some (.long (y1)), none, some (.int (z3)), some (.int (sb_i g)), some (.long (Int64.ofNat v)), none, some (.long (Int64.ofNat W)), none, some (.int (z9)), some (.int (Int32.ofNat q))], [.int (Int32.ofNat 44), .ref (b)], A1)) rfl ?_
          obtain ⟨A13, t14, g15, h16, x17, k18, f19⟩ := rw_put (d := d - 1) (c := 44) x5 h4
          have f20 := f8.trans f19
          have k21 := k9.trans k18
          refine wp_cv (A' := A13) (v := none) rfl rfl rfl rfl rfl (show _ from h4.1) (by omega) (g15) rfl ?_
          show am_wp d 177 (117, [some (.ref (b)), some (.long (y1)), none, some (.int (z3)), some (.int (sb_i g)), some (.long (Int64.ofNat v)), none, some (.long (Int64.ofNat W)), none, some (.int (z9)), some (.int (Int32.ofNat q))], [], A13) _
          refine wp_st 2 (f' := (68, [some (.ref (b)), some (.long (y1)), none, some (.int (z3)), some (.int (sb_i g)), some (.long (Int64.ofNat v)), none, some (.long (Int64.ofNat W)), none, some (.int (z9)), some (.int ((Int32.ofNat q) + (-1)))], [], A13)) rfl ?_
          rw [show Int32.ofNat q + (-1) = sb_k1 q from rfl]
          refine ih _ _ _ (by omega) x17 h16 (fun B t r1 r2 r3 r4 => kk B t r1 ?_ (k21.trans r3) (f20.trans r4))
          have ed : sb_ds W g (q + 1) = (W / 10 ^ q % 10 + 48) :: 44 :: sb_ds W g q := by
            rw [sb_ds, if_pos ⟨b10, by omega, by omega⟩]
          rw [ed]
          simp only [wx_app2, List.cons_append, List.nil_append] at r2
          exact r2
    · skip
      have b10f : g = false := by simpa using b10
      refine wp_izT rfl rfl (show sb_i g = 0 from by rw [b10f]; decide) ?_
      refine wp_st 2 (f' := (68, [some (.ref (b)), some (.long (y1)), none, some (.int (z3)), some (.int (sb_i g)), some (.long (Int64.ofNat v)), none, some (.long (Int64.ofNat W)), none, some (.int (z9)), some (.int ((Int32.ofNat q) + (-1)))], [], A1)) rfl ?_
      rw [show Int32.ofNat q + (-1) = sb_k1 q from rfl]
      refine ih _ _ _ (by omega) x5 h4 (fun B t r1 r2 r3 r4 => kk B t r1 ?_ (k9.trans r3) (f8.trans r4))
      have ed : sb_ds W g (q + 1) = (W / 10 ^ q % 10 + 48) :: sb_ds W g q := by
        rw [sb_ds, if_neg]
        simp [b10f]
      rw [ed]
      simp only [wx_app2, List.cons_append, List.nil_append] at r2
      exact r2
theorem rw_dB {d b v W : Nat} {y1 : Int64} {z3 z9 : Int32} {g : Bool} {Q : am_O × am_H → Prop} (hd : 1 ≤ d) (hW : v < 9223372036854775808) : ∀ (q : Nat) (s : rf_S) (X : Option (List Nat)) (A : am_H), q ≤ 18 → rf_wx s X → rf A b s → (∀ (B : am_H) (t : rf_S), rf B b t → rf_wx t (wx_app X (sb_ds v false q)) → rf_wk s t → sb_fr A B b (b + 38) → am_wp d 177 (170, [some (.ref b), some (.long y1), none, some (.int z3), some (.int (sb_i g)), some (.long (Int64.ofNat v)), none, some (.long (Int64.ofNat W)), none, some (.int z9), some (.int (sb_k1 0))], [], B) Q) → am_wp d 177 (138, [some (.ref b), some (.long y1), none, some (.int z3), some (.int (sb_i g)), some (.long (Int64.ofNat v)), none, some (.long (Int64.ofNat W)), none, some (.int z9), some (.int (sb_k1 q))], [], A) Q := by
  intro q
  induction q with
  | zero =>
    intro s X A hq hx h kk
    have k9 := kk A s h (by rw [sb_ds, wx_app_nil hx]; exact hx) (rf_wk.refl s) (sb_fr.refl A b (b + 38))
    refine wp_st 1 (f' := (140, [some (.ref (b)), some (.long (y1)), none, some (.int (z3)), some (.int (sb_i g)), some (.long (Int64.ofNat v)), none, some (.long (Int64.ofNat W)), none, some (.int (z9)), some (.int (sb_k1 0))], [.int (sb_k1 0)], A)) rfl ?_
    refine wp_izT rfl rfl (sb_k1_z) ?_
    exact k9
  | succ q ih =>
    intro s X A hq hx h kk
    have hp := sb_p10 (j := q) (by omega)
    have hdl : v / 10 ^ q ≤ v := Nat.div_le_self _ _
    rw [sb_k1_s]
    refine wp_st 1 (f' := (140, [some (.ref (b)), some (.long (y1)), none, some (.int (z3)), some (.int (sb_i g)), some (.long (Int64.ofNat v)), none, some (.long (Int64.ofNat W)), none, some (.int (z9)), some (.int (Int32.ofNat q))], [.int (Int32.ofNat q)], A)) rfl ?_
    refine wp_izF rfl rfl (Int32.ofNat_not_neg (by omega)) ?_
    refine wp_st 4 (f' := (151, [some (.ref (b)), some (.long (y1)), none, some (.int (z3)), some (.int (sb_i g)), some (.long (Int64.ofNat v)), none, some (.long (Int64.ofNat W)), none, some (.int (z9)), some (.int (Int32.ofNat q))], [.int (Int32.ofNat q), .long (Int64.ofNat v), .long ((48)), .ref (b)], A)) rfl ?_
    refine wp_cs (n := 0) (A' := A) (v := some (.long (Int64.ofNat (10 ^ q)))) rfl rfl rfl (by omega) (rn_ten (by omega)) rfl ?_
    show am_wp d 177 (154, [some (.ref (b)), some (.long (y1)), none, some (.int (z3)), some (.int (sb_i g)), some (.long (Int64.ofNat v)), none, some (.long (Int64.ofNat W)), none, some (.int (z9)), some (.int (Int32.ofNat q))], [.long (Int64.ofNat (10 ^ q)), .long (Int64.ofNat v), .long ((48)), .ref (b)], A) _
    refine wp_dv rfl (fun z => absurd ((i64_eq (a := 10 ^ q) (b := 0) (by omega) (by omega)).mp z) (by omega)) rfl ?_
    rw [i64_div (by omega) (by omega)]
    refine wp_st 1 (f' := (158, [some (.ref (b)), some (.long (y1)), none, some (.int (z3)), some (.int (sb_i g)), some (.long (Int64.ofNat v)), none, some (.long (Int64.ofNat W)), none, some (.int (z9)), some (.int (Int32.ofNat q))], [.long ((10)), .long (Int64.ofNat (v / 10 ^ q)), .long ((48)), .ref (b)], A)) rfl ?_
    refine wp_lr rfl (by decide) rfl ?_
    rw [show Int64.ofNat (v / 10 ^ q) - Int64.ofNat (v / 10 ^ q) / (10) * (10) = Int64.ofNat (v / 10 ^ q % 10) from i64_rem (b := 10) (by omega) (by omega)]
    refine wp_st 1 (f' := (160, [some (.ref (b)), some (.long (y1)), none, some (.int (z3)), some (.int (sb_i g)), some (.long (Int64.ofNat v)), none, some (.long (Int64.ofNat W)), none, some (.int (z9)), some (.int (Int32.ofNat q))], [.long ((48) + (Int64.ofNat (v / 10 ^ q % 10))), .ref (b)], A)) rfl ?_
    rw [show (48) + Int64.ofNat (v / 10 ^ q % 10) = Int64.ofNat (v / 10 ^ q % 10 + 48) from by rw [Nat.add_comm, Int64.ofNat_add]; rfl]
    refine wp_st 1 (f' := (161, [some (.ref (b)), some (.long (y1)), none, some (.int (z3)), some (.int (sb_i g)), some (.long (Int64.ofNat v)), none, some (.long (Int64.ofNat W)), none, some (.int (z9)), some (.int (Int32.ofNat q))], [.int ((Int64.ofNat (v / 10 ^ q % 10 + 48)).toInt32), .ref (b)], A)) rfl ?_
    rw [i64_i32]
    obtain ⟨A1, t2, g3, h4, x5, k6, f7⟩ := rw_put (d := d - 1) (c := v / 10 ^ q % 10 + 48) hx h
    have f8 := (sb_fr.refl A b (b + 38)).trans f7
    have k9 := (rf_wk.refl s).trans k6
    refine wp_cv (A' := A1) (v := none) rfl rfl rfl rfl rfl (show _ from h.1) (by omega) (g3) rfl ?_
    show am_wp d 177 (164, [some (.ref (b)), some (.long (y1)), none, some (.int (z3)), some (.int (sb_i g)), some (.long (Int64.ofNat v)), none, some (.long (Int64.ofNat W)), none, some (.int (z9)), some (.int (Int32.ofNat q))], [], A1) _
    refine wp_st 2 (f' := (138, [some (.ref (b)), some (.long (y1)), none, some (.int (z3)), some (.int (sb_i g)), some (.long (Int64.ofNat v)), none, some (.long (Int64.ofNat W)), none, some (.int (z9)), some (.int ((Int32.ofNat q) + (-1)))], [], A1)) rfl ?_
    rw [show Int32.ofNat q + (-1) = sb_k1 q from rfl]
    refine ih _ _ _ (by omega) x5 h4 (fun B t r1 r2 r3 r4 => kk B t r1 ?_ (k9.trans r3) (f8.trans r4))
    have ed : sb_ds v false (q + 1) = (v / 10 ^ q % 10 + 48) :: sb_ds v false q := by
      rw [sb_ds, if_neg (by simp)]
    rw [ed]
    simp only [wx_app2, List.cons_append, List.nil_append] at r2
    exact r2
theorem rw_pl {d b v W : Nat} {y1 : Int64} {z3 z4 : Int32} {A : am_H} {Q : am_O × am_H → Prop} (hd : 1 ≤ d) (hW : W < 9223372036854775808) : ∀ (q j : Nat), 18 - j = q → 1 ≤ j → j ≤ 18 → am_wp d 177 (62, [some (.ref b), some (.long y1), none, some (.int z3), some (.int z4), some (.long (Int64.ofNat v)), none, some (.long (Int64.ofNat W)), none, some (.int (Int32.ofNat (sb_nd W q j))), none], [], A) Q → am_wp d 177 (38, [some (.ref b), some (.long y1), none, some (.int z3), some (.int z4), some (.long (Int64.ofNat v)), none, some (.long (Int64.ofNat W)), none, some (.int (Int32.ofNat (j))), none], [], A) Q := by
  intro q
  induction q with
  | zero =>
    intro j h1 h2 h3 kk
    refine wp_st 2 (f' := (42, [some (.ref (b)), some (.long (y1)), none, some (.int (z3)), some (.int (z4)), some (.long (Int64.ofNat v)), none, some (.long (Int64.ofNat W)), none, some (.int (Int32.ofNat j)), none], [.int (Int32.ofNat 18), .int (Int32.ofNat j)], A)) rfl ?_
    refine wp_ifT rfl rfl ((i32_le (a := 18) (b := j) (by omega) (by omega)).mpr (by omega)) ?_
    exact kk
  | succ q ih =>
    intro j h1 h2 h3 kk
    have hp := sb_p10 (j := j) (by omega)
    rw [sb_nd] at kk
    refine wp_st 2 (f' := (42, [some (.ref (b)), some (.long (y1)), none, some (.int (z3)), some (.int (z4)), some (.long (Int64.ofNat v)), none, some (.long (Int64.ofNat W)), none, some (.int (Int32.ofNat j)), none], [.int (Int32.ofNat 18), .int (Int32.ofNat j)], A)) rfl ?_
    refine wp_ifF rfl rfl (fun q => absurd ((i32_le (a := 18) (b := j) (by omega) (by omega)).mp q) (by omega)) ?_
    refine wp_st 2 (f' := (49, [some (.ref (b)), some (.long (y1)), none, some (.int (z3)), some (.int (z4)), some (.long (Int64.ofNat v)), none, some (.long (Int64.ofNat W)), none, some (.int (Int32.ofNat j)), none], [.int (Int32.ofNat j), .long (Int64.ofNat W)], A)) rfl ?_
    refine wp_cs (n := 0) (A' := A) (v := some (.long (Int64.ofNat (10 ^ j)))) rfl rfl rfl (by omega) (rn_ten (by omega)) rfl ?_
    show am_wp d 177 (52, [some (.ref (b)), some (.long (y1)), none, some (.int (z3)), some (.int (z4)), some (.long (Int64.ofNat v)), none, some (.long (Int64.ofNat W)), none, some (.int (Int32.ofNat j)), none], [.long (Int64.ofNat (10 ^ j)), .long (Int64.ofNat W)], A) _
    refine wp_st 1 (f' := (53, [some (.ref (b)), some (.long (y1)), none, some (.int (z3)), some (.int (z4)), some (.long (Int64.ofNat v)), none, some (.long (Int64.ofNat W)), none, some (.int (Int32.ofNat j)), none], [.int (lg_cmp (Int64.ofNat W) (Int64.ofNat (10 ^ j)))], A)) rfl ?_
    refine wp_iz rfl rfl rfl (fun (h1 : (lg_cmp (Int64.ofNat W) (Int64.ofNat (10 ^ j))) < (Int32.ofNat 0)) => ?_) (fun (h1 : ¬ ((lg_cmp (Int64.ofNat W) (Int64.ofNat (10 ^ j))) < (Int32.ofNat 0))) => ?_)
    · skip
      have hz : ¬ 10 ^ j ≤ W := fun e => absurd ((i64_lt (by omega) (by omega)).mp ((lg_cmp_lt _ _).mp h1)) (by omega)
      rw [if_neg hz] at kk
      exact kk
    · skip
      have hz : 10 ^ j ≤ W := Nat.le_of_not_lt (fun e => h1 ((lg_cmp_lt _ _).mpr ((i64_lt (by omega) (by omega)).mpr e)))
      refine wp_st 1 (f' := (59, [some (.ref (b)), some (.long (y1)), none, some (.int (z3)), some (.int (z4)), some (.long (Int64.ofNat v)), none, some (.long (Int64.ofNat W)), none, some (.int ((Int32.ofNat j) + (Int32.ofNat 1))), none], [], A)) rfl ?_
      rw [i32_add (j) (1)]
      refine wp_st 1 (f' := (38, [some (.ref (b)), some (.long (y1)), none, some (.int (z3)), some (.int (z4)), some (.long (Int64.ofNat v)), none, some (.long (Int64.ofNat W)), none, some (.int (Int32.ofNat (j + 1))), none], [], A)) rfl ?_
      rw [if_pos hz] at kk
      exact ih (j + 1) (by omega) (by omega) (by omega) kk
/-- a number as the reference draws it -/
def rf_nb (v k : Nat) (g : Bool) : List Nat := sb_ds (v / 10 ^ k) g (sb_nd (v / 10 ^ k) 17 1) ++ (if 0 < k then [46] ++ sb_ds v false k else [])
theorem rw_num {d b : Nat} {s : rf_S} {X : Option (List Nat)} {A : am_H} {v k : Nat} {g : Bool} (hd : 1 ≤ d) (hv : v < 9223372036854775808) (hk : k ≤ 6) (hx : rf_wx s X) (h : rf A b s) : rf_wg d 177 [.ref b, .long (Int64.ofNat v), .int (Int32.ofNat k), .int (sb_i g)] A b s X (rf_nb v k g) := by
  have hp := sb_p10 (j := k) (by omega)
  have hdl : v / 10 ^ k ≤ v := Nat.div_le_self _ _
  refine wp_goW ?_
  refine wp_st 3 (f' := (3, [some (.ref (b)), some (.long (Int64.ofNat v)), none, some (.int (Int32.ofNat k)), some (.int (sb_i g)), none, none, none, none, none, none], [.int (lg_cmp (Int64.ofNat v) (Int64.ofNat 0))], A)) rfl ?_
  refine wp_izT rfl rfl ((lg_cmp_ge _ _).mpr ((i64_le (a := 0) (b := v) (by omega) (by omega)).mpr (by omega))) ?_
  refine wp_st 5 (f' := (17, [some (.ref (b)), some (.long (Int64.ofNat v)), none, some (.int (Int32.ofNat k)), some (.int (sb_i g)), some (.long (Int64.ofNat v)), none, none, none, none, none], [.int (lg_cmp (Int64.ofNat v) (Int64.ofNat 0))], A)) rfl ?_
  refine wp_izT rfl rfl ((lg_cmp_ge _ _).mpr ((i64_le (a := 0) (b := v) (by omega) (by omega)).mpr (by omega))) ?_
  refine wp_st 2 (f' := (29, [some (.ref (b)), some (.long (Int64.ofNat v)), none, some (.int (Int32.ofNat k)), some (.int (sb_i g)), some (.long (Int64.ofNat v)), none, none, none, none, none], [.int (Int32.ofNat k), .long (Int64.ofNat v)], A)) rfl ?_
  refine wp_cs (n := 0) (A' := A) (v := some (.long (Int64.ofNat (10 ^ k)))) rfl rfl rfl (by omega) (rn_ten (by omega)) rfl ?_
  show am_wp d 177 (32, [some (.ref (b)), some (.long (Int64.ofNat v)), none, some (.int (Int32.ofNat k)), some (.int (sb_i g)), some (.long (Int64.ofNat v)), none, none, none, none, none], [.long (Int64.ofNat (10 ^ k)), .long (Int64.ofNat v)], A) _
  refine wp_dv rfl (fun z => absurd ((i64_eq (a := 10 ^ k) (b := 0) (by omega) (by omega)).mp z) (by omega)) rfl ?_
  rw [i64_div (by omega) (by omega)]
  refine wp_st 3 (f' := (38, [some (.ref (b)), some (.long (Int64.ofNat v)), none, some (.int (Int32.ofNat k)), some (.int (sb_i g)), some (.long (Int64.ofNat v)), none, some (.long (Int64.ofNat (v / 10 ^ k))), none, some (.int (Int32.ofNat 1)), none], [], A)) rfl ?_
  refine rw_pl (by omega) (by omega) 17 1 rfl (by omega) (by omega) ?_
  have hnd := sb_nd_le (v / 10 ^ k) 17 1
  refine wp_st 3 (f' := (66, [some (.ref (b)), some (.long (Int64.ofNat v)), none, some (.int (Int32.ofNat k)), some (.int (sb_i g)), some (.long (Int64.ofNat v)), none, some (.long (Int64.ofNat (v / 10 ^ k))), none, some (.int (Int32.ofNat (sb_nd (v / 10 ^ k) 17 1))), none], [.int ((Int32.ofNat (sb_nd (v / 10 ^ k) 17 1)) - (Int32.ofNat 1))], A)) rfl ?_
  rw [show (Int32.ofNat (sb_nd (v / 10 ^ k) 17 1)) - (Int32.ofNat 1) = sb_k1 (sb_nd (v / 10 ^ k) 17 1) from by unfold sb_k1; rw [Int32.sub_eq_add_neg]; rfl]
  refine wp_st 1 (f' := (68, [some (.ref (b)), some (.long (Int64.ofNat v)), none, some (.int (Int32.ofNat k)), some (.int (sb_i g)), some (.long (Int64.ofNat v)), none, some (.long (Int64.ofNat (v / 10 ^ k))), none, some (.int (Int32.ofNat (sb_nd (v / 10 ^ k) 17 1))), some (.int (sb_k1 (sb_nd (v / 10 ^ k) 17 1)))], [], A)) rfl ?_
  refine rw_dA (by omega) (by omega) _ _ _ _ (by omega) hx h (fun B1 t2 r3 r4 r5 r6 => ?_)
  have f7 := (sb_fr.refl A b (b + 38)).trans r6
  have k8 := (rf_wk.refl s).trans r5
  refine wp_st 1 (f' := (124, [some (.ref (b)), some (.long (Int64.ofNat v)), none, some (.int (Int32.ofNat k)), some (.int (sb_i g)), some (.long (Int64.ofNat v)), none, some (.long (Int64.ofNat (v / 10 ^ k))), none, some (.int (Int32.ofNat (sb_nd (v / 10 ^ k) 17 1))), some (.int (sb_k1 0))], [.int (Int32.ofNat k)], B1)) rfl ?_
  refine wp_iz rfl rfl rfl (fun (h9 : (Int32.ofNat k) ≤ (Int32.ofNat 0)) => ?_) (fun (h9 : ¬ ((Int32.ofNat k) ≤ (Int32.ofNat 0))) => ?_)
  · skip
    rw [i32_le (by omega) (by omega)] at h9
    refine wp_st 3 (f' := (136, [some (.ref (b)), some (.long (Int64.ofNat v)), none, some (.int (Int32.ofNat k)), some (.int (sb_i g)), some (.long (Int64.ofNat v)), none, some (.long (Int64.ofNat (v / 10 ^ k))), none, some (.int (Int32.ofNat (sb_nd (v / 10 ^ k) 17 1))), some (.int (sb_k1 0))], [.int ((Int32.ofNat k) - (Int32.ofNat 1))], B1)) rfl ?_
    rw [show (Int32.ofNat k) - (Int32.ofNat 1) = sb_k1 (k) from by unfold sb_k1; rw [Int32.sub_eq_add_neg]; rfl]
    refine wp_st 1 (f' := (138, [some (.ref (b)), some (.long (Int64.ofNat v)), none, some (.int (Int32.ofNat k)), some (.int (sb_i g)), some (.long (Int64.ofNat v)), none, some (.long (Int64.ofNat (v / 10 ^ k))), none, some (.int (Int32.ofNat (sb_nd (v / 10 ^ k) 17 1))), some (.int (sb_k1 (k)))], [], B1)) rfl ?_
    refine rw_dB (by omega) (by omega) _ _ _ _ (by omega) r4 r3 (fun B10 t11 r12 r13 r14 r15 => ?_)
    have f16 := f7.trans r15
    have k17 := k8.trans r14
    refine wp_rt rfl rfl rfl ?_
    refine ⟨rfl, _, r12, ?_, k17, f16⟩
    have hx9 := r13
    simp only [wx_app2] at hx9
    unfold rf_nb
    rw [if_neg (by omega)]
    obtain rfl : k = 0 := by omega
    simp only [List.append_assoc, List.cons_append, List.nil_append, List.append_nil, sb_ds] at hx9 ⊢
    exact hx9
  · skip
    rw [i32_le (by omega) (by omega)] at h9
    refine wp_st 2 (f' := (130, [some (.ref (b)), some (.long (Int64.ofNat v)), none, some (.int (Int32.ofNat k)), some (.int (sb_i g)), some (.long (Int64.ofNat v)), none, some (.long (Int64.ofNat (v / 10 ^ k))), none, some (.int (Int32.ofNat (sb_nd (v / 10 ^ k) 17 1))), some (.int (sb_k1 0))], [.int (Int32.ofNat 46), .ref (b)], B1)) rfl ?_
    obtain ⟨A18, t19, g20, h21, x22, k23, f24⟩ := rw_put (d := d - 1) (c := 46) r4 r3
    have f25 := f7.trans f24
    have k26 := k8.trans k23
    refine wp_cv (A' := A18) (v := none) rfl rfl rfl rfl rfl (show _ from r3.1) (by omega) (g20) rfl ?_
    show am_wp d 177 (133, [some (.ref (b)), some (.long (Int64.ofNat v)), none, some (.int (Int32.ofNat k)), some (.int (sb_i g)), some (.long (Int64.ofNat v)), none, some (.long (Int64.ofNat (v / 10 ^ k))), none, some (.int (Int32.ofNat (sb_nd (v / 10 ^ k) 17 1))), some (.int (sb_k1 0))], [], A18) _
    refine wp_st 3 (f' := (136, [some (.ref (b)), some (.long (Int64.ofNat v)), none, some (.int (Int32.ofNat k)), some (.int (sb_i g)), some (.long (Int64.ofNat v)), none, some (.long (Int64.ofNat (v / 10 ^ k))), none, some (.int (Int32.ofNat (sb_nd (v / 10 ^ k) 17 1))), some (.int (sb_k1 0))], [.int ((Int32.ofNat k) - (Int32.ofNat 1))], A18)) rfl ?_
    rw [show (Int32.ofNat k) - (Int32.ofNat 1) = sb_k1 (k) from by unfold sb_k1; rw [Int32.sub_eq_add_neg]; rfl]
    refine wp_st 1 (f' := (138, [some (.ref (b)), some (.long (Int64.ofNat v)), none, some (.int (Int32.ofNat k)), some (.int (sb_i g)), some (.long (Int64.ofNat v)), none, some (.long (Int64.ofNat (v / 10 ^ k))), none, some (.int (Int32.ofNat (sb_nd (v / 10 ^ k) 17 1))), some (.int (sb_k1 (k)))], [], A18)) rfl ?_
    refine rw_dB (by omega) (by omega) _ _ _ _ (by omega) x22 h21 (fun B27 t28 r29 r30 r31 r32 => ?_)
    have f33 := f25.trans r32
    have k34 := k26.trans r31
    refine wp_rt rfl rfl rfl ?_
    refine ⟨rfl, _, r29, ?_, k34, f33⟩
    have hx9 := r30
    simp only [wx_app2] at hx9
    unfold rf_nb
    rw [if_pos (by omega)]
    simp only [List.append_assoc, List.cons_append, List.nil_append, List.append_nil, sb_ds] at hx9 ⊢
    exact hx9
theorem rw_numn {d b : Nat} {s : rf_S} {X : Option (List Nat)} {A : am_H} {v k : Nat} {g : Bool} (hd : 1 ≤ d) (hv0 : 0 < v) (hv : v < 9223372036854775808) (hk : k ≤ 6) (hx : rf_wx s X) (h : rf A b s) : rf_wg d 177 [.ref b, .long ((-Int64.ofNat v)), .int (Int32.ofNat k), .int (sb_i g)] A b s X ([45] ++ rf_nb v k g) := by
  have hp := sb_p10 (j := k) (by omega)
  have hdl : v / 10 ^ k ≤ v := Nat.div_le_self _ _
  refine wp_goW ?_
  refine wp_st 3 (f' := (3, [some (.ref (b)), some (.long ((-Int64.ofNat v))), none, some (.int (Int32.ofNat k)), some (.int (sb_i g)), none, none, none, none, none, none], [.int (lg_cmp (-Int64.ofNat v) (Int64.ofNat 0))], A)) rfl ?_
  refine wp_izF rfl rfl (fun q => i64_neg hv0 hv ((lg_cmp_ge _ _).mp q)) ?_
  refine wp_st 2 (f' := (8, [some (.ref (b)), some (.long ((-Int64.ofNat v))), none, some (.int (Int32.ofNat k)), some (.int (sb_i g)), none, none, none, none, none, none], [.long (-(-Int64.ofNat v))], A)) rfl ?_
  rw [Int64.neg_neg]
  refine wp_st 5 (f' := (17, [some (.ref (b)), some (.long ((-Int64.ofNat v))), none, some (.int (Int32.ofNat k)), some (.int (sb_i g)), some (.long (Int64.ofNat v)), none, none, none, none, none], [.int (lg_cmp (-Int64.ofNat v) (Int64.ofNat 0))], A)) rfl ?_
  refine wp_izF rfl rfl (fun q => i64_neg hv0 hv ((lg_cmp_ge _ _).mp q)) ?_
  refine wp_st 2 (f' := (23, [some (.ref (b)), some (.long ((-Int64.ofNat v))), none, some (.int (Int32.ofNat k)), some (.int (sb_i g)), some (.long (Int64.ofNat v)), none, none, none, none, none], [.int (Int32.ofNat 45), .ref (b)], A)) rfl ?_
  obtain ⟨A1, t2, g3, h4, x5, k6, f7⟩ := rw_put (d := d - 1) (c := 45) hx h
  have f8 := (sb_fr.refl A b (b + 38)).trans f7
  have k9 := (rf_wk.refl s).trans k6
  refine wp_cv (A' := A1) (v := none) rfl rfl rfl rfl rfl (show _ from h.1) (by omega) (g3) rfl ?_
  show am_wp d 177 (26, [some (.ref (b)), some (.long ((-Int64.ofNat v))), none, some (.int (Int32.ofNat k)), some (.int (sb_i g)), some (.long (Int64.ofNat v)), none, none, none, none, none], [], A1) _
  refine wp_st 2 (f' := (29, [some (.ref (b)), some (.long ((-Int64.ofNat v))), none, some (.int (Int32.ofNat k)), some (.int (sb_i g)), some (.long (Int64.ofNat v)), none, none, none, none, none], [.int (Int32.ofNat k), .long (Int64.ofNat v)], A1)) rfl ?_
  refine wp_cs (n := 0) (A' := A1) (v := some (.long (Int64.ofNat (10 ^ k)))) rfl rfl rfl (by omega) (rn_ten (by omega)) rfl ?_
  show am_wp d 177 (32, [some (.ref (b)), some (.long ((-Int64.ofNat v))), none, some (.int (Int32.ofNat k)), some (.int (sb_i g)), some (.long (Int64.ofNat v)), none, none, none, none, none], [.long (Int64.ofNat (10 ^ k)), .long (Int64.ofNat v)], A1) _
  refine wp_dv rfl (fun z => absurd ((i64_eq (a := 10 ^ k) (b := 0) (by omega) (by omega)).mp z) (by omega)) rfl ?_
  rw [i64_div (by omega) (by omega)]
  refine wp_st 3 (f' := (38, [some (.ref (b)), some (.long ((-Int64.ofNat v))), none, some (.int (Int32.ofNat k)), some (.int (sb_i g)), some (.long (Int64.ofNat v)), none, some (.long (Int64.ofNat (v / 10 ^ k))), none, some (.int (Int32.ofNat 1)), none], [], A1)) rfl ?_
  refine rw_pl (by omega) (by omega) 17 1 rfl (by omega) (by omega) ?_
  have hnd := sb_nd_le (v / 10 ^ k) 17 1
  refine wp_st 3 (f' := (66, [some (.ref (b)), some (.long ((-Int64.ofNat v))), none, some (.int (Int32.ofNat k)), some (.int (sb_i g)), some (.long (Int64.ofNat v)), none, some (.long (Int64.ofNat (v / 10 ^ k))), none, some (.int (Int32.ofNat (sb_nd (v / 10 ^ k) 17 1))), none], [.int ((Int32.ofNat (sb_nd (v / 10 ^ k) 17 1)) - (Int32.ofNat 1))], A1)) rfl ?_
  rw [show (Int32.ofNat (sb_nd (v / 10 ^ k) 17 1)) - (Int32.ofNat 1) = sb_k1 (sb_nd (v / 10 ^ k) 17 1) from by unfold sb_k1; rw [Int32.sub_eq_add_neg]; rfl]
  refine wp_st 1 (f' := (68, [some (.ref (b)), some (.long ((-Int64.ofNat v))), none, some (.int (Int32.ofNat k)), some (.int (sb_i g)), some (.long (Int64.ofNat v)), none, some (.long (Int64.ofNat (v / 10 ^ k))), none, some (.int (Int32.ofNat (sb_nd (v / 10 ^ k) 17 1))), some (.int (sb_k1 (sb_nd (v / 10 ^ k) 17 1)))], [], A1)) rfl ?_
  refine rw_dA (by omega) (by omega) _ _ _ _ (by omega) x5 h4 (fun B10 t11 r12 r13 r14 r15 => ?_)
  have f16 := f8.trans r15
  have k17 := k9.trans r14
  refine wp_st 1 (f' := (124, [some (.ref (b)), some (.long ((-Int64.ofNat v))), none, some (.int (Int32.ofNat k)), some (.int (sb_i g)), some (.long (Int64.ofNat v)), none, some (.long (Int64.ofNat (v / 10 ^ k))), none, some (.int (Int32.ofNat (sb_nd (v / 10 ^ k) 17 1))), some (.int (sb_k1 0))], [.int (Int32.ofNat k)], B10)) rfl ?_
  refine wp_iz rfl rfl rfl (fun (h18 : (Int32.ofNat k) ≤ (Int32.ofNat 0)) => ?_) (fun (h18 : ¬ ((Int32.ofNat k) ≤ (Int32.ofNat 0))) => ?_)
  · skip
    rw [i32_le (by omega) (by omega)] at h18
    refine wp_st 3 (f' := (136, [some (.ref (b)), some (.long ((-Int64.ofNat v))), none, some (.int (Int32.ofNat k)), some (.int (sb_i g)), some (.long (Int64.ofNat v)), none, some (.long (Int64.ofNat (v / 10 ^ k))), none, some (.int (Int32.ofNat (sb_nd (v / 10 ^ k) 17 1))), some (.int (sb_k1 0))], [.int ((Int32.ofNat k) - (Int32.ofNat 1))], B10)) rfl ?_
    rw [show (Int32.ofNat k) - (Int32.ofNat 1) = sb_k1 (k) from by unfold sb_k1; rw [Int32.sub_eq_add_neg]; rfl]
    refine wp_st 1 (f' := (138, [some (.ref (b)), some (.long ((-Int64.ofNat v))), none, some (.int (Int32.ofNat k)), some (.int (sb_i g)), some (.long (Int64.ofNat v)), none, some (.long (Int64.ofNat (v / 10 ^ k))), none, some (.int (Int32.ofNat (sb_nd (v / 10 ^ k) 17 1))), some (.int (sb_k1 (k)))], [], B10)) rfl ?_
    refine rw_dB (by omega) (by omega) _ _ _ _ (by omega) r13 r12 (fun B19 t20 r21 r22 r23 r24 => ?_)
    have f25 := f16.trans r24
    have k26 := k17.trans r23
    refine wp_rt rfl rfl rfl ?_
    refine ⟨rfl, _, r21, ?_, k26, f25⟩
    have hx9 := r22
    simp only [wx_app2] at hx9
    unfold rf_nb
    rw [if_neg (by omega)]
    obtain rfl : k = 0 := by omega
    simp only [List.append_assoc, List.cons_append, List.nil_append, List.append_nil, sb_ds] at hx9 ⊢
    exact hx9
  · skip
    rw [i32_le (by omega) (by omega)] at h18
    refine wp_st 2 (f' := (130, [some (.ref (b)), some (.long ((-Int64.ofNat v))), none, some (.int (Int32.ofNat k)), some (.int (sb_i g)), some (.long (Int64.ofNat v)), none, some (.long (Int64.ofNat (v / 10 ^ k))), none, some (.int (Int32.ofNat (sb_nd (v / 10 ^ k) 17 1))), some (.int (sb_k1 0))], [.int (Int32.ofNat 46), .ref (b)], B10)) rfl ?_
    obtain ⟨A27, t28, g29, h30, x31, k32, f33⟩ := rw_put (d := d - 1) (c := 46) r13 r12
    have f34 := f16.trans f33
    have k35 := k17.trans k32
    refine wp_cv (A' := A27) (v := none) rfl rfl rfl rfl rfl (show _ from r12.1) (by omega) (g29) rfl ?_
    show am_wp d 177 (133, [some (.ref (b)), some (.long ((-Int64.ofNat v))), none, some (.int (Int32.ofNat k)), some (.int (sb_i g)), some (.long (Int64.ofNat v)), none, some (.long (Int64.ofNat (v / 10 ^ k))), none, some (.int (Int32.ofNat (sb_nd (v / 10 ^ k) 17 1))), some (.int (sb_k1 0))], [], A27) _
    refine wp_st 3 (f' := (136, [some (.ref (b)), some (.long ((-Int64.ofNat v))), none, some (.int (Int32.ofNat k)), some (.int (sb_i g)), some (.long (Int64.ofNat v)), none, some (.long (Int64.ofNat (v / 10 ^ k))), none, some (.int (Int32.ofNat (sb_nd (v / 10 ^ k) 17 1))), some (.int (sb_k1 0))], [.int ((Int32.ofNat k) - (Int32.ofNat 1))], A27)) rfl ?_
    rw [show (Int32.ofNat k) - (Int32.ofNat 1) = sb_k1 (k) from by unfold sb_k1; rw [Int32.sub_eq_add_neg]; rfl]
    refine wp_st 1 (f' := (138, [some (.ref (b)), some (.long ((-Int64.ofNat v))), none, some (.int (Int32.ofNat k)), some (.int (sb_i g)), some (.long (Int64.ofNat v)), none, some (.long (Int64.ofNat (v / 10 ^ k))), none, some (.int (Int32.ofNat (sb_nd (v / 10 ^ k) 17 1))), some (.int (sb_k1 (k)))], [], A27)) rfl ?_
    refine rw_dB (by omega) (by omega) _ _ _ _ (by omega) x31 h30 (fun B36 t37 r38 r39 r40 r41 => ?_)
    have f42 := f34.trans r41
    have k43 := k35.trans r40
    refine wp_rt rfl rfl rfl ?_
    refine ⟨rfl, _, r38, ?_, k43, f42⟩
    have hx9 := r39
    simp only [wx_app2] at hx9
    unfold rf_nb
    rw [if_pos (by omega)]
    simp only [List.append_assoc, List.cons_append, List.nil_append, List.append_nil, sb_ds] at hx9 ⊢
    exact hx9
