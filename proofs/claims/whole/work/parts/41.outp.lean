/-! Output's methods. -/
theorem op_put {d u x : Nat} {w : List Nat} {A : am_H} (hx : x < 65536) (h : sb_O A u w) : sb_wrt d 102 [.ref u, .int (Int32.ofNat x)] A u w [x] := by
  have hh := h
  obtain ⟨cs, q0, q1, hl, hw, hk, h45⟩ := h
  unfold sb_oc at q0
  refine wp_goC ?_
  refine wp_st 1 (f' := (1, [some (.ref (u)), some (.int (Int32.ofNat x))], [.ref (u)], A)) rfl ?_
  refine wp_gf rfl rfl q0 rfl rfl ?_
  refine wp_izF rfl rfl (Int32.ofNat_not_neg (by omega)) ?_
  refine wp_st 1 (f' := (8, [some (.ref (u)), some (.int (Int32.ofNat x))], [.ref (u)], A)) rfl ?_
  refine wp_gf rfl rfl q0 rfl rfl ?_
  refine wp_st 1 (f' := (14, [some (.ref (u)), some (.int (Int32.ofNat x))], [.int (Int32.ofNat 160), .int (Int32.ofNat (w.length))], A)) rfl ?_
  refine wp_if rfl rfl rfl (fun (h1 : (Int32.ofNat (w.length)) < (Int32.ofNat 160)) => ?_) (fun (h1 : ¬ ((Int32.ofNat (w.length)) < (Int32.ofNat 160))) => ?_)
  · skip
    rw [i32_lt (by omega) (by omega)] at h1
    refine wp_st 1 (f' := (20, [some (.ref (u)), some (.int (Int32.ofNat x))], [.ref (u)], A)) rfl ?_
    refine wp_gf rfl rfl q0 rfl rfl ?_
    refine wp_st 1 (f' := (24, [some (.ref (u)), some (.int (Int32.ofNat x))], [.ref (u), .ref (u + 1)], A)) rfl ?_
    refine wp_gf rfl rfl q0 rfl rfl ?_
    refine wp_st 2 (f' := (29, [some (.ref (u)), some (.int (Int32.ofNat x))], [.int (((Int32.ofNat x).toUInt32 % 65536).toInt32), .int (Int32.ofNat (w.length)), .ref (u + 1)], A)) rfl ?_
    rw [i32_i2c (b := x) (by omega)]
    obtain ⟨A2, e3⟩ : ∃ B, B = A.set (u + 1) (102, (cs.set w.length x).map sb_c) := ⟨_, rfl⟩
    refine wp_as (A' := A2) rfl (Or.inr (Or.inl ⟨rfl, rfl, rfl⟩)) q1 (by omega) (by simp; omega) (decide_eq_true (by omega)) rfl (by rw [e3]; rw [sb_sc (by omega)]) ?_
    have g4 : A2[u]? = some (7, [.ref (u + 1), .int (Int32.ofNat (w.length))]) := by rw [e3]; exact sb_so (by omega) q0
    have g5 : A2[u + 1]? = some (102, (cs.set w.length x).map sb_c) := by rw [e3]; exact sb_ss q1
    have f6 : sb_fr A A2 u (u + 2) := (sb_fr.refl A u (u + 2)).set e3 q1 (by simp) (by omega) (by omega)
    refine wp_st 2 (f' := (32, [some (.ref (u)), some (.int (Int32.ofNat x))], [.ref (u), .ref (u)], A2)) rfl ?_
    refine wp_gf rfl rfl g4 rfl rfl ?_
    refine wp_st 2 (f' := (37, [some (.ref (u)), some (.int (Int32.ofNat x))], [.int ((Int32.ofNat (w.length)) + (Int32.ofNat 1)), .ref (u)], A2)) rfl ?_
    rw [i32_add (w.length) (1)]
    obtain ⟨A7, e8⟩ : ∃ B, B = A2.set (u) (7, [.ref (u + 1), .int (Int32.ofNat (w.length + 1))]) := ⟨_, rfl⟩
    refine wp_pf (A' := A7) rfl rfl g4 rfl rfl (decide_eq_true (by omega)) rfl e8.symm ?_
    have g9 : A7[u]? = some (7, [.ref (u + 1), .int (Int32.ofNat (w.length + 1))]) := by rw [e8]; exact sb_ss g4
    have g10 : A7[u + 1]? = some (102, (cs.set w.length x).map sb_c) := by rw [e8]; exact sb_so (by omega) g5
    have f11 : sb_fr A A7 u (u + 2) := f6.set e8 g4 (by simp) (by omega) (by omega)
    refine wp_st 1 (f' := (41, [some (.ref (u)), some (.int (Int32.ofNat x))], [.int (Int32.ofNat 0)], A7)) rfl ?_
    refine wp_rt rfl rfl rfl ?_
    refine ⟨0, w ++ [x], rfl, Or.inl ⟨by simp; omega, rfl, rfl⟩, ⟨_, ?_, g10, by simp [hl], by simp; omega, sb_take_set hk (by omega), h45⟩, f11⟩
    rw [g9, sb_oc, List.length_append]; rfl
  · skip
    rw [i32_lt (by omega) (by omega)] at h1
    refine wp_st 1 (f' := (18, [some (.ref (u)), some (.int (Int32.ofNat x))], [.int (Int32.ofNat 3)], A)) rfl ?_
    refine wp_rt rfl rfl rfl ?_
    exact ⟨3, w, rfl, Or.inr ⟨by simp; omega, rfl⟩, hh, (sb_fr.refl A u (u + 2))⟩
theorem op_pk_x {d u : Nat} {x : Int64} {up : Bool} {c s5 : Int32} {b6 : Option Value} {A : am_H} {Q : am_O × am_H → Prop} (hc : c ≠ 0) (q : Q (.inl (some (.int c)), A)) : am_wp d 110 (7, [some (.ref u), some (.long x), none, some (.int (sb_i up)), some (.int c), some (.int s5), b6], [], A) Q := by
  refine wp_st 1 (f' := (9, [some (.ref (u)), some (.long (x)), none, some (.int (sb_i up)), some (.int (c)), some (.int (s5)), b6], [.int (s5)], A)) rfl ?_
  refine wp_iz rfl rfl rfl (fun (h1 : s5 < (Int32.ofNat 0)) => ?_) (fun (h1 : ¬ (s5 < (Int32.ofNat 0))) => ?_)
  · skip
    refine wp_st 1 (f' := (78, [some (.ref (u)), some (.long (x)), none, some (.int (sb_i up)), some (.int (c)), some (.int (s5)), b6], [.int (c)], A)) rfl ?_
    refine wp_rt rfl rfl rfl ?_
    exact q
  · skip
    refine wp_st 1 (f' := (14, [some (.ref (u)), some (.long (x)), none, some (.int (sb_i up)), some (.int (c)), some (.int (s5)), b6], [.int (c)], A)) rfl ?_
    refine wp_izT rfl rfl (hc) ?_
    refine wp_st 1 (f' := (78, [some (.ref (u)), some (.long (x)), none, some (.int (sb_i up)), some (.int (c)), some (.int (s5)), b6], [.int (c)], A)) rfl ?_
    refine wp_rt rfl rfl rfl ?_
    exact q
theorem op_pk_l {d u : Nat} {x : Int64} {up : Bool} (hd : 1 ≤ d) : ∀ (k : Nat) (w : List Nat) (A : am_H) (b6 : Option Value), k ≤ 4 → sb_O A u w → am_wp d 110 (7, [some (.ref u), some (.long x), none, some (.int (sb_i up)), some (.int 0), some (.int (sb_sh k)), b6], [], A) (fun q => ∃ c w', q.1 = .inl (some (.int c)) ∧ sb_res w (sb_pt x up k) c w' ∧ sb_O q.2 u w' ∧ sb_fr A q.2 u (u + 2)) := by
  intro k
  induction k with
  | zero =>
    intro w A b6 hk h
    have hh := h
    obtain ⟨cs, q0, q1, hl, hw, hk, h45⟩ := h
    unfold sb_oc at q0
    refine wp_st 1 (f' := (9, [some (.ref (u)), some (.long (x)), none, some (.int (sb_i up)), some (.int (Int32.ofNat 0)), some (.int (sb_sh 0)), b6], [.int (sb_sh 0)], A)) rfl ?_
    refine wp_izT rfl rfl (sb_sh_z) ?_
    refine wp_st 1 (f' := (78, [some (.ref (u)), some (.long (x)), none, some (.int (sb_i up)), some (.int (Int32.ofNat 0)), some (.int (sb_sh 0)), b6], [.int (Int32.ofNat 0)], A)) rfl ?_
    refine wp_rt rfl rfl rfl ?_
    exact ⟨0, w, rfl, sb_res.nil w hw, hh, sb_fr.refl ..⟩
  | succ k ih =>
    intro w A b6 hk4 h
    have hh := h
    obtain ⟨cs, q0, q1, hl, hw, hk, h45⟩ := h
    unfold sb_oc at q0
    rw [sb_sh_s]
    have hby : sb_b64 x (8 * k) % 256 < 256 := Nat.mod_lt _ (by decide)
    obtain ⟨e, he⟩ : ∃ e, e = sb_b64 x (8 * k) % 256 := ⟨_, rfl⟩
    rw [← he] at hby
    refine wp_st 1 (f' := (9, [some (.ref (u)), some (.long (x)), none, some (.int (sb_i up)), some (.int (Int32.ofNat 0)), some (.int (Int32.ofNat (8 * k))), b6], [.int (Int32.ofNat (8 * k))], A)) rfl ?_
    refine wp_izF rfl rfl (Int32.ofNat_not_neg (by omega)) ?_
    refine wp_st 1 (f' := (14, [some (.ref (u)), some (.long (x)), none, some (.int (sb_i up)), some (.int (Int32.ofNat 0)), some (.int (Int32.ofNat (8 * k))), b6], [.int (Int32.ofNat 0)], A)) rfl ?_
    refine wp_izF rfl rfl (by show ¬ ((0 : Int32) ≠ 0); decide) ?_
    refine wp_st 6 (f' := (26, [some (.ref (u)), some (.long (x)), none, some (.int (sb_i up)), some (.int (Int32.ofNat 0)), some (.int (Int32.ofNat (8 * k))), b6], [.int ((((x.toUInt64 >>> ((Int32.ofNat (8 * k)).toInt64.toUInt64 &&& Int64.toUInt64 63)).toInt64).toInt32) &&& (Int32.ofNat 255))], A)) rfl ?_
    rw [sb_l255 (x := x) (k := 8 * k) (by omega), ← he]
    refine wp_st 2 (f' := (30, [some (.ref (u)), some (.long (x)), none, some (.int (sb_i up)), some (.int (Int32.ofNat 0)), some (.int (Int32.ofNat (8 * k))), some (.int (Int32.ofNat e))], [.int (Int32.ofNat e)], A)) rfl ?_
    refine wp_iz rfl rfl rfl (fun (h1 : (Int32.ofNat e) = (Int32.ofNat 0)) => ?_) (fun (h1 : ¬ ((Int32.ofNat e) = (Int32.ofNat 0))) => ?_)
    · skip
      rw [i32_eq (by omega) (by omega)] at h1
      refine wp_st 2 (f' := (7, [some (.ref (u)), some (.long (x)), none, some (.int (sb_i up)), some (.int (Int32.ofNat 0)), some (.int ((Int32.ofNat (8 * k)) + (-8))), some (.int (Int32.ofNat e))], [], A)) rfl ?_
      have h9 := ih w A (some (.int (Int32.ofNat e))) (by omega) hh
      rw [sb_pt, if_pos (by omega)]
      exact h9
    · skip
      rw [i32_eq (by omega) (by omega)] at h1
      refine wp_st 2 (f' := (35, [some (.ref (u)), some (.long (x)), none, some (.int (sb_i up)), some (.int (Int32.ofNat 0)), some (.int (Int32.ofNat (8 * k))), some (.int (Int32.ofNat e))], [.int (sb_i up), .ref (u)], A)) rfl ?_
      refine wp_iz rfl rfl rfl (fun (h2 : (sb_i up) = (Int32.ofNat 0)) => ?_) (fun (h2 : ¬ ((sb_i up) = (Int32.ofNat 0))) => ?_)
      · skip
        refine wp_st 1 (f' := (65, [some (.ref (u)), some (.long (x)), none, some (.int (sb_i up)), some (.int (Int32.ofNat 0)), some (.int (Int32.ofNat (8 * k))), some (.int (Int32.ofNat e))], [.int (Int32.ofNat e), .ref (u)], A)) rfl ?_
        obtain ⟨B1, c1, w1, go1, rs1, O1, fr1⟩ := op_put (d := d - 1) (x := e) (by omega) hh
        have O2 := O1
        obtain ⟨cs1, q01, q11, hl1, hw1, hk1, h451⟩ := O1
        unfold sb_oc at q01
        refine wp_cv (A' := B1) (v := some (.int (c1))) rfl rfl rfl rfl rfl q0 (by omega) (go1) rfl ?_
        show am_wp d 110 (68, [some (.ref (u)), some (.long (x)), none, some (.int (sb_i up)), some (.int (Int32.ofNat 0)), some (.int (Int32.ofNat (8 * k))), some (.int (Int32.ofNat e))], [.int (c1)], B1) _
        refine wp_st 3 (f' := (7, [some (.ref (u)), some (.long (x)), none, some (.int (sb_i up)), some (.int (c1)), some (.int ((Int32.ofNat (8 * k)) + (-8))), some (.int (Int32.ofNat e))], [], B1)) rfl ?_
        have hup : sb_up up (sb_b64 x (8 * k) % 256) = e := by rw [← he, sb_up, if_neg (fun q => by first | omega | (cases up <;> simp_all [sb_i]))]
        rw [sb_pt, if_neg (by omega), hup]
        by_cases hc1 : c1 = 0
        · subst hc1
          obtain ⟨z, z1, c2, w2, z2, z3, z4, z5⟩ := ih w1 B1 (some (.int (Int32.ofNat e))) (by omega) O2
          exact ⟨z, z1, c2, w2, z2, rs1.app z3, z4, fr1.trans z5⟩
        · refine op_pk_x hc1 ⟨c1, w1, rfl, ?_, O2, fr1⟩
          have z := rs1.full (l' := sb_pt x up k) hc1
          rcases rs1 with ⟨-, y, -⟩ | ⟨-, y⟩
          · exact absurd y hc1
          · rw [y]; exact z
      · skip
        refine wp_st 2 (f' := (42, [some (.ref (u)), some (.long (x)), none, some (.int (sb_i up)), some (.int (Int32.ofNat 0)), some (.int (Int32.ofNat (8 * k))), some (.int (Int32.ofNat e))], [.int (Int32.ofNat 97), .int (Int32.ofNat e), .ref (u)], A)) rfl ?_
        refine wp_if rfl rfl rfl (fun (h3 : (Int32.ofNat e) < (Int32.ofNat 97)) => ?_) (fun (h3 : ¬ ((Int32.ofNat e) < (Int32.ofNat 97))) => ?_)
        · skip
          rw [i32_lt (by omega) (by omega)] at h3
          refine wp_st 1 (f' := (65, [some (.ref (u)), some (.long (x)), none, some (.int (sb_i up)), some (.int (Int32.ofNat 0)), some (.int (Int32.ofNat (8 * k))), some (.int (Int32.ofNat e))], [.int (Int32.ofNat e), .ref (u)], A)) rfl ?_
          obtain ⟨B1, c1, w1, go1, rs1, O1, fr1⟩ := op_put (d := d - 1) (x := e) (by omega) hh
          have O2 := O1
          obtain ⟨cs1, q01, q11, hl1, hw1, hk1, h451⟩ := O1
          unfold sb_oc at q01
          refine wp_cv (A' := B1) (v := some (.int (c1))) rfl rfl rfl rfl rfl q0 (by omega) (go1) rfl ?_
          show am_wp d 110 (68, [some (.ref (u)), some (.long (x)), none, some (.int (sb_i up)), some (.int (Int32.ofNat 0)), some (.int (Int32.ofNat (8 * k))), some (.int (Int32.ofNat e))], [.int (c1)], B1) _
          refine wp_st 3 (f' := (7, [some (.ref (u)), some (.long (x)), none, some (.int (sb_i up)), some (.int (c1)), some (.int ((Int32.ofNat (8 * k)) + (-8))), some (.int (Int32.ofNat e))], [], B1)) rfl ?_
          have hup : sb_up up (sb_b64 x (8 * k) % 256) = e := by rw [← he, sb_up, if_neg (fun q => by first | omega | (cases up <;> simp_all [sb_i]))]
          rw [sb_pt, if_neg (by omega), hup]
          by_cases hc1 : c1 = 0
          · subst hc1
            obtain ⟨z, z1, c2, w2, z2, z3, z4, z5⟩ := ih w1 B1 (some (.int (Int32.ofNat e))) (by omega) O2
            exact ⟨z, z1, c2, w2, z2, rs1.app z3, z4, fr1.trans z5⟩
          · refine op_pk_x hc1 ⟨c1, w1, rfl, ?_, O2, fr1⟩
            have z := rs1.full (l' := sb_pt x up k) hc1
            rcases rs1 with ⟨-, y, -⟩ | ⟨-, y⟩
            · exact absurd y hc1
            · rw [y]; exact z
        · skip
          rw [i32_lt (by omega) (by omega)] at h3
          refine wp_st 2 (f' := (49, [some (.ref (u)), some (.long (x)), none, some (.int (sb_i up)), some (.int (Int32.ofNat 0)), some (.int (Int32.ofNat (8 * k))), some (.int (Int32.ofNat e))], [.int (Int32.ofNat 122), .int (Int32.ofNat e), .ref (u)], A)) rfl ?_
          refine wp_if rfl rfl rfl (fun (h4 : (Int32.ofNat 122) < (Int32.ofNat e)) => ?_) (fun (h4 : ¬ ((Int32.ofNat 122) < (Int32.ofNat e))) => ?_)
          · skip
            rw [i32_lt (by omega) (by omega)] at h4
            refine wp_st 1 (f' := (65, [some (.ref (u)), some (.long (x)), none, some (.int (sb_i up)), some (.int (Int32.ofNat 0)), some (.int (Int32.ofNat (8 * k))), some (.int (Int32.ofNat e))], [.int (Int32.ofNat e), .ref (u)], A)) rfl ?_
            obtain ⟨B1, c1, w1, go1, rs1, O1, fr1⟩ := op_put (d := d - 1) (x := e) (by omega) hh
            have O2 := O1
            obtain ⟨cs1, q01, q11, hl1, hw1, hk1, h451⟩ := O1
            unfold sb_oc at q01
            refine wp_cv (A' := B1) (v := some (.int (c1))) rfl rfl rfl rfl rfl q0 (by omega) (go1) rfl ?_
            show am_wp d 110 (68, [some (.ref (u)), some (.long (x)), none, some (.int (sb_i up)), some (.int (Int32.ofNat 0)), some (.int (Int32.ofNat (8 * k))), some (.int (Int32.ofNat e))], [.int (c1)], B1) _
            refine wp_st 3 (f' := (7, [some (.ref (u)), some (.long (x)), none, some (.int (sb_i up)), some (.int (c1)), some (.int ((Int32.ofNat (8 * k)) + (-8))), some (.int (Int32.ofNat e))], [], B1)) rfl ?_
            have hup : sb_up up (sb_b64 x (8 * k) % 256) = e := by rw [← he, sb_up, if_neg (fun q => by first | omega | (cases up <;> simp_all [sb_i]))]
            rw [sb_pt, if_neg (by omega), hup]
            by_cases hc1 : c1 = 0
            · subst hc1
              obtain ⟨z, z1, c2, w2, z2, z3, z4, z5⟩ := ih w1 B1 (some (.int (Int32.ofNat e))) (by omega) O2
              exact ⟨z, z1, c2, w2, z2, rs1.app z3, z4, fr1.trans z5⟩
            · refine op_pk_x hc1 ⟨c1, w1, rfl, ?_, O2, fr1⟩
              have z := rs1.full (l' := sb_pt x up k) hc1
              rcases rs1 with ⟨-, y, -⟩ | ⟨-, y⟩
              · exact absurd y hc1
              · rw [y]; exact z
          · skip
            rw [i32_lt (by omega) (by omega)] at h4
            refine wp_st 3 (f' := (57, [some (.ref (u)), some (.long (x)), none, some (.int (sb_i up)), some (.int (Int32.ofNat 0)), some (.int (Int32.ofNat (8 * k))), some (.int (Int32.ofNat e))], [.int ((Int32.ofNat e) - (Int32.ofNat 97)), .ref (u)], A)) rfl ?_
            rw [i32_sub (a := e) (b := 97) (by omega)]
            refine wp_st 2 (f' := (60, [some (.ref (u)), some (.long (x)), none, some (.int (sb_i up)), some (.int (Int32.ofNat 0)), some (.int (Int32.ofNat (8 * k))), some (.int (Int32.ofNat e))], [.int ((Int32.ofNat (e - 97)) + (Int32.ofNat 65)), .ref (u)], A)) rfl ?_
            rw [i32_add (e - 97) (65)]
            refine wp_st 1 (f' := (65, [some (.ref (u)), some (.long (x)), none, some (.int (sb_i up)), some (.int (Int32.ofNat 0)), some (.int (Int32.ofNat (8 * k))), some (.int (Int32.ofNat e))], [.int (Int32.ofNat (e - 97 + 65)), .ref (u)], A)) rfl ?_
            obtain ⟨B1, c1, w1, go1, rs1, O1, fr1⟩ := op_put (d := d - 1) (x := e - 97 + 65) (by omega) hh
            have O2 := O1
            obtain ⟨cs1, q01, q11, hl1, hw1, hk1, h451⟩ := O1
            unfold sb_oc at q01
            refine wp_cv (A' := B1) (v := some (.int (c1))) rfl rfl rfl rfl rfl q0 (by omega) (go1) rfl ?_
            show am_wp d 110 (68, [some (.ref (u)), some (.long (x)), none, some (.int (sb_i up)), some (.int (Int32.ofNat 0)), some (.int (Int32.ofNat (8 * k))), some (.int (Int32.ofNat e))], [.int (c1)], B1) _
            refine wp_st 3 (f' := (7, [some (.ref (u)), some (.long (x)), none, some (.int (sb_i up)), some (.int (c1)), some (.int ((Int32.ofNat (8 * k)) + (-8))), some (.int (Int32.ofNat e))], [], B1)) rfl ?_
            have hup : sb_up up (sb_b64 x (8 * k) % 256) = e - 97 + 65 := by rw [← he, sb_up, if_pos ⟨by cases up <;> simp_all [sb_i], by omega, by omega⟩]
            rw [sb_pt, if_neg (by omega), hup]
            by_cases hc1 : c1 = 0
            · subst hc1
              obtain ⟨z, z1, c2, w2, z2, z3, z4, z5⟩ := ih w1 B1 (some (.int (Int32.ofNat e))) (by omega) O2
              exact ⟨z, z1, c2, w2, z2, rs1.app z3, z4, fr1.trans z5⟩
            · refine op_pk_x hc1 ⟨c1, w1, rfl, ?_, O2, fr1⟩
              have z := rs1.full (l' := sb_pt x up k) hc1
              rcases rs1 with ⟨-, y, -⟩ | ⟨-, y⟩
              · exact absurd y hc1
              · rw [y]; exact z
theorem op_pk {d u : Nat} {x : Int64} {up : Bool} {w : List Nat} {A : am_H} (hd : 1 ≤ d) (h : sb_O A u w) : sb_wrt d 110 [.ref u, .long x, .int (sb_i up)] A u w (sb_pt x up 4) := by
  have hh := h
  obtain ⟨cs, q0, q1, hl, hw, hk, h45⟩ := h
  unfold sb_oc at q0
  refine wp_goC ?_
  refine wp_st 4 (f' := (7, [some (.ref (u)), some (.long (x)), none, some (.int (sb_i up)), some (.int (Int32.ofNat 0)), some (.int (Int32.ofNat 24)), none], [], A)) rfl ?_
  exact op_pk_l hd 4 w A none (by omega) hh
theorem op_hx_x {d u : Nat} {x y : Int64} {c s6 : Int32} {b7 : Option Value} {A : am_H} {Q : am_O × am_H → Prop} (hc : c ≠ 0) (q : Q (.inl (some (.int c)), A)) : am_wp d 111 (35, [some (.ref u), some (.long x), none, some (.long y), none, some (.int c), some (.int s6), b7], [], A) Q := by
  refine wp_st 1 (f' := (37, [some (.ref (u)), some (.long (x)), none, some (.long (y)), none, some (.int (c)), some (.int (s6)), b7], [.int (s6)], A)) rfl ?_
  refine wp_iz rfl rfl rfl (fun (h1 : s6 < (Int32.ofNat 0)) => ?_) (fun (h1 : ¬ (s6 < (Int32.ofNat 0))) => ?_)
  · skip
    refine wp_st 1 (f' := (106, [some (.ref (u)), some (.long (x)), none, some (.long (y)), none, some (.int (c)), some (.int (s6)), b7], [.int (c)], A)) rfl ?_
    refine wp_rt rfl rfl rfl ?_
    exact q
  · skip
    refine wp_st 1 (f' := (42, [some (.ref (u)), some (.long (x)), none, some (.long (y)), none, some (.int (c)), some (.int (s6)), b7], [.int (c)], A)) rfl ?_
    refine wp_izT rfl rfl (hc) ?_
    refine wp_st 1 (f' := (106, [some (.ref (u)), some (.long (x)), none, some (.long (y)), none, some (.int (c)), some (.int (s6)), b7], [.int (c)], A)) rfl ?_
    refine wp_rt rfl rfl rfl ?_
    exact q
theorem op_hx_l {d u : Nat} {x y : Int64} (hd : 1 ≤ d) : ∀ (k : Nat) (w : List Nat) (A : am_H) (b7 : Option Value), k ≤ 16 → sb_O A u w → am_wp d 111 (35, [some (.ref u), some (.long x), none, some (.long y), none, some (.int 0), some (.int (sb_s4 k)), b7], [], A) (fun q => ∃ c w', q.1 = .inl (some (.int c)) ∧ sb_res w (sb_hx y k) c w' ∧ sb_O q.2 u w' ∧ sb_fr A q.2 u (u + 2)) := by
  intro k
  induction k with
  | zero =>
    intro w A b7 hk h
    have hh := h
    obtain ⟨cs, q0, q1, hl, hw, hk, h45⟩ := h
    unfold sb_oc at q0
    refine wp_st 1 (f' := (37, [some (.ref (u)), some (.long (x)), none, some (.long (y)), none, some (.int (Int32.ofNat 0)), some (.int (sb_s4 0)), b7], [.int (sb_s4 0)], A)) rfl ?_
    refine wp_izT rfl rfl (sb_s4_z) ?_
    refine wp_st 1 (f' := (106, [some (.ref (u)), some (.long (x)), none, some (.long (y)), none, some (.int (Int32.ofNat 0)), some (.int (sb_s4 0)), b7], [.int (Int32.ofNat 0)], A)) rfl ?_
    refine wp_rt rfl rfl rfl ?_
    exact ⟨0, w, rfl, sb_res.nil w hw, hh, sb_fr.refl ..⟩
  | succ k ih =>
    intro w A b7 hk4 h
    have hh := h
    obtain ⟨cs, q0, q1, hl, hw, hk, h45⟩ := h
    unfold sb_oc at q0
    rw [sb_s4_s]
    have hby : sb_b64 y (4 * k) % 16 < 16 := Nat.mod_lt _ (by decide)
    obtain ⟨e, he⟩ : ∃ e, e = sb_b64 y (4 * k) % 16 := ⟨_, rfl⟩
    rw [← he] at hby
    refine wp_st 1 (f' := (37, [some (.ref (u)), some (.long (x)), none, some (.long (y)), none, some (.int (Int32.ofNat 0)), some (.int (Int32.ofNat (4 * k))), b7], [.int (Int32.ofNat (4 * k))], A)) rfl ?_
    refine wp_izF rfl rfl (Int32.ofNat_not_neg (by omega)) ?_
    refine wp_st 1 (f' := (42, [some (.ref (u)), some (.long (x)), none, some (.long (y)), none, some (.int (Int32.ofNat 0)), some (.int (Int32.ofNat (4 * k))), b7], [.int (Int32.ofNat 0)], A)) rfl ?_
    refine wp_izF rfl rfl (by show ¬ ((0 : Int32) ≠ 0); decide) ?_
    refine wp_st 1 (f' := (47, [some (.ref (u)), some (.long (x)), none, some (.long (y)), none, some (.int (Int32.ofNat 0)), some (.int (Int32.ofNat (4 * k))), b7], [.int (Int32.ofNat (4 * k))], A)) rfl ?_
    refine wp_iz rfl rfl rfl (fun (h1 : (Int32.ofNat (4 * k)) = (Int32.ofNat 0)) => ?_) (fun (h1 : ¬ ((Int32.ofNat (4 * k)) = (Int32.ofNat 0))) => ?_)
    · skip
      have h1 : 4 * k = 0 := (i32_eq (a := 4 * k) (b := 0) (by omega) (by omega)).mp h1
      refine wp_st 6 (f' := (67, [some (.ref (u)), some (.long (x)), none, some (.long (y)), none, some (.int (Int32.ofNat 0)), some (.int (Int32.ofNat (4 * k))), b7], [.int ((((y.toUInt64 >>> ((Int32.ofNat (4 * k)).toInt64.toUInt64 &&& Int64.toUInt64 63)).toInt64).toInt32) &&& (Int32.ofNat 15))], A)) rfl ?_
      rw [sb_l15 (x := y) (k := 4 * k) (by omega), ← he]
      refine wp_st 4 (f' := (74, [some (.ref (u)), some (.long (x)), none, some (.long (y)), none, some (.int (Int32.ofNat 0)), some (.int (Int32.ofNat (4 * k))), some (.int (Int32.ofNat e))], [.int (Int32.ofNat 10), .int (Int32.ofNat e), .ref (u)], A)) rfl ?_
      refine wp_if rfl rfl rfl (fun (h2 : (Int32.ofNat 10) ≤ (Int32.ofNat e)) => ?_) (fun (h2 : ¬ ((Int32.ofNat 10) ≤ (Int32.ofNat e))) => ?_)
      · skip
        rw [i32_le (by omega) (by omega)] at h2
        refine wp_st 3 (f' := (90, [some (.ref (u)), some (.long (x)), none, some (.long (y)), none, some (.int (Int32.ofNat 0)), some (.int (Int32.ofNat (4 * k))), some (.int (Int32.ofNat e))], [.int ((Int32.ofNat e) - (Int32.ofNat 10)), .ref (u)], A)) rfl ?_
        rw [i32_sub (a := e) (b := 10) (by omega)]
        refine wp_st 2 (f' := (93, [some (.ref (u)), some (.long (x)), none, some (.long (y)), none, some (.int (Int32.ofNat 0)), some (.int (Int32.ofNat (4 * k))), some (.int (Int32.ofNat e))], [.int ((Int32.ofNat (e - 10)) + (Int32.ofNat 97)), .ref (u)], A)) rfl ?_
        rw [i32_add (e - 10) (97)]
        obtain ⟨B1, c1, w1, go1, rs1, O1, fr1⟩ := op_put (d := d - 1) (x := e - 10 + 97) (by omega) hh
        have O2 := O1
        obtain ⟨cs1, q01, q11, hl1, hw1, hk1, h451⟩ := O1
        unfold sb_oc at q01
        refine wp_cv (A' := B1) (v := some (.int (c1))) rfl rfl rfl rfl rfl q0 (by omega) (go1) rfl ?_
        show am_wp d 111 (96, [some (.ref (u)), some (.long (x)), none, some (.long (y)), none, some (.int (Int32.ofNat 0)), some (.int (Int32.ofNat (4 * k))), some (.int (Int32.ofNat e))], [.int (c1)], B1) _
        refine wp_st 3 (f' := (35, [some (.ref (u)), some (.long (x)), none, some (.long (y)), none, some (.int (c1)), some (.int ((Int32.ofNat (4 * k)) + (-4))), some (.int (Int32.ofNat e))], [], B1)) rfl ?_
        have hup : sb_hd (sb_b64 y (4 * k) % 16) = e - 10 + 97 := by rw [← he, sb_hd, if_neg (by omega)]
        rw [sb_hx, if_pos (Or.inl (by omega)), hup]
        by_cases hc1 : c1 = 0
        · subst hc1
          obtain ⟨z, z1, c2, w2, z2, z3, z4, z5⟩ := ih w1 B1 (some (.int (Int32.ofNat e))) (by omega) O2
          exact ⟨z, z1, c2, w2, z2, rs1.app z3, z4, fr1.trans z5⟩
        · refine op_hx_x hc1 ⟨c1, w1, rfl, ?_, O2, fr1⟩
          have z := rs1.full (l' := sb_hx y k) hc1
          rcases rs1 with ⟨-, y, -⟩ | ⟨-, y⟩
          · exact absurd y hc1
          · rw [y]; exact z
      · skip
        rw [i32_le (by omega) (by omega)] at h2
        refine wp_st 3 (f' := (82, [some (.ref (u)), some (.long (x)), none, some (.long (y)), none, some (.int (Int32.ofNat 0)), some (.int (Int32.ofNat (4 * k))), some (.int (Int32.ofNat e))], [.int ((Int32.ofNat e) + (Int32.ofNat 48)), .ref (u)], A)) rfl ?_
        rw [i32_add (e) (48)]
        refine wp_st 1 (f' := (93, [some (.ref (u)), some (.long (x)), none, some (.long (y)), none, some (.int (Int32.ofNat 0)), some (.int (Int32.ofNat (4 * k))), some (.int (Int32.ofNat e))], [.int (Int32.ofNat (e + 48)), .ref (u)], A)) rfl ?_
        obtain ⟨B1, c1, w1, go1, rs1, O1, fr1⟩ := op_put (d := d - 1) (x := e + 48) (by omega) hh
        have O2 := O1
        obtain ⟨cs1, q01, q11, hl1, hw1, hk1, h451⟩ := O1
        unfold sb_oc at q01
        refine wp_cv (A' := B1) (v := some (.int (c1))) rfl rfl rfl rfl rfl q0 (by omega) (go1) rfl ?_
        show am_wp d 111 (96, [some (.ref (u)), some (.long (x)), none, some (.long (y)), none, some (.int (Int32.ofNat 0)), some (.int (Int32.ofNat (4 * k))), some (.int (Int32.ofNat e))], [.int (c1)], B1) _
        refine wp_st 3 (f' := (35, [some (.ref (u)), some (.long (x)), none, some (.long (y)), none, some (.int (c1)), some (.int ((Int32.ofNat (4 * k)) + (-4))), some (.int (Int32.ofNat e))], [], B1)) rfl ?_
        have hup : sb_hd (sb_b64 y (4 * k) % 16) = e + 48 := by rw [← he, sb_hd, if_pos (by omega)]
        rw [sb_hx, if_pos (Or.inl (by omega)), hup]
        by_cases hc1 : c1 = 0
        · subst hc1
          obtain ⟨z, z1, c2, w2, z2, z3, z4, z5⟩ := ih w1 B1 (some (.int (Int32.ofNat e))) (by omega) O2
          exact ⟨z, z1, c2, w2, z2, rs1.app z3, z4, fr1.trans z5⟩
        · refine op_hx_x hc1 ⟨c1, w1, rfl, ?_, O2, fr1⟩
          have z := rs1.full (l' := sb_hx y k) hc1
          rcases rs1 with ⟨-, y, -⟩ | ⟨-, y⟩
          · exact absurd y hc1
          · rw [y]; exact z
    · skip
      have h1 : ¬ 4 * k = 0 := fun q => h1 ((i32_eq (a := 4 * k) (b := 0) (by omega) (by omega)).mpr q)
      refine wp_st 5 (f' := (56, [some (.ref (u)), some (.long (x)), none, some (.long (y)), none, some (.int (Int32.ofNat 0)), some (.int (Int32.ofNat (4 * k))), b7], [.int (lg_cmp ((y.toUInt64 >>> ((Int32.ofNat (4 * k)).toInt64.toUInt64 &&& Int64.toUInt64 63)).toInt64) (Int64.ofNat 0))], A)) rfl ?_
      refine wp_iz rfl rfl rfl (fun (h3 : (lg_cmp ((y.toUInt64 >>> ((Int32.ofNat (4 * k)).toInt64.toUInt64 &&& Int64.toUInt64 63)).toInt64) (Int64.ofNat 0)) = (Int32.ofNat 0)) => ?_) (fun (h3 : ¬ ((lg_cmp ((y.toUInt64 >>> ((Int32.ofNat (4 * k)).toInt64.toUInt64 &&& Int64.toUInt64 63)).toInt64) (Int64.ofNat 0)) = (Int32.ofNat 0))) => ?_)
      · skip
        refine wp_st 2 (f' := (35, [some (.ref (u)), some (.long (x)), none, some (.long (y)), none, some (.int (Int32.ofNat 0)), some (.int ((Int32.ofNat (4 * k)) + (-4))), b7], [], A)) rfl ?_
        have h8 := (sb_l0 (by omega)).mp (sb_cmp0.mp h3)
        have h9 := ih w A b7 (by omega) hh
        rw [sb_hx, if_neg (by omega)]
        exact h9
      · skip
        refine wp_st 6 (f' := (67, [some (.ref (u)), some (.long (x)), none, some (.long (y)), none, some (.int (Int32.ofNat 0)), some (.int (Int32.ofNat (4 * k))), b7], [.int ((((y.toUInt64 >>> ((Int32.ofNat (4 * k)).toInt64.toUInt64 &&& Int64.toUInt64 63)).toInt64).toInt32) &&& (Int32.ofNat 15))], A)) rfl ?_
        rw [sb_l15 (x := y) (k := 4 * k) (by omega), ← he]
        refine wp_st 4 (f' := (74, [some (.ref (u)), some (.long (x)), none, some (.long (y)), none, some (.int (Int32.ofNat 0)), some (.int (Int32.ofNat (4 * k))), some (.int (Int32.ofNat e))], [.int (Int32.ofNat 10), .int (Int32.ofNat e), .ref (u)], A)) rfl ?_
        refine wp_if rfl rfl rfl (fun (h4 : (Int32.ofNat 10) ≤ (Int32.ofNat e)) => ?_) (fun (h4 : ¬ ((Int32.ofNat 10) ≤ (Int32.ofNat e))) => ?_)
        · skip
          rw [i32_le (by omega) (by omega)] at h4
          refine wp_st 3 (f' := (90, [some (.ref (u)), some (.long (x)), none, some (.long (y)), none, some (.int (Int32.ofNat 0)), some (.int (Int32.ofNat (4 * k))), some (.int (Int32.ofNat e))], [.int ((Int32.ofNat e) - (Int32.ofNat 10)), .ref (u)], A)) rfl ?_
          rw [i32_sub (a := e) (b := 10) (by omega)]
          refine wp_st 2 (f' := (93, [some (.ref (u)), some (.long (x)), none, some (.long (y)), none, some (.int (Int32.ofNat 0)), some (.int (Int32.ofNat (4 * k))), some (.int (Int32.ofNat e))], [.int ((Int32.ofNat (e - 10)) + (Int32.ofNat 97)), .ref (u)], A)) rfl ?_
          rw [i32_add (e - 10) (97)]
          obtain ⟨B1, c1, w1, go1, rs1, O1, fr1⟩ := op_put (d := d - 1) (x := e - 10 + 97) (by omega) hh
          have O2 := O1
          obtain ⟨cs1, q01, q11, hl1, hw1, hk1, h451⟩ := O1
          unfold sb_oc at q01
          refine wp_cv (A' := B1) (v := some (.int (c1))) rfl rfl rfl rfl rfl q0 (by omega) (go1) rfl ?_
          show am_wp d 111 (96, [some (.ref (u)), some (.long (x)), none, some (.long (y)), none, some (.int (Int32.ofNat 0)), some (.int (Int32.ofNat (4 * k))), some (.int (Int32.ofNat e))], [.int (c1)], B1) _
          refine wp_st 3 (f' := (35, [some (.ref (u)), some (.long (x)), none, some (.long (y)), none, some (.int (c1)), some (.int ((Int32.ofNat (4 * k)) + (-4))), some (.int (Int32.ofNat e))], [], B1)) rfl ?_
          have hup : sb_hd (sb_b64 y (4 * k) % 16) = e - 10 + 97 := by rw [← he, sb_hd, if_neg (by omega)]
          rw [sb_hx, if_pos (Or.inr (fun q => h3 (sb_cmp0.mpr ((sb_l0 (by omega)).mpr q)))), hup]
          by_cases hc1 : c1 = 0
          · subst hc1
            obtain ⟨z, z1, c2, w2, z2, z3, z4, z5⟩ := ih w1 B1 (some (.int (Int32.ofNat e))) (by omega) O2
            exact ⟨z, z1, c2, w2, z2, rs1.app z3, z4, fr1.trans z5⟩
          · refine op_hx_x hc1 ⟨c1, w1, rfl, ?_, O2, fr1⟩
            have z := rs1.full (l' := sb_hx y k) hc1
            rcases rs1 with ⟨-, y, -⟩ | ⟨-, y⟩
            · exact absurd y hc1
            · rw [y]; exact z
        · skip
          rw [i32_le (by omega) (by omega)] at h4
          refine wp_st 3 (f' := (82, [some (.ref (u)), some (.long (x)), none, some (.long (y)), none, some (.int (Int32.ofNat 0)), some (.int (Int32.ofNat (4 * k))), some (.int (Int32.ofNat e))], [.int ((Int32.ofNat e) + (Int32.ofNat 48)), .ref (u)], A)) rfl ?_
          rw [i32_add (e) (48)]
          refine wp_st 1 (f' := (93, [some (.ref (u)), some (.long (x)), none, some (.long (y)), none, some (.int (Int32.ofNat 0)), some (.int (Int32.ofNat (4 * k))), some (.int (Int32.ofNat e))], [.int (Int32.ofNat (e + 48)), .ref (u)], A)) rfl ?_
          obtain ⟨B1, c1, w1, go1, rs1, O1, fr1⟩ := op_put (d := d - 1) (x := e + 48) (by omega) hh
          have O2 := O1
          obtain ⟨cs1, q01, q11, hl1, hw1, hk1, h451⟩ := O1
          unfold sb_oc at q01
          refine wp_cv (A' := B1) (v := some (.int (c1))) rfl rfl rfl rfl rfl q0 (by omega) (go1) rfl ?_
          show am_wp d 111 (96, [some (.ref (u)), some (.long (x)), none, some (.long (y)), none, some (.int (Int32.ofNat 0)), some (.int (Int32.ofNat (4 * k))), some (.int (Int32.ofNat e))], [.int (c1)], B1) _
          refine wp_st 3 (f' := (35, [some (.ref (u)), some (.long (x)), none, some (.long (y)), none, some (.int (c1)), some (.int ((Int32.ofNat (4 * k)) + (-4))), some (.int (Int32.ofNat e))], [], B1)) rfl ?_
          have hup : sb_hd (sb_b64 y (4 * k) % 16) = e + 48 := by rw [← he, sb_hd, if_pos (by omega)]
          rw [sb_hx, if_pos (Or.inr (fun q => h3 (sb_cmp0.mpr ((sb_l0 (by omega)).mpr q)))), hup]
          by_cases hc1 : c1 = 0
          · subst hc1
            obtain ⟨z, z1, c2, w2, z2, z3, z4, z5⟩ := ih w1 B1 (some (.int (Int32.ofNat e))) (by omega) O2
            exact ⟨z, z1, c2, w2, z2, rs1.app z3, z4, fr1.trans z5⟩
          · refine op_hx_x hc1 ⟨c1, w1, rfl, ?_, O2, fr1⟩
            have z := rs1.full (l' := sb_hx y k) hc1
            rcases rs1 with ⟨-, y, -⟩ | ⟨-, y⟩
            · exact absurd y hc1
            · rw [y]; exact z
theorem op_hx {d u : Nat} {x : Int64} {w : List Nat} {A : am_H} (hd : 1 ≤ d) (h : sb_O A u w) : sb_wrt d 111 [.ref u, .long x] A u w (sb_sg x ++ sb_hx (sb_abs x) 16) := by
  have hh := h
  obtain ⟨cs, q0, q1, hl, hw, hk, h45⟩ := h
  unfold sb_oc at q0
  refine wp_goC ?_
  refine wp_st 3 (f' := (3, [some (.ref (u)), some (.long (x)), none, none, none, none, none, none], [.int (lg_cmp x (Int64.ofNat 0))], A)) rfl ?_
  refine wp_iz rfl rfl rfl (fun (h1 : (Int32.ofNat 0) ≤ (lg_cmp x (Int64.ofNat 0))) => ?_) (fun (h1 : ¬ ((Int32.ofNat 0) ≤ (lg_cmp x (Int64.ofNat 0)))) => ?_)
  · skip
    refine wp_st 5 (f' := (16, [some (.ref (u)), some (.long (x)), none, some (.long (x)), none, none, none, none], [.int (lg_cmp x (Int64.ofNat 0))], A)) rfl ?_
    refine wp_izT rfl rfl (h1) ?_
    refine wp_st 4 (f' := (35, [some (.ref (u)), some (.long (x)), none, some (.long (x)), none, some (.int (Int32.ofNat 0)), some (.int (Int32.ofNat 60)), none], [], A)) rfl ?_
    have hx : ¬ x < 0 := fun q => absurd ((lg_cmp_ge x (Int64.ofNat 0)).mp (h1)) (by simpa using q)
    rw [sb_sg, if_neg hx, sb_abs, if_neg hx, List.nil_append]
    exact op_hx_l hd 16 w A none (by omega) hh
  · skip
    refine wp_st 7 (f' := (16, [some (.ref (u)), some (.long (x)), none, some (.long (-x)), none, none, none, none], [.int (lg_cmp x (Int64.ofNat 0))], A)) rfl ?_
    refine wp_izF rfl rfl (h1) ?_
    refine wp_st 2 (f' := (22, [some (.ref (u)), some (.long (x)), none, some (.long (-x)), none, none, none, none], [.int (Int32.ofNat 45), .ref (u)], A)) rfl ?_
    obtain ⟨B1, c1, w1, go1, rs1, O1, fr1⟩ := op_put (d := d - 1) (x := 45) (by omega) hh
    have O2 := O1
    obtain ⟨cs1, q01, q11, hl1, hw1, hk1, h451⟩ := O1
    unfold sb_oc at q01
    refine wp_cv (A' := B1) (v := some (.int (c1))) rfl rfl rfl rfl rfl q0 (by omega) (go1) rfl ?_
    show am_wp d 111 (25, [some (.ref (u)), some (.long (x)), none, some (.long (-x)), none, none, none, none], [.int (c1)], B1) _
    refine wp_st 4 (f' := (35, [some (.ref (u)), some (.long (x)), none, some (.long (-x)), none, some (.int (c1)), some (.int (Int32.ofNat 60)), none], [], B1)) rfl ?_
    have hx : x < 0 := by have q : ¬ (0 : Int32) ≤ lg_cmp x (Int64.ofNat 0) := h1; rw [lg_cmp_ge] at q; exact Int64.not_le.mp q
    rw [sb_sg, if_pos hx, sb_abs, if_pos hx]
    by_cases hc1 : c1 = 0
    · subst hc1
      obtain ⟨z, z1, c2, w2, z2, z3, z4, z5⟩ := op_hx_l (x := x) (y := -x) hd 16 w1 B1 none (by omega) O2
      exact ⟨z, z1, c2, w2, z2, rs1.app z3, z4, fr1.trans z5⟩
    · refine op_hx_x hc1 ⟨c1, w1, rfl, ?_, O2, fr1⟩
      have z := rs1.full (l' := sb_hx (-x) 16) hc1
      rcases rs1 with ⟨-, y, -⟩ | ⟨-, y⟩
      · exact absurd y hc1
      · rw [y]; exact z
