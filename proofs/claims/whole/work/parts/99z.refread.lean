/-! The reference: readMessage. -/
theorem rm_u0_X (s : rf_S) : rm_X s (rm_u0 s) := by
  unfold rm_u0
  exact (((((((rm_X.refl s).u (by unfold rm_sc; omega)).u (by unfold rm_sc; omega)).u (by unfold rm_sc; omega)).u (by unfold rm_sc; omega)).u (by unfold rm_sc; omega)).u (by unfold rm_sc; omega)).u (by unfold rm_sc; omega)
theorem rm_u0_I {s : rf_S} {M : mg} (ob : Nat → Nat) : rm_I (rm_u0 s) (mg_clr M) 0 (fun _ => 0) (fun _ => 0) (fun _ => none) ob false := by
  refine rm_I.of ⟨by omega, Nat.zero_le _, Nat.zero_le _, ?_, ?_, ?_, ?_, fun l hl => ?_, fun l h1 h2 => by omega, ?_, fun i hi => absurd hi (Nat.not_lt_zero _), fun i hi => absurd hi (Nat.not_lt_zero _), fun i hi => absurd hi (Nat.not_lt_zero _), fun i hi => absurd hi (Nat.not_lt_zero _), fun i hi => absurd hi (Nat.not_lt_zero _), fun i hi => absurd hi (Nat.not_lt_zero _), fun l hl i hi => (by cases hi), fun i hi => absurd hi (Nat.not_lt_zero _), fun i hi => absurd hi (Nat.not_lt_zero _), fun l h1 h2 => by omega, ⟨?_, fun z => absurd rfl z, fun _ => rfl⟩, fun l m h1 h2 h3 => by omega, fun i hi => absurd hi (Nat.not_lt_zero _)⟩
  · unfold rm_u0
    simp only [rf_u_if]
    rfl
  · unfold rm_u0
    simp only [rf_u_if]
    rfl
  · unfold rm_u0
    simp only [rf_u_if]
    rfl
  · unfold rm_u0
    simp only [rf_u_if]
    rfl
  · obtain rfl : l = 0 := by omega
    unfold rm_u0
    simp only [rf_u_if]
    rfl
  · unfold rm_u0
    simp only [rf_u_if]
    rfl
  · unfold rm_u0
    simp only [rf_u_if]
    rfl
def mm_R (A : am_H) (s : rf_S) (b n : Nat) (x : rd_R) (q : am_O × am_H) : Prop := match x with
  | .ok y => q.1 = .inl none ∧ ∃ u p r g, rf q.2 b (rf_c u p (-1) r g) ∧ rm_K u y.2 256 128 2 ∧ u 19 0 = .int (Int32.ofNat (mg_P y.2)) ∧ u 20 0 = .int (Int32.ofNat (mg_ct (mg_k y.2) (mg_P y.2))) ∧ u 21 0 = .int (Int32.ofNat (mg_B y.2)) ∧ rm_X s u ∧ sb_fr A q.2 b (b + 38)
  | .error e => q.1 = .inl none ∧ ∃ u p r g, rf q.2 b (rf_c u p (Int32.ofNat e) r g) ∧ e ≤ n ∧ rm_X s u ∧ sb_fr A q.2 b (b + 38)
theorem mm_read {d b n p g : Nat} {w : Int32} {r : Int64} {cs : List Nat} {dbl : Bool} {s : rf_S} {A : am_H} {M : mg} (hd : 10 ≤ d) (hx : rf_tx s cs n) (h27 : s 27 0 = .int (sb_i dbl)) (hc128 : ∀ j, cs.getD j 0 < 128) (h : rf A b (rf_c s p w r g)) : am_wp d 122 (0, am_ent 122 [.ref b], [], A) (mm_R A s b n (rd_msg cs n dbl 3 true false 0 (mg_clr M))) := by
  refine mm_ent h (fun B hB fB => ?_)
  have hX := rm_u0_X s
  rw [rd_msg_in]
  refine ml_main (A0 := A) (s0 := s) (dbl := dbl) hd hx h27 hc128 3 0 rfl 120 0 (mg_clr M) (fun _ => none) (fun _ => 0) (fun _ => false) B _ (by have := hx.2.2.1; omega) ⟨⟨_, _, _, _, _, _, hB, rm_u0_I _, fun i hi => (by cases hi), fun l hl => rfl, hX, fB⟩, Nat.zero_le _, Nat.zero_le _, Nat.zero_le _, Nat.zero_le _, fun l h1 h2 => by omega⟩ (fun a' M' A' hr ha hG => ?_) (fun e A' hr hE => ?_)
  · obtain ⟨⟨t, r', g', E, dp, lp', q1, q2, q3, q4, q5, q6⟩, q7, q8, q9, q10, q11⟩ := hG
    have ha' : n ≤ a' := by
      rcases ha with z | z
      · exact z
      · exact absurd rfl z.2
    refine lh_ok (cs := cs) (q5.tx hx) ha' q7 q2.s22 q1 ?_
    have hr' : rd_loop cs n dbl (ml_in cs n dbl 3) true false 120 0 (mg_clr M) = .ok (a', M') := hr
    rw [hr']
    have := hx.2.2.1
    exact ⟨rfl, t, _, _, _, q1, rm_K_I q2 q3 (show mg_ct (mg_k M') (mg_P M') ≤ 40 by omega), q2.s19, q2.s20, q2.s21, q5, q6⟩
  · have hr' : rd_loop cs n dbl (ml_in cs n dbl 3) true false 120 0 (mg_clr M) = .error e := hr
    rw [hr']
    obtain ⟨t, p', w', r', g', L, q1, q2, q3, q4, q5, q6, q7⟩ := hE
    rcases q5 with ⟨z1, z2⟩ | ⟨z1, z2, z3, z4⟩
    · subst z1
      exact lh_er1 (by omega) (q6.tx hx) z2 q3 q2 q1 (fun C hC fC => ⟨rfl, t, _, _, _, hC, z2, q6, q7.trans fC⟩)
    · subst z1
      subst z4
      exact lh_er2 (by omega) (q6.tx hx) z2 q4 q3 z3 q2 q1 (fun C hC fC => ⟨rfl, t, _, _, _, hC, Nat.le_refl _, q6, q7.trans fC⟩)
