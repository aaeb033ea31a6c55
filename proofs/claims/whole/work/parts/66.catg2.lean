/-! RuleSet: conditionHolds, categoryOf, as functions. -/
/-- ranges and relations lie where they should -/
def rg_wf (S : rg) : Prop := (∀ r, r < rg_R S → rg_a S r ≤ rg_b S r ∧ rg_b S r ≤ rg_G S) ∧ (∀ c, c < 5 → rg_e S c ≤ rg_R S)
theorem gn_rel {d s v k q : Nat} {S : rg} {A : am_H} (hq : q < rg_R S) (hk : k ≤ 6) (hv : v < 9223372036854775808) (hw : rg_wf S) (hP : sb_P A (s + 11) (sb_am v k) (Int64.ofNat (10 ^ k))) (h : sb_G A s S) : am_go d 97 [.ref s, .int (Int32.ofNat q)] A (.inl (some (.int (sb_i (ct_rel S v k q)))), A) := by
  have hPP := h.P
  obtain ⟨fi, en, op, mo, ng, og, fr, re, lo, hi, h, ⟨e1, e2, e3, e4, e5, e6, e7, e8, e9, e10⟩, o1, o2, o3, o4, o5, o6, o7, o8⟩ := h
  have hwq := hw.1 q hq
  have h1 := rl_go (d := d) (v := v) (k := k) (q := q) (l := rg_l S) (h9 := rg_h S) (by omega) hk hv (by rw [e3]; exact o3 q) (by rw [e4]; exact o4 q) (fun i => by rw [e9]; exact o7 i) (fun i => by rw [e10]; exact o8 i) (by rw [e7, e8]; exact hwq.1) (by rw [e8]; exact hwq.2) e9 e10 hP h
  rw [e3, e4, e5, e7, e8] at h1
  exact h1
theorem gn_cond_l {d s v k e : Nat} {S : rg} {A : am_H} {z1 : Int32} (hd : 1 ≤ d) (he : e ≤ rg_R S) (hk : k ≤ 6) (hv : v < 9223372036854775808) (hw : rg_wf S) (hP : sb_P A (s + 11) (sb_am v k) (Int64.ofNat (10 ^ k))) (h : sb_G A s S) : ∀ (q j : Nat) (f : Bool), e - j = q → j ≤ e → am_wp d 96 (5, [some (.ref s), some (.int z1), some (.int (Int32.ofNat e)), some (.int (sb_i f)), some (.int (Int32.ofNat j))], [], A) (fun z => z = (.inl (some (.int (sb_i (ct_cond S v k q j f)))), A)) := by
  have hPP := h.P
  have hG := h
  obtain ⟨fi, en, op, mo, ng, og, fr, re, lo, hi, h, ⟨e1, e2, e3, e4, e5, e6, e7, e8, e9, e10⟩, o1, o2, o3, o4, o5, o6, o7, o8⟩ := h
  have hh9 := h
  obtain ⟨q0, q1, q2, q3, q4, q5, q6, q7, q8, q9, q10, ⟨l1, l2⟩, ⟨l3, l4, l5, l6, l7, l8⟩, ⟨l9, l10⟩, hr, hg, h45⟩ := h
  unfold sb_rc at q0
  intro q
  induction q with
  | zero =>
    intro j f h1 h2
    refine wp_st 2 (f' := (8, [some (.ref (s)), some (.int (z1)), some (.int (Int32.ofNat e)), some (.int (sb_i f)), some (.int (Int32.ofNat j))], [.int (Int32.ofNat e), .int (Int32.ofNat j)], A)) rfl ?_
    refine wp_ifT rfl rfl ((i32_le (a := e) (b := j) (by omega) (by omega)).mpr (by omega)) ?_
    refine wp_st 1 (f' := (64, [some (.ref (s)), some (.int (z1)), some (.int (Int32.ofNat e)), some (.int (sb_i f)), some (.int (Int32.ofNat j))], [.int (sb_i f)], A)) rfl ?_
    refine wp_rt rfl rfl (sb_ret rfl (sb_fitz _)) ?_
    rfl
  | succ q ih =>
    intro j f h1 h2
    refine wp_st 2 (f' := (8, [some (.ref (s)), some (.int (z1)), some (.int (Int32.ofNat e)), some (.int (sb_i f)), some (.int (Int32.ofNat j))], [.int (Int32.ofNat e), .int (Int32.ofNat j)], A)) rfl ?_
    refine wp_ifF rfl rfl (fun q => absurd ((i32_le (a := e) (b := j) (by omega) (by omega)).mp q) (by omega)) ?_
    refine wp_st 2 (f' := (14, [some (.ref (s)), some (.int (z1)), some (.int (Int32.ofNat e)), some (.int (sb_i f)), some (.int (Int32.ofNat j))], [.ref (s), .int (Int32.ofNat j)], A)) rfl ?_
    refine wp_gf rfl rfl q0 rfl rfl ?_
    refine wp_ifF rfl rfl (fun q => absurd ((i32_le (a := rg_R S) (b := j) (by omega) (by omega)).mp q) (by omega)) ?_
    refine wp_st 1 (f' := (21, [some (.ref (s)), some (.int (z1)), some (.int (Int32.ofNat e)), some (.int (sb_i f)), some (.int (Int32.ofNat j))], [.ref (s)], A)) rfl ?_
    refine wp_gf rfl rfl q0 rfl rfl ?_
    refine wp_st 1 (f' := (26, [some (.ref (s)), some (.int (z1)), some (.int (Int32.ofNat e)), some (.int (sb_i f)), some (.int (Int32.ofNat j))], [.int (Int32.ofNat j), .ref (s + 6)], A)) rfl ?_
    refine wp_al rfl (Or.inr (Or.inr (Or.inr (Or.inl ⟨rfl, rfl⟩)))) rfl q6 (by omega) (sb_gd false (by omega)) rfl ?_
    rw [e6]
    by_cases b1 : (rg_g S j) = true
    · skip
      refine wp_izF rfl rfl (show ¬ (sb_i (rg_g S j) = 0) from by rw [b1]; decide) ?_
      refine wp_st 1 (f' := (31, [some (.ref (s)), some (.int (z1)), some (.int (Int32.ofNat e)), some (.int (sb_i f)), some (.int (Int32.ofNat j))], [.int (sb_i f)], A)) rfl ?_
      by_cases b2 : f = true
      · skip
        refine wp_izF rfl rfl (show ¬ (sb_i f = 0) from by rw [b2]; decide) ?_
        refine wp_st 1 (f' := (35, [some (.ref (s)), some (.int (z1)), some (.int (Int32.ofNat e)), some (.int (sb_i f)), some (.int (Int32.ofNat j))], [.int (Int32.ofNat 1)], A)) rfl ?_
        refine wp_rt rfl rfl rfl ?_
        have hres : ct_cond S v k (q + 1) j f = true := by rw [ct_cond]; simp [b1, b2]
        rw [hres]
        rfl
      · skip
        have b2f : f = false := by simpa using b2
        refine wp_izT rfl rfl (show sb_i f = 0 from by rw [b2f]; decide) ?_
        refine wp_st 3 (f' := (39, [some (.ref (s)), some (.int (z1)), some (.int (Int32.ofNat e)), some (.int (Int32.ofNat 1)), some (.int (Int32.ofNat j))], [.int (Int32.ofNat 1)], A)) rfl ?_
        refine wp_izF rfl rfl (show ¬ ((Int32.ofNat 1) = (Int32.ofNat 0)) from by decide) ?_
        refine wp_st 2 (f' := (45, [some (.ref (s)), some (.int (z1)), some (.int (Int32.ofNat e)), some (.int (Int32.ofNat 1)), some (.int (Int32.ofNat j))], [.int (Int32.ofNat j), .ref (s)], A)) rfl ?_
        refine wp_cv (A' := A) (v := some (.int (sb_i (ct_rel S v k j)))) rfl rfl rfl rfl rfl q0 (by omega) (gn_rel (d := d - 1) (q := j) (by omega) hk hv hw hP hG) rfl ?_
        show am_wp d 96 (48, [some (.ref (s)), some (.int (z1)), some (.int (Int32.ofNat e)), some (.int (Int32.ofNat 1)), some (.int (Int32.ofNat j))], [.int (sb_i (ct_rel S v k j))], A) _
        by_cases b3 : (ct_rel S v k j) = true
        · skip
          refine wp_izF rfl rfl (show ¬ (sb_i (ct_rel S v k j) = 0) from by rw [b3]; decide) ?_
          refine wp_st 4 (f' := (60, [some (.ref (s)), some (.int (z1)), some (.int (Int32.ofNat e)), some (.int (Int32.ofNat 1)), some (.int ((Int32.ofNat j) + (Int32.ofNat 1)))], [], A)) rfl ?_
          rw [i32_add (j) (1)]
          refine wp_st 1 (f' := (5, [some (.ref (s)), some (.int (z1)), some (.int (Int32.ofNat e)), some (.int (Int32.ofNat 1)), some (.int (Int32.ofNat (j + 1)))], [], A)) rfl ?_
          have hres : ct_cond S v k (q + 1) j f = ct_cond S v k q (j + 1) true := by rw [ct_cond]; simp [b1, b2, b3]
          rw [hres]
          exact ih (j + 1) true (by omega) (by omega)
        · skip
          have b3f : (ct_rel S v k j) = false := by simpa using b3
          refine wp_izT rfl rfl (show sb_i (ct_rel S v k j) = 0 from by rw [b3f]; decide) ?_
          refine wp_st 3 (f' := (60, [some (.ref (s)), some (.int (z1)), some (.int (Int32.ofNat e)), some (.int (Int32.ofNat 0)), some (.int ((Int32.ofNat j) + (Int32.ofNat 1)))], [], A)) rfl ?_
          rw [i32_add (j) (1)]
          refine wp_st 1 (f' := (5, [some (.ref (s)), some (.int (z1)), some (.int (Int32.ofNat e)), some (.int (Int32.ofNat 0)), some (.int (Int32.ofNat (j + 1)))], [], A)) rfl ?_
          have hres : ct_cond S v k (q + 1) j f = ct_cond S v k q (j + 1) false := by rw [ct_cond]; simp [b1, b2, b3]
          rw [hres]
          exact ih (j + 1) false (by omega) (by omega)
    · skip
      have b1f : (rg_g S j) = false := by simpa using b1
      refine wp_izT rfl rfl (show sb_i (rg_g S j) = 0 from by rw [b1f]; decide) ?_
      refine wp_st 1 (f' := (39, [some (.ref (s)), some (.int (z1)), some (.int (Int32.ofNat e)), some (.int (sb_i f)), some (.int (Int32.ofNat j))], [.int (sb_i f)], A)) rfl ?_
      by_cases b4 : f = true
      · skip
        refine wp_izF rfl rfl (show ¬ (sb_i f = 0) from by rw [b4]; decide) ?_
        refine wp_st 2 (f' := (45, [some (.ref (s)), some (.int (z1)), some (.int (Int32.ofNat e)), some (.int (sb_i f)), some (.int (Int32.ofNat j))], [.int (Int32.ofNat j), .ref (s)], A)) rfl ?_
        refine wp_cv (A' := A) (v := some (.int (sb_i (ct_rel S v k j)))) rfl rfl rfl rfl rfl q0 (by omega) (gn_rel (d := d - 1) (q := j) (by omega) hk hv hw hP hG) rfl ?_
        show am_wp d 96 (48, [some (.ref (s)), some (.int (z1)), some (.int (Int32.ofNat e)), some (.int (sb_i f)), some (.int (Int32.ofNat j))], [.int (sb_i (ct_rel S v k j))], A) _
        by_cases b5 : (ct_rel S v k j) = true
        · skip
          refine wp_izF rfl rfl (show ¬ (sb_i (ct_rel S v k j) = 0) from by rw [b5]; decide) ?_
          refine wp_st 4 (f' := (60, [some (.ref (s)), some (.int (z1)), some (.int (Int32.ofNat e)), some (.int (Int32.ofNat 1)), some (.int ((Int32.ofNat j) + (Int32.ofNat 1)))], [], A)) rfl ?_
          rw [i32_add (j) (1)]
          refine wp_st 1 (f' := (5, [some (.ref (s)), some (.int (z1)), some (.int (Int32.ofNat e)), some (.int (Int32.ofNat 1)), some (.int (Int32.ofNat (j + 1)))], [], A)) rfl ?_
          have hres : ct_cond S v k (q + 1) j f = ct_cond S v k q (j + 1) true := by rw [ct_cond]; simp [b1, b4, b5]
          rw [hres]
          exact ih (j + 1) true (by omega) (by omega)
        · skip
          have b5f : (ct_rel S v k j) = false := by simpa using b5
          refine wp_izT rfl rfl (show sb_i (ct_rel S v k j) = 0 from by rw [b5f]; decide) ?_
          refine wp_st 3 (f' := (60, [some (.ref (s)), some (.int (z1)), some (.int (Int32.ofNat e)), some (.int (Int32.ofNat 0)), some (.int ((Int32.ofNat j) + (Int32.ofNat 1)))], [], A)) rfl ?_
          rw [i32_add (j) (1)]
          refine wp_st 1 (f' := (5, [some (.ref (s)), some (.int (z1)), some (.int (Int32.ofNat e)), some (.int (Int32.ofNat 0)), some (.int (Int32.ofNat (j + 1)))], [], A)) rfl ?_
          have hres : ct_cond S v k (q + 1) j f = ct_cond S v k q (j + 1) false := by rw [ct_cond]; simp [b1, b4, b5]
          rw [hres]
          exact ih (j + 1) false (by omega) (by omega)
      · skip
        have b4f : f = false := by simpa using b4
        refine wp_izT rfl rfl (show sb_i f = 0 from by rw [b4f]; decide) ?_
        refine wp_st 3 (f' := (60, [some (.ref (s)), some (.int (z1)), some (.int (Int32.ofNat e)), some (.int (Int32.ofNat 0)), some (.int ((Int32.ofNat j) + (Int32.ofNat 1)))], [], A)) rfl ?_
        rw [i32_add (j) (1)]
        refine wp_st 1 (f' := (5, [some (.ref (s)), some (.int (z1)), some (.int (Int32.ofNat e)), some (.int (Int32.ofNat 0)), some (.int (Int32.ofNat (j + 1)))], [], A)) rfl ?_
        have hres : ct_cond S v k (q + 1) j f = ct_cond S v k q (j + 1) false := by rw [ct_cond]; simp [b1, b4]
        rw [hres]
        exact ih (j + 1) false (by omega) (by omega)
theorem gn_cond {d s v k x e : Nat} {S : rg} {A : am_H} (hd : 1 ≤ d) (hx : x ≤ e) (he : e ≤ rg_R S) (hk : k ≤ 6) (hv : v < 9223372036854775808) (hw : rg_wf S) (hP : sb_P A (s + 11) (sb_am v k) (Int64.ofNat (10 ^ k))) (h : sb_G A s S) : am_go d 96 [.ref s, .int (Int32.ofNat x), .int (Int32.ofNat e)] A (.inl (some (.int (sb_i (ct_cond S v k (e - x) x false)))), A) := by
  have hPP := h.P
  have hG := h
  obtain ⟨fi, en, op, mo, ng, og, fr, re, lo, hi, h, ⟨e1, e2, e3, e4, e5, e6, e7, e8, e9, e10⟩, o1, o2, o3, o4, o5, o6, o7, o8⟩ := h
  have hh9 := h
  obtain ⟨q0, q1, q2, q3, q4, q5, q6, q7, q8, q9, q10, ⟨l1, l2⟩, ⟨l3, l4, l5, l6, l7, l8⟩, ⟨l9, l10⟩, hr, hg, h45⟩ := h
  unfold sb_rc at q0
  refine wp_go ?_
  refine wp_st 4 (f' := (5, [some (.ref (s)), some (.int (Int32.ofNat x)), some (.int (Int32.ofNat e)), some (.int (Int32.ofNat 0)), some (.int (Int32.ofNat x))], [], A)) rfl ?_
  exact gn_cond_l hd he hk hv hw hP hG _ x false rfl hx
theorem gn_cat_l {d s v k : Nat} {S : rg} {A : am_H} {y1 : Int64} {z3 : Int32} (hd : 2 ≤ d) (hk : k ≤ 6) (hv : v < 9223372036854775808) (hw : rg_wf S) (hP : sb_P A (s + 11) (sb_am v k) (Int64.ofNat (10 ^ k))) (h : sb_G A s S) : ∀ (q c : Nat), 5 - c = q → c ≤ 5 → am_wp d 93 (12, [some (.ref s), some (.long y1), none, some (.int z3), some (.int (Int32.ofNat c))], [], A) (fun z => z = (.inl (some (.int (Int32.ofNat (ct_cat S v k q c)))), A)) := by
  have hPP := h.P
  have hG := h
  obtain ⟨fi, en, op, mo, ng, og, fr, re, lo, hi, h, ⟨e1, e2, e3, e4, e5, e6, e7, e8, e9, e10⟩, o1, o2, o3, o4, o5, o6, o7, o8⟩ := h
  have hh9 := h
  obtain ⟨q0, q1, q2, q3, q4, q5, q6, q7, q8, q9, q10, ⟨l1, l2⟩, ⟨l3, l4, l5, l6, l7, l8⟩, ⟨l9, l10⟩, hr, hg, h45⟩ := h
  unfold sb_rc at q0
  intro q
  induction q with
  | zero =>
    intro c h1 h2
    refine wp_st 2 (f' := (15, [some (.ref (s)), some (.long (y1)), none, some (.int (z3)), some (.int (Int32.ofNat c))], [.int (Int32.ofNat 5), .int (Int32.ofNat c)], A)) rfl ?_
    refine wp_ifT rfl rfl ((i32_le (a := 5) (b := c) (by omega) (by omega)).mpr (by omega)) ?_
    refine wp_st 1 (f' := (58, [some (.ref (s)), some (.long (y1)), none, some (.int (z3)), some (.int (Int32.ofNat c))], [.int (Int32.ofNat 5)], A)) rfl ?_
    refine wp_rt rfl rfl rfl ?_
    rfl
  | succ q ih =>
    intro c h1 h2
    refine wp_st 2 (f' := (15, [some (.ref (s)), some (.long (y1)), none, some (.int (z3)), some (.int (Int32.ofNat c))], [.int (Int32.ofNat 5), .int (Int32.ofNat c)], A)) rfl ?_
    refine wp_ifF rfl rfl (fun q => absurd ((i32_le (a := 5) (b := c) (by omega) (by omega)).mp q) (by omega)) ?_
    refine wp_st 2 (f' := (21, [some (.ref (s)), some (.long (y1)), none, some (.int (z3)), some (.int (Int32.ofNat c))], [.int (Int32.ofNat c), .ref (s)], A)) rfl ?_
    refine wp_cv (A' := A) (v := some (.int (sb_i (rg_hr S c)))) rfl rfl rfl rfl rfl q0 (by omega) (gn_has (d := d - 1) (c := c) (by omega) hG) rfl ?_
    show am_wp d 93 (24, [some (.ref (s)), some (.long (y1)), none, some (.int (z3)), some (.int (Int32.ofNat c))], [.int (sb_i (rg_hr S c))], A) _
    by_cases b1 : (rg_hr S c) = true
    · skip
      refine wp_izF rfl rfl (show ¬ (sb_i (rg_hr S c) = 0) from by rw [b1]; decide) ?_
      refine wp_st 2 (f' := (29, [some (.ref (s)), some (.long (y1)), none, some (.int (z3)), some (.int (Int32.ofNat c))], [.ref (s), .ref (s)], A)) rfl ?_
      refine wp_gf rfl rfl q0 rfl rfl ?_
      refine wp_st 1 (f' := (34, [some (.ref (s)), some (.long (y1)), none, some (.int (z3)), some (.int (Int32.ofNat c))], [.int (Int32.ofNat c), .ref (s + 1), .ref (s)], A)) rfl ?_
      refine wp_al rfl (Or.inl ⟨rfl, rfl⟩) rfl q1 (by omega) (sb_gd 0 (by omega)) rfl ?_
      rw [e1]
      refine wp_st 1 (f' := (36, [some (.ref (s)), some (.long (y1)), none, some (.int (z3)), some (.int (Int32.ofNat c))], [.ref (s), .int (Int32.ofNat (rg_f S c)), .ref (s)], A)) rfl ?_
      refine wp_gf rfl rfl q0 rfl rfl ?_
      refine wp_st 1 (f' := (41, [some (.ref (s)), some (.long (y1)), none, some (.int (z3)), some (.int (Int32.ofNat c))], [.int (Int32.ofNat c), .ref (s + 2), .int (Int32.ofNat (rg_f S c)), .ref (s)], A)) rfl ?_
      refine wp_al rfl (Or.inl ⟨rfl, rfl⟩) rfl q2 (by omega) (sb_gd 0 (by omega)) rfl ?_
      rw [e2]
      have hlt : rg_f S c < rg_e S c := by have q := b1; unfold rg_hr at q; split at q; { assumption }; cases q
      refine wp_cv (A' := A) (v := some (.int (sb_i (ct_cond S v k (rg_e S c - rg_f S c) (rg_f S c) false)))) rfl rfl rfl rfl rfl q0 (by omega) (gn_cond (d := d - 1) (by omega) (by omega) (hw.2 c (by omega)) hk hv hw hP hG) rfl ?_
      show am_wp d 93 (45, [some (.ref (s)), some (.long (y1)), none, some (.int (z3)), some (.int (Int32.ofNat c))], [.int (sb_i (ct_cond S v k (rg_e S c - rg_f S c) (rg_f S c) false))], A) _
      by_cases b2 : (ct_cond S v k (rg_e S c - rg_f S c) (rg_f S c) false) = true
      · skip
        refine wp_izF rfl rfl (show ¬ (sb_i (ct_cond S v k (rg_e S c - rg_f S c) (rg_f S c) false) = 0) from by rw [b2]; decide) ?_
        refine wp_st 1 (f' := (50, [some (.ref (s)), some (.long (y1)), none, some (.int (z3)), some (.int (Int32.ofNat c))], [.int (Int32.ofNat c)], A)) rfl ?_
        refine wp_rt rfl rfl rfl ?_
        have hres : ct_cat S v k (q + 1) c = c := by rw [ct_cat, if_pos ⟨b1, b2⟩]
        rw [hres]
      · skip
        have b2f : (ct_cond S v k (rg_e S c - rg_f S c) (rg_f S c) false) = false := by simpa using b2
        refine wp_izT rfl rfl (show sb_i (ct_cond S v k (rg_e S c - rg_f S c) (rg_f S c) false) = 0 from by rw [b2f]; decide) ?_
        refine wp_st 1 (f' := (54, [some (.ref (s)), some (.long (y1)), none, some (.int (z3)), some (.int ((Int32.ofNat c) + (Int32.ofNat 1)))], [], A)) rfl ?_
        rw [i32_add (c) (1)]
        refine wp_st 1 (f' := (12, [some (.ref (s)), some (.long (y1)), none, some (.int (z3)), some (.int (Int32.ofNat (c + 1)))], [], A)) rfl ?_
        have hres : ct_cat S v k (q + 1) c = ct_cat S v k q (c + 1) := by rw [ct_cat, if_neg]; exact fun z => b2 z.2
        rw [hres]
        exact ih (c + 1) (by omega) (by omega)
    · skip
      have b1f : (rg_hr S c) = false := by simpa using b1
      refine wp_izT rfl rfl (show sb_i (rg_hr S c) = 0 from by rw [b1f]; decide) ?_
      refine wp_st 1 (f' := (54, [some (.ref (s)), some (.long (y1)), none, some (.int (z3)), some (.int ((Int32.ofNat c) + (Int32.ofNat 1)))], [], A)) rfl ?_
      rw [i32_add (c) (1)]
      refine wp_st 1 (f' := (12, [some (.ref (s)), some (.long (y1)), none, some (.int (z3)), some (.int (Int32.ofNat (c + 1)))], [], A)) rfl ?_
      have hres : ct_cat S v k (q + 1) c = ct_cat S v k q (c + 1) := by rw [ct_cat, if_neg]; exact fun z => b1 z.1
      rw [hres]
      exact ih (c + 1) (by omega) (by omega)
theorem gn_cat {d s v k : Nat} {S : rg} {am : List Int64} {un : Int64} {A : am_H} (hd : 3 ≤ d) (hk : k ≤ 6) (hv : v < 9223372036854775808) (hw : rg_wf S) (hT : A[1]? = some (101, am_TENS.map Value.long)) (hP : sb_P A (s + 11) am un) (h : sb_G A s S) : ∃ B, am_go d 93 [.ref s, .long (Int64.ofNat v), .int (Int32.ofNat k)] A (.inl (some (.int (Int32.ofNat (ct_cat S v k 5 0)))), B) ∧ sb_G B s S ∧ sb_P B (s + 11) (sb_am v k) (Int64.ofNat (10 ^ k)) ∧ sb_fr A B (s + 11) (s + 13) := by
  obtain ⟨B, g1, g2, g3⟩ := of_pos (d := d - 1) (v := v) (k := k) (by omega) hv hk hP hT
  have h45 := h.P.2.2
  have h9 : sb_G B s S := h.same (fun q q1 q2 => g3.2.2 q (by omega))
  refine ⟨B, ?_, h9, g2, g3⟩
  obtain ⟨fi, en, op, mo, ng, og, fr, re, lo, hi, hR, -⟩ := h
  have q0 := hR.1
  have p0 := hP.1
  unfold sb_rc at q0
  refine wp_go ?_
  refine wp_st 1 (f' := (1, [some (.ref (s)), some (.long ((Int64.ofNat v))), none, some (.int (Int32.ofNat k)), none], [.ref (s)], A)) rfl ?_
  refine wp_gf rfl rfl q0 rfl rfl ?_
  refine wp_st 2 (f' := (6, [some (.ref (s)), some (.long ((Int64.ofNat v))), none, some (.int (Int32.ofNat k)), none], [.int (Int32.ofNat k), .long ((Int64.ofNat v)), .ref (s + 11)], A)) rfl ?_
  refine wp_cv (A' := B) (v := none) rfl rfl rfl rfl rfl p0 (by omega) (g1) rfl ?_
  show am_wp d 93 (9, [some (.ref (s)), some (.long ((Int64.ofNat v))), none, some (.int (Int32.ofNat k)), none], [], B) _
  refine wp_st 2 (f' := (12, [some (.ref (s)), some (.long ((Int64.ofNat v))), none, some (.int (Int32.ofNat k)), some (.int (Int32.ofNat 0))], [], B)) rfl ?_
  exact gn_cat_l (by omega) hk hv hw g2 h9 5 0 rfl (by omega)
theorem gn_catn {d s v k : Nat} {S : rg} {am : List Int64} {un : Int64} {A : am_H} (hd : 3 ≤ d) (hv0 : 0 < v) (hk : k ≤ 6) (hv : v < 9223372036854775808) (hw : rg_wf S) (hT : A[1]? = some (101, am_TENS.map Value.long)) (hP : sb_P A (s + 11) am un) (h : sb_G A s S) : ∃ B, am_go d 93 [.ref s, .long (-Int64.ofNat v), .int (Int32.ofNat k)] A (.inl (some (.int (Int32.ofNat (ct_cat S v k 5 0)))), B) ∧ sb_G B s S ∧ sb_P B (s + 11) (sb_am v k) (Int64.ofNat (10 ^ k)) ∧ sb_fr A B (s + 11) (s + 13) := by
  obtain ⟨B, g1, g2, g3⟩ := of_neg (d := d - 1) (v := v) (k := k) (by omega) hv hk hP hT hv0
  have h45 := h.P.2.2
  have h9 : sb_G B s S := h.same (fun q q1 q2 => g3.2.2 q (by omega))
  refine ⟨B, ?_, h9, g2, g3⟩
  obtain ⟨fi, en, op, mo, ng, og, fr, re, lo, hi, hR, -⟩ := h
  have q0 := hR.1
  have p0 := hP.1
  unfold sb_rc at q0
  refine wp_go ?_
  refine wp_st 1 (f' := (1, [some (.ref (s)), some (.long ((-Int64.ofNat v))), none, some (.int (Int32.ofNat k)), none], [.ref (s)], A)) rfl ?_
  refine wp_gf rfl rfl q0 rfl rfl ?_
  refine wp_st 2 (f' := (6, [some (.ref (s)), some (.long ((-Int64.ofNat v))), none, some (.int (Int32.ofNat k)), none], [.int (Int32.ofNat k), .long ((-Int64.ofNat v)), .ref (s + 11)], A)) rfl ?_
  refine wp_cv (A' := B) (v := none) rfl rfl rfl rfl rfl p0 (by omega) (g1) rfl ?_
  show am_wp d 93 (9, [some (.ref (s)), some (.long ((-Int64.ofNat v))), none, some (.int (Int32.ofNat k)), none], [], B) _
  refine wp_st 2 (f' := (12, [some (.ref (s)), some (.long ((-Int64.ofNat v))), none, some (.int (Int32.ofNat k)), some (.int (Int32.ofNat 0))], [], B)) rfl ?_
  exact gn_cat_l (by omega) hk hv hw g2 h9 5 0 rfl (by omega)
