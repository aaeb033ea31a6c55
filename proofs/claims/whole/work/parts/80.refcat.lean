/-! The reference: categoryOf, category. -/
theorem rn_cl {d b e a0 v k : Nat} {z1 z7 z8 : Int32} {y2 : Int64} {jn H : Nat → Bool} {s : rf_S} {A : am_H} {Q : am_O × am_H → Prop} (hd : 1 ≤ d) (he : e ≤ 144) (hj : ∀ r, a0 ≤ r → r < e → s 35 r = .int (sb_i (jn r))) (hH : ∀ r, a0 ≤ r → r < e → am_go (d - 1) 159 [.ref b, .int (Int32.ofNat r), .long (Int64.ofNat v), .int (Int32.ofNat k)] A (.inl (some (.int (sb_i (H r)))), A)) (h : rf A b s) : ∀ (q r : Nat) (al an : Bool), e - r = q → a0 ≤ r → r ≤ e → am_wp d 158 (139, [some (.ref b), some (.int z1), some (.long y2), none, some (.int (Int32.ofNat k)), some (.long (Int64.ofNat v)), none, some (.int z7), some (.int z8), some (.int (Int32.ofNat e)), some (.int (sb_i ((rf_cl jn H q r al an).1))), some (.int (sb_i ((rf_cl jn H q r al an).2))), some (.int (Int32.ofNat (e)))], [], A) Q → am_wp d 158 (64, [some (.ref b), some (.int z1), some (.long y2), none, some (.int (Int32.ofNat k)), some (.long (Int64.ofNat v)), none, some (.int z7), some (.int z8), some (.int (Int32.ofNat e)), some (.int (sb_i (al))), some (.int (sb_i (an))), some (.int (Int32.ofNat (r)))], [], A) Q := by
  intro q
  induction q with
  | zero =>
    intro r al an h1 h2 h3 kk
    obtain rfl : r = e := by omega
    refine wp_st 2 (f' := (68, [some (.ref (b)), some (.int (z1)), some (.long (y2)), none, some (.int (Int32.ofNat k)), some (.long (Int64.ofNat v)), none, some (.int (z7)), some (.int (z8)), some (.int (Int32.ofNat r)), some (.int (sb_i al)), some (.int (sb_i an)), some (.int (Int32.ofNat r))], [.int (Int32.ofNat r), .int (Int32.ofNat r)], A)) rfl ?_
    refine wp_ifT rfl rfl ((i32_le (a := r) (b := r) (by omega) (by omega)).mpr (by omega)) ?_
    exact kk
  | succ q ih =>
    intro r al an h1 h2 h3 kk
    have hjr := hj r h2 (by omega)
    rw [rf_cl] at kk
    refine wp_st 2 (f' := (68, [some (.ref (b)), some (.int (z1)), some (.long (y2)), none, some (.int (Int32.ofNat k)), some (.long (Int64.ofNat v)), none, some (.int (z7)), some (.int (z8)), some (.int (Int32.ofNat e)), some (.int (sb_i al)), some (.int (sb_i an)), some (.int (Int32.ofNat r))], [.int (Int32.ofNat e), .int (Int32.ofNat r)], A)) rfl ?_
    refine wp_ifF rfl rfl (fun q => absurd ((i32_le (a := e) (b := r) (by omega) (by omega)).mp q) (by omega)) ?_
    refine wp_st 1 (f' := (73, [some (.ref (b)), some (.int (z1)), some (.long (y2)), none, some (.int (Int32.ofNat k)), some (.long (Int64.ofNat v)), none, some (.int (z7)), some (.int (z8)), some (.int (Int32.ofNat e)), some (.int (sb_i al)), some (.int (sb_i an)), some (.int (Int32.ofNat r))], [.int (sb_i an)], A)) rfl ?_
    by_cases b1 : an = true
    · skip
      refine wp_izT rfl rfl (show sb_i an ≠ 0 from by rw [b1]; decide) ?_
      refine wp_st 4 (f' := (99, [some (.ref (b)), some (.int (z1)), some (.long (y2)), none, some (.int (Int32.ofNat k)), some (.long (Int64.ofNat v)), none, some (.int (z7)), some (.int (z8)), some (.int (Int32.ofNat e)), some (.int (sb_i al)), some (.int (Int32.ofNat 1)), some (.int (Int32.ofNat r))], [.ref (b)], A)) rfl ?_
      refine rw_gr h rfl rfl rfl rfl rfl rfl ?_
      refine wp_st 1 (f' := (104, [some (.ref (b)), some (.int (z1)), some (.long (y2)), none, some (.int (Int32.ofNat k)), some (.long (Int64.ofNat v)), none, some (.int (z7)), some (.int (z8)), some (.int (Int32.ofNat e)), some (.int (sb_i al)), some (.int (Int32.ofNat 1)), some (.int (Int32.ofNat r))], [.int (Int32.ofNat r), .ref (b + 24)], A)) rfl ?_
      refine rw_al (j := 35) (n := r) (v := .int (sb_i (jn r))) h rfl rfl rfl (Or.inr (Or.inr (Or.inr (Or.inl ⟨rfl, rfl⟩)))) rfl (show _ < 144 from by omega) (hjr) rfl ?_
      by_cases b2 : (jn r) = true
      · skip
        refine wp_izF rfl rfl (show ¬ (sb_i (jn r) = 0) from by rw [b2]; decide) ?_
        refine wp_st 1 (f' := (110, [some (.ref (b)), some (.int (z1)), some (.long (y2)), none, some (.int (Int32.ofNat k)), some (.long (Int64.ofNat v)), none, some (.int (z7)), some (.int (z8)), some (.int (Int32.ofNat e)), some (.int (sb_i al)), some (.int (Int32.ofNat 1)), some (.int (Int32.ofNat r))], [.int (sb_i al)], A)) rfl ?_
        by_cases b3 : al = true
        · skip
          refine wp_izF rfl rfl (show ¬ (sb_i al = 0) from by rw [b3]; decide) ?_
          refine wp_st 4 (f' := (120, [some (.ref (b)), some (.int (z1)), some (.long (y2)), none, some (.int (Int32.ofNat k)), some (.long (Int64.ofNat v)), none, some (.int (z7)), some (.int (z8)), some (.int (Int32.ofNat e)), some (.int (sb_i al)), some (.int (Int32.ofNat 1)), some (.int (Int32.ofNat r))], [.int (Int32.ofNat k), .long (Int64.ofNat v), .int (Int32.ofNat r), .ref (b)], A)) rfl ?_
          refine wp_cv (A' := A) (v := some (.int (sb_i (H r)))) rfl rfl rfl rfl rfl (show _ from h.1) (by omega) (hH r h2 (by omega)) rfl ?_
          show am_wp d 158 (123, [some (.ref (b)), some (.int (z1)), some (.long (y2)), none, some (.int (Int32.ofNat k)), some (.long (Int64.ofNat v)), none, some (.int (z7)), some (.int (z8)), some (.int (Int32.ofNat e)), some (.int (sb_i al)), some (.int (Int32.ofNat 1)), some (.int (Int32.ofNat r))], [.int (sb_i (H r))], A) _
          by_cases b4 : (H r) = true
          · skip
            refine wp_izF rfl rfl (show ¬ (sb_i (H r) = 0) from by rw [b4]; decide) ?_
            refine wp_st 4 (f' := (136, [some (.ref (b)), some (.int (z1)), some (.long (y2)), none, some (.int (Int32.ofNat k)), some (.long (Int64.ofNat v)), none, some (.int (z7)), some (.int (z8)), some (.int (Int32.ofNat e)), some (.int (Int32.ofNat 1)), some (.int (Int32.ofNat 1)), some (.int ((Int32.ofNat r) + (Int32.ofNat 1)))], [], A)) rfl ?_
            rw [i32_add (r) (1)]
            refine wp_st 1 (f' := (64, [some (.ref (b)), some (.int (z1)), some (.long (y2)), none, some (.int (Int32.ofNat k)), some (.long (Int64.ofNat v)), none, some (.int (z7)), some (.int (z8)), some (.int (Int32.ofNat e)), some (.int (Int32.ofNat 1)), some (.int (Int32.ofNat 1)), some (.int (Int32.ofNat (r + 1)))], [], A)) rfl ?_
            have e1 : ((!jn r || al) && H r) = true := by simp [b1, b2, b3, b4]
            have e2 : (an || (!jn r && al)) = true := by simp [b1, b2, b3, b4]
            rw [e1, e2] at kk
            exact ih (r + 1) true true (by omega) (by omega) (by omega) kk
          · skip
            have b4f : (H r) = false := by simpa using b4
            refine wp_izT rfl rfl (show sb_i (H r) = 0 from by rw [b4f]; decide) ?_
            refine wp_st 3 (f' := (136, [some (.ref (b)), some (.int (z1)), some (.long (y2)), none, some (.int (Int32.ofNat k)), some (.long (Int64.ofNat v)), none, some (.int (z7)), some (.int (z8)), some (.int (Int32.ofNat e)), some (.int (Int32.ofNat 0)), some (.int (Int32.ofNat 1)), some (.int ((Int32.ofNat r) + (Int32.ofNat 1)))], [], A)) rfl ?_
            rw [i32_add (r) (1)]
            refine wp_st 1 (f' := (64, [some (.ref (b)), some (.int (z1)), some (.long (y2)), none, some (.int (Int32.ofNat k)), some (.long (Int64.ofNat v)), none, some (.int (z7)), some (.int (z8)), some (.int (Int32.ofNat e)), some (.int (Int32.ofNat 0)), some (.int (Int32.ofNat 1)), some (.int (Int32.ofNat (r + 1)))], [], A)) rfl ?_
            have e1 : ((!jn r || al) && H r) = false := by simp [b1, b2, b3, b4f]
            have e2 : (an || (!jn r && al)) = true := by simp [b1, b2, b3, b4f]
            rw [e1, e2] at kk
            exact ih (r + 1) false true (by omega) (by omega) (by omega) kk
        · skip
          have b3f : al = false := by simpa using b3
          refine wp_izT rfl rfl (show sb_i al = 0 from by rw [b3f]; decide) ?_
          refine wp_st 3 (f' := (136, [some (.ref (b)), some (.int (z1)), some (.long (y2)), none, some (.int (Int32.ofNat k)), some (.long (Int64.ofNat v)), none, some (.int (z7)), some (.int (z8)), some (.int (Int32.ofNat e)), some (.int (Int32.ofNat 0)), some (.int (Int32.ofNat 1)), some (.int ((Int32.ofNat r) + (Int32.ofNat 1)))], [], A)) rfl ?_
          rw [i32_add (r) (1)]
          refine wp_st 1 (f' := (64, [some (.ref (b)), some (.int (z1)), some (.long (y2)), none, some (.int (Int32.ofNat k)), some (.long (Int64.ofNat v)), none, some (.int (z7)), some (.int (z8)), some (.int (Int32.ofNat e)), some (.int (Int32.ofNat 0)), some (.int (Int32.ofNat 1)), some (.int (Int32.ofNat (r + 1)))], [], A)) rfl ?_
          have e1 : ((!jn r || al) && H r) = false := by simp [b1, b2, b3f]
          have e2 : (an || (!jn r && al)) = true := by simp [b1, b2, b3f]
          rw [e1, e2] at kk
          exact ih (r + 1) false true (by omega) (by omega) (by omega) kk
      · skip
        have b2f : (jn r) = false := by simpa using b2
        refine wp_izT rfl rfl (show sb_i (jn r) = 0 from by rw [b2f]; decide) ?_
        refine wp_st 4 (f' := (120, [some (.ref (b)), some (.int (z1)), some (.long (y2)), none, some (.int (Int32.ofNat k)), some (.long (Int64.ofNat v)), none, some (.int (z7)), some (.int (z8)), some (.int (Int32.ofNat e)), some (.int (sb_i al)), some (.int (Int32.ofNat 1)), some (.int (Int32.ofNat r))], [.int (Int32.ofNat k), .long (Int64.ofNat v), .int (Int32.ofNat r), .ref (b)], A)) rfl ?_
        refine wp_cv (A' := A) (v := some (.int (sb_i (H r)))) rfl rfl rfl rfl rfl (show _ from h.1) (by omega) (hH r h2 (by omega)) rfl ?_
        show am_wp d 158 (123, [some (.ref (b)), some (.int (z1)), some (.long (y2)), none, some (.int (Int32.ofNat k)), some (.long (Int64.ofNat v)), none, some (.int (z7)), some (.int (z8)), some (.int (Int32.ofNat e)), some (.int (sb_i al)), some (.int (Int32.ofNat 1)), some (.int (Int32.ofNat r))], [.int (sb_i (H r))], A) _
        by_cases b5 : (H r) = true
        · skip
          refine wp_izF rfl rfl (show ¬ (sb_i (H r) = 0) from by rw [b5]; decide) ?_
          refine wp_st 4 (f' := (136, [some (.ref (b)), some (.int (z1)), some (.long (y2)), none, some (.int (Int32.ofNat k)), some (.long (Int64.ofNat v)), none, some (.int (z7)), some (.int (z8)), some (.int (Int32.ofNat e)), some (.int (Int32.ofNat 1)), some (.int (Int32.ofNat 1)), some (.int ((Int32.ofNat r) + (Int32.ofNat 1)))], [], A)) rfl ?_
          rw [i32_add (r) (1)]
          refine wp_st 1 (f' := (64, [some (.ref (b)), some (.int (z1)), some (.long (y2)), none, some (.int (Int32.ofNat k)), some (.long (Int64.ofNat v)), none, some (.int (z7)), some (.int (z8)), some (.int (Int32.ofNat e)), some (.int (Int32.ofNat 1)), some (.int (Int32.ofNat 1)), some (.int (Int32.ofNat (r + 1)))], [], A)) rfl ?_
          have e1 : ((!jn r || al) && H r) = true := by simp [b1, b2f, b5]
          have e2 : (an || (!jn r && al)) = true := by simp [b1, b2f, b5]
          rw [e1, e2] at kk
          exact ih (r + 1) true true (by omega) (by omega) (by omega) kk
        · skip
          have b5f : (H r) = false := by simpa using b5
          refine wp_izT rfl rfl (show sb_i (H r) = 0 from by rw [b5f]; decide) ?_
          refine wp_st 3 (f' := (136, [some (.ref (b)), some (.int (z1)), some (.long (y2)), none, some (.int (Int32.ofNat k)), some (.long (Int64.ofNat v)), none, some (.int (z7)), some (.int (z8)), some (.int (Int32.ofNat e)), some (.int (Int32.ofNat 0)), some (.int (Int32.ofNat 1)), some (.int ((Int32.ofNat r) + (Int32.ofNat 1)))], [], A)) rfl ?_
          rw [i32_add (r) (1)]
          refine wp_st 1 (f' := (64, [some (.ref (b)), some (.int (z1)), some (.long (y2)), none, some (.int (Int32.ofNat k)), some (.long (Int64.ofNat v)), none, some (.int (z7)), some (.int (z8)), some (.int (Int32.ofNat e)), some (.int (Int32.ofNat 0)), some (.int (Int32.ofNat 1)), some (.int (Int32.ofNat (r + 1)))], [], A)) rfl ?_
          have e1 : ((!jn r || al) && H r) = false := by simp [b1, b2f, b5f]
          have e2 : (an || (!jn r && al)) = true := by simp [b1, b2f, b5f]
          rw [e1, e2] at kk
          exact ih (r + 1) false true (by omega) (by omega) (by omega) kk
    · skip
      have b1f : an = false := by simpa using b1
      refine wp_izF rfl rfl (show ¬ (sb_i an ≠ 0) from by rw [b1f]; decide) ?_
      refine wp_st 1 (f' := (77, [some (.ref (b)), some (.int (z1)), some (.long (y2)), none, some (.int (Int32.ofNat k)), some (.long (Int64.ofNat v)), none, some (.int (z7)), some (.int (z8)), some (.int (Int32.ofNat e)), some (.int (sb_i al)), some (.int (sb_i an)), some (.int (Int32.ofNat r))], [.ref (b)], A)) rfl ?_
      refine rw_gr h rfl rfl rfl rfl rfl rfl ?_
      refine wp_st 1 (f' := (82, [some (.ref (b)), some (.int (z1)), some (.long (y2)), none, some (.int (Int32.ofNat k)), some (.long (Int64.ofNat v)), none, some (.int (z7)), some (.int (z8)), some (.int (Int32.ofNat e)), some (.int (sb_i al)), some (.int (sb_i an)), some (.int (Int32.ofNat r))], [.int (Int32.ofNat r), .ref (b + 24)], A)) rfl ?_
      refine rw_al (j := 35) (n := r) (v := .int (sb_i (jn r))) h rfl rfl rfl (Or.inr (Or.inr (Or.inr (Or.inl ⟨rfl, rfl⟩)))) rfl (show _ < 144 from by omega) (hjr) rfl ?_
      by_cases b6 : (jn r) = true
      · skip
        refine wp_izT rfl rfl (show sb_i (jn r) ≠ 0 from by rw [b6]; decide) ?_
        refine wp_st 3 (f' := (99, [some (.ref (b)), some (.int (z1)), some (.long (y2)), none, some (.int (Int32.ofNat k)), some (.long (Int64.ofNat v)), none, some (.int (z7)), some (.int (z8)), some (.int (Int32.ofNat e)), some (.int (sb_i al)), some (.int (Int32.ofNat 0)), some (.int (Int32.ofNat r))], [.ref (b)], A)) rfl ?_
        refine rw_gr h rfl rfl rfl rfl rfl rfl ?_
        refine wp_st 1 (f' := (104, [some (.ref (b)), some (.int (z1)), some (.long (y2)), none, some (.int (Int32.ofNat k)), some (.long (Int64.ofNat v)), none, some (.int (z7)), some (.int (z8)), some (.int (Int32.ofNat e)), some (.int (sb_i al)), some (.int (Int32.ofNat 0)), some (.int (Int32.ofNat r))], [.int (Int32.ofNat r), .ref (b + 24)], A)) rfl ?_
        refine rw_al (j := 35) (n := r) (v := .int (sb_i (jn r))) h rfl rfl rfl (Or.inr (Or.inr (Or.inr (Or.inl ⟨rfl, rfl⟩)))) rfl (show _ < 144 from by omega) (hjr) rfl ?_
        refine wp_izF rfl rfl (show ¬ (sb_i (jn r) = 0) from by rw [b6]; decide) ?_
        refine wp_st 1 (f' := (110, [some (.ref (b)), some (.int (z1)), some (.long (y2)), none, some (.int (Int32.ofNat k)), some (.long (Int64.ofNat v)), none, some (.int (z7)), some (.int (z8)), some (.int (Int32.ofNat e)), some (.int (sb_i al)), some (.int (Int32.ofNat 0)), some (.int (Int32.ofNat r))], [.int (sb_i al)], A)) rfl ?_
        by_cases b7 : al = true
        · skip
          refine wp_izF rfl rfl (show ¬ (sb_i al = 0) from by rw [b7]; decide) ?_
          refine wp_st 4 (f' := (120, [some (.ref (b)), some (.int (z1)), some (.long (y2)), none, some (.int (Int32.ofNat k)), some (.long (Int64.ofNat v)), none, some (.int (z7)), some (.int (z8)), some (.int (Int32.ofNat e)), some (.int (sb_i al)), some (.int (Int32.ofNat 0)), some (.int (Int32.ofNat r))], [.int (Int32.ofNat k), .long (Int64.ofNat v), .int (Int32.ofNat r), .ref (b)], A)) rfl ?_
          refine wp_cv (A' := A) (v := some (.int (sb_i (H r)))) rfl rfl rfl rfl rfl (show _ from h.1) (by omega) (hH r h2 (by omega)) rfl ?_
          show am_wp d 158 (123, [some (.ref (b)), some (.int (z1)), some (.long (y2)), none, some (.int (Int32.ofNat k)), some (.long (Int64.ofNat v)), none, some (.int (z7)), some (.int (z8)), some (.int (Int32.ofNat e)), some (.int (sb_i al)), some (.int (Int32.ofNat 0)), some (.int (Int32.ofNat r))], [.int (sb_i (H r))], A) _
          by_cases b8 : (H r) = true
          · skip
            refine wp_izF rfl rfl (show ¬ (sb_i (H r) = 0) from by rw [b8]; decide) ?_
            refine wp_st 4 (f' := (136, [some (.ref (b)), some (.int (z1)), some (.long (y2)), none, some (.int (Int32.ofNat k)), some (.long (Int64.ofNat v)), none, some (.int (z7)), some (.int (z8)), some (.int (Int32.ofNat e)), some (.int (Int32.ofNat 1)), some (.int (Int32.ofNat 0)), some (.int ((Int32.ofNat r) + (Int32.ofNat 1)))], [], A)) rfl ?_
            rw [i32_add (r) (1)]
            refine wp_st 1 (f' := (64, [some (.ref (b)), some (.int (z1)), some (.long (y2)), none, some (.int (Int32.ofNat k)), some (.long (Int64.ofNat v)), none, some (.int (z7)), some (.int (z8)), some (.int (Int32.ofNat e)), some (.int (Int32.ofNat 1)), some (.int (Int32.ofNat 0)), some (.int (Int32.ofNat (r + 1)))], [], A)) rfl ?_
            have e1 : ((!jn r || al) && H r) = true := by simp [b1f, b6, b7, b8]
            have e2 : (an || (!jn r && al)) = false := by simp [b1f, b6, b7, b8]
            rw [e1, e2] at kk
            exact ih (r + 1) true false (by omega) (by omega) (by omega) kk
          · skip
            have b8f : (H r) = false := by simpa using b8
            refine wp_izT rfl rfl (show sb_i (H r) = 0 from by rw [b8f]; decide) ?_
            refine wp_st 3 (f' := (136, [some (.ref (b)), some (.int (z1)), some (.long (y2)), none, some (.int (Int32.ofNat k)), some (.long (Int64.ofNat v)), none, some (.int (z7)), some (.int (z8)), some (.int (Int32.ofNat e)), some (.int (Int32.ofNat 0)), some (.int (Int32.ofNat 0)), some (.int ((Int32.ofNat r) + (Int32.ofNat 1)))], [], A)) rfl ?_
            rw [i32_add (r) (1)]
            refine wp_st 1 (f' := (64, [some (.ref (b)), some (.int (z1)), some (.long (y2)), none, some (.int (Int32.ofNat k)), some (.long (Int64.ofNat v)), none, some (.int (z7)), some (.int (z8)), some (.int (Int32.ofNat e)), some (.int (Int32.ofNat 0)), some (.int (Int32.ofNat 0)), some (.int (Int32.ofNat (r + 1)))], [], A)) rfl ?_
            have e1 : ((!jn r || al) && H r) = false := by simp [b1f, b6, b7, b8f]
            have e2 : (an || (!jn r && al)) = false := by simp [b1f, b6, b7, b8f]
            rw [e1, e2] at kk
            exact ih (r + 1) false false (by omega) (by omega) (by omega) kk
        · skip
          have b7f : al = false := by simpa using b7
          refine wp_izT rfl rfl (show sb_i al = 0 from by rw [b7f]; decide) ?_
          refine wp_st 3 (f' := (136, [some (.ref (b)), some (.int (z1)), some (.long (y2)), none, some (.int (Int32.ofNat k)), some (.long (Int64.ofNat v)), none, some (.int (z7)), some (.int (z8)), some (.int (Int32.ofNat e)), some (.int (Int32.ofNat 0)), some (.int (Int32.ofNat 0)), some (.int ((Int32.ofNat r) + (Int32.ofNat 1)))], [], A)) rfl ?_
          rw [i32_add (r) (1)]
          refine wp_st 1 (f' := (64, [some (.ref (b)), some (.int (z1)), some (.long (y2)), none, some (.int (Int32.ofNat k)), some (.long (Int64.ofNat v)), none, some (.int (z7)), some (.int (z8)), some (.int (Int32.ofNat e)), some (.int (Int32.ofNat 0)), some (.int (Int32.ofNat 0)), some (.int (Int32.ofNat (r + 1)))], [], A)) rfl ?_
          have e1 : ((!jn r || al) && H r) = false := by simp [b1f, b6, b7f]
          have e2 : (an || (!jn r && al)) = false := by simp [b1f, b6, b7f]
          rw [e1, e2] at kk
          exact ih (r + 1) false false (by omega) (by omega) (by omega) kk
      · skip
        have b6f : (jn r) = false := by simpa using b6
        refine wp_izF rfl rfl (show ¬ (sb_i (jn r) ≠ 0) from by rw [b6f]; decide) ?_
        refine wp_st 1 (f' := (88, [some (.ref (b)), some (.int (z1)), some (.long (y2)), none, some (.int (Int32.ofNat k)), some (.long (Int64.ofNat v)), none, some (.int (z7)), some (.int (z8)), some (.int (Int32.ofNat e)), some (.int (sb_i al)), some (.int (sb_i an)), some (.int (Int32.ofNat r))], [.int (sb_i al)], A)) rfl ?_
        by_cases b9 : al = true
        · skip
          refine wp_izF rfl rfl (show ¬ (sb_i al = 0) from by rw [b9]; decide) ?_
          refine wp_st 4 (f' := (99, [some (.ref (b)), some (.int (z1)), some (.long (y2)), none, some (.int (Int32.ofNat k)), some (.long (Int64.ofNat v)), none, some (.int (z7)), some (.int (z8)), some (.int (Int32.ofNat e)), some (.int (sb_i al)), some (.int (Int32.ofNat 1)), some (.int (Int32.ofNat r))], [.ref (b)], A)) rfl ?_
          refine rw_gr h rfl rfl rfl rfl rfl rfl ?_
          refine wp_st 1 (f' := (104, [some (.ref (b)), some (.int (z1)), some (.long (y2)), none, some (.int (Int32.ofNat k)), some (.long (Int64.ofNat v)), none, some (.int (z7)), some (.int (z8)), some (.int (Int32.ofNat e)), some (.int (sb_i al)), some (.int (Int32.ofNat 1)), some (.int (Int32.ofNat r))], [.int (Int32.ofNat r), .ref (b + 24)], A)) rfl ?_
          refine rw_al (j := 35) (n := r) (v := .int (sb_i (jn r))) h rfl rfl rfl (Or.inr (Or.inr (Or.inr (Or.inl ⟨rfl, rfl⟩)))) rfl (show _ < 144 from by omega) (hjr) rfl ?_
          refine wp_izT rfl rfl (show sb_i (jn r) = 0 from by rw [b6f]; decide) ?_
          refine wp_st 4 (f' := (120, [some (.ref (b)), some (.int (z1)), some (.long (y2)), none, some (.int (Int32.ofNat k)), some (.long (Int64.ofNat v)), none, some (.int (z7)), some (.int (z8)), some (.int (Int32.ofNat e)), some (.int (sb_i al)), some (.int (Int32.ofNat 1)), some (.int (Int32.ofNat r))], [.int (Int32.ofNat k), .long (Int64.ofNat v), .int (Int32.ofNat r), .ref (b)], A)) rfl ?_
          refine wp_cv (A' := A) (v := some (.int (sb_i (H r)))) rfl rfl rfl rfl rfl (show _ from h.1) (by omega) (hH r h2 (by omega)) rfl ?_
          show am_wp d 158 (123, [some (.ref (b)), some (.int (z1)), some (.long (y2)), none, some (.int (Int32.ofNat k)), some (.long (Int64.ofNat v)), none, some (.int (z7)), some (.int (z8)), some (.int (Int32.ofNat e)), some (.int (sb_i al)), some (.int (Int32.ofNat 1)), some (.int (Int32.ofNat r))], [.int (sb_i (H r))], A) _
          by_cases b10 : (H r) = true
          · skip
            refine wp_izF rfl rfl (show ¬ (sb_i (H r) = 0) from by rw [b10]; decide) ?_
            refine wp_st 4 (f' := (136, [some (.ref (b)), some (.int (z1)), some (.long (y2)), none, some (.int (Int32.ofNat k)), some (.long (Int64.ofNat v)), none, some (.int (z7)), some (.int (z8)), some (.int (Int32.ofNat e)), some (.int (Int32.ofNat 1)), some (.int (Int32.ofNat 1)), some (.int ((Int32.ofNat r) + (Int32.ofNat 1)))], [], A)) rfl ?_
            rw [i32_add (r) (1)]
            refine wp_st 1 (f' := (64, [some (.ref (b)), some (.int (z1)), some (.long (y2)), none, some (.int (Int32.ofNat k)), some (.long (Int64.ofNat v)), none, some (.int (z7)), some (.int (z8)), some (.int (Int32.ofNat e)), some (.int (Int32.ofNat 1)), some (.int (Int32.ofNat 1)), some (.int (Int32.ofNat (r + 1)))], [], A)) rfl ?_
            have e1 : ((!jn r || al) && H r) = true := by simp [b1f, b6f, b9, b10]
            have e2 : (an || (!jn r && al)) = true := by simp [b1f, b6f, b9, b10]
            rw [e1, e2] at kk
            exact ih (r + 1) true true (by omega) (by omega) (by omega) kk
          · skip
            have b10f : (H r) = false := by simpa using b10
            refine wp_izT rfl rfl (show sb_i (H r) = 0 from by rw [b10f]; decide) ?_
            refine wp_st 3 (f' := (136, [some (.ref (b)), some (.int (z1)), some (.long (y2)), none, some (.int (Int32.ofNat k)), some (.long (Int64.ofNat v)), none, some (.int (z7)), some (.int (z8)), some (.int (Int32.ofNat e)), some (.int (Int32.ofNat 0)), some (.int (Int32.ofNat 1)), some (.int ((Int32.ofNat r) + (Int32.ofNat 1)))], [], A)) rfl ?_
            rw [i32_add (r) (1)]
            refine wp_st 1 (f' := (64, [some (.ref (b)), some (.int (z1)), some (.long (y2)), none, some (.int (Int32.ofNat k)), some (.long (Int64.ofNat v)), none, some (.int (z7)), some (.int (z8)), some (.int (Int32.ofNat e)), some (.int (Int32.ofNat 0)), some (.int (Int32.ofNat 1)), some (.int (Int32.ofNat (r + 1)))], [], A)) rfl ?_
            have e1 : ((!jn r || al) && H r) = false := by simp [b1f, b6f, b9, b10f]
            have e2 : (an || (!jn r && al)) = true := by simp [b1f, b6f, b9, b10f]
            rw [e1, e2] at kk
            exact ih (r + 1) false true (by omega) (by omega) (by omega) kk
        · skip
          have b9f : al = false := by simpa using b9
          refine wp_izT rfl rfl (show sb_i al = 0 from by rw [b9f]; decide) ?_
          refine wp_st 3 (f' := (99, [some (.ref (b)), some (.int (z1)), some (.long (y2)), none, some (.int (Int32.ofNat k)), some (.long (Int64.ofNat v)), none, some (.int (z7)), some (.int (z8)), some (.int (Int32.ofNat e)), some (.int (sb_i al)), some (.int (Int32.ofNat 0)), some (.int (Int32.ofNat r))], [.ref (b)], A)) rfl ?_
          refine rw_gr h rfl rfl rfl rfl rfl rfl ?_
          refine wp_st 1 (f' := (104, [some (.ref (b)), some (.int (z1)), some (.long (y2)), none, some (.int (Int32.ofNat k)), some (.long (Int64.ofNat v)), none, some (.int (z7)), some (.int (z8)), some (.int (Int32.ofNat e)), some (.int (sb_i al)), some (.int (Int32.ofNat 0)), some (.int (Int32.ofNat r))], [.int (Int32.ofNat r), .ref (b + 24)], A)) rfl ?_
          refine rw_al (j := 35) (n := r) (v := .int (sb_i (jn r))) h rfl rfl rfl (Or.inr (Or.inr (Or.inr (Or.inl ⟨rfl, rfl⟩)))) rfl (show _ < 144 from by omega) (hjr) rfl ?_
          refine wp_izT rfl rfl (show sb_i (jn r) = 0 from by rw [b6f]; decide) ?_
          refine wp_st 4 (f' := (120, [some (.ref (b)), some (.int (z1)), some (.long (y2)), none, some (.int (Int32.ofNat k)), some (.long (Int64.ofNat v)), none, some (.int (z7)), some (.int (z8)), some (.int (Int32.ofNat e)), some (.int (sb_i al)), some (.int (Int32.ofNat 0)), some (.int (Int32.ofNat r))], [.int (Int32.ofNat k), .long (Int64.ofNat v), .int (Int32.ofNat r), .ref (b)], A)) rfl ?_
          refine wp_cv (A' := A) (v := some (.int (sb_i (H r)))) rfl rfl rfl rfl rfl (show _ from h.1) (by omega) (hH r h2 (by omega)) rfl ?_
          show am_wp d 158 (123, [some (.ref (b)), some (.int (z1)), some (.long (y2)), none, some (.int (Int32.ofNat k)), some (.long (Int64.ofNat v)), none, some (.int (z7)), some (.int (z8)), some (.int (Int32.ofNat e)), some (.int (sb_i al)), some (.int (Int32.ofNat 0)), some (.int (Int32.ofNat r))], [.int (sb_i (H r))], A) _
          by_cases b11 : (H r) = true
          · skip
            refine wp_izF rfl rfl (show ¬ (sb_i (H r) = 0) from by rw [b11]; decide) ?_
            refine wp_st 4 (f' := (136, [some (.ref (b)), some (.int (z1)), some (.long (y2)), none, some (.int (Int32.ofNat k)), some (.long (Int64.ofNat v)), none, some (.int (z7)), some (.int (z8)), some (.int (Int32.ofNat e)), some (.int (Int32.ofNat 1)), some (.int (Int32.ofNat 0)), some (.int ((Int32.ofNat r) + (Int32.ofNat 1)))], [], A)) rfl ?_
            rw [i32_add (r) (1)]
            refine wp_st 1 (f' := (64, [some (.ref (b)), some (.int (z1)), some (.long (y2)), none, some (.int (Int32.ofNat k)), some (.long (Int64.ofNat v)), none, some (.int (z7)), some (.int (z8)), some (.int (Int32.ofNat e)), some (.int (Int32.ofNat 1)), some (.int (Int32.ofNat 0)), some (.int (Int32.ofNat (r + 1)))], [], A)) rfl ?_
            have e1 : ((!jn r || al) && H r) = true := by simp [b1f, b6f, b9f, b11]
            have e2 : (an || (!jn r && al)) = false := by simp [b1f, b6f, b9f, b11]
            rw [e1, e2] at kk
            exact ih (r + 1) true false (by omega) (by omega) (by omega) kk
          · skip
            have b11f : (H r) = false := by simpa using b11
            refine wp_izT rfl rfl (show sb_i (H r) = 0 from by rw [b11f]; decide) ?_
            refine wp_st 3 (f' := (136, [some (.ref (b)), some (.int (z1)), some (.long (y2)), none, some (.int (Int32.ofNat k)), some (.long (Int64.ofNat v)), none, some (.int (z7)), some (.int (z8)), some (.int (Int32.ofNat e)), some (.int (Int32.ofNat 0)), some (.int (Int32.ofNat 0)), some (.int ((Int32.ofNat r) + (Int32.ofNat 1)))], [], A)) rfl ?_
            rw [i32_add (r) (1)]
            refine wp_st 1 (f' := (64, [some (.ref (b)), some (.int (z1)), some (.long (y2)), none, some (.int (Int32.ofNat k)), some (.long (Int64.ofNat v)), none, some (.int (z7)), some (.int (z8)), some (.int (Int32.ofNat e)), some (.int (Int32.ofNat 0)), some (.int (Int32.ofNat 0)), some (.int (Int32.ofNat (r + 1)))], [], A)) rfl ?_
            have e1 : ((!jn r || al) && H r) = false := by simp [b1f, b6f, b9f, b11f]
            have e2 : (an || (!jn r && al)) = false := by simp [b1f, b6f, b9f, b11f]
            rw [e1, e2] at kk
            exact ih (r + 1) false false (by omega) (by omega) (by omega) kk
theorem rn_cc {d b t v k : Nat} {at9 mn : Nat → Nat} {jn H : Nat → Bool} {s : rf_S} {A : am_H} {y2 : Int64} (hd : 1 ≤ d) (ht : t ≤ 1) (ha : ∀ c, c < 5 → s 30 (8 * t + c) = .int (Int32.ofNat (at9 c)) ∧ s 31 (8 * t + c) = .int (Int32.ofNat (mn c)) ∧ at9 c + mn c ≤ 144) (hj : ∀ c r, c < 5 → at9 c ≤ r → r < at9 c + mn c → s 35 r = .int (sb_i (jn r))) (hH : ∀ c r, c < 5 → at9 c ≤ r → r < at9 c + mn c → am_go (d - 1) 159 [.ref b, .int (Int32.ofNat r), .long (Int64.ofNat v), .int (Int32.ofNat k)] A (.inl (some (.int (sb_i (H r)))), A)) (h : rf A b s) : ∀ (q c : Nat) (b8 b9 b10 b11 b12 : Option Value), 5 - c = q → c ≤ 5 → (∃ z, b8 = some (.int z)) ∨ b8 = none → am_wp d 158 (17, [some (.ref b), some (.int (Int32.ofNat t)), some (.long y2), none, some (.int (Int32.ofNat k)), some (.long (Int64.ofNat v)), none, some (.int (Int32.ofNat c)), b8, b9, b10, b11, b12], [], A) (fun z => z = (.inl (some (.int (Int32.ofNat (rf_cc at9 mn jn H q c)))), A)) := by
  intro q
  induction q with
  | zero =>
    intro c b8 b9 b10 b11 b12 h1 h2 h3
    refine wp_st 2 (f' := (20, [some (.ref (b)), some (.int (Int32.ofNat t)), some (.long (y2)), none, some (.int (Int32.ofNat k)), some (.long (Int64.ofNat v)), none, some (.int (Int32.ofNat c)), b8, b9, b10, b11, b12], [.int (Int32.ofNat 5), .int (Int32.ofNat c)], A)) rfl ?_
    refine wp_ifT rfl (show am_tgt 20 (138) = 158 by decide +kernel) ((i32_le (a := 5) (b := c) (by omega) (by omega)).mpr (by omega)) ?_
    refine wp_st 1 (f' := (159, [some (.ref (b)), some (.int (Int32.ofNat t)), some (.long (y2)), none, some (.int (Int32.ofNat k)), some (.long (Int64.ofNat v)), none, some (.int (Int32.ofNat c)), b8, b9, b10, b11, b12], [.int (Int32.ofNat 5)], A)) rfl ?_
    refine wp_rt rfl rfl rfl ?_
    rfl
  | succ q ih =>
    intro c b8 b9 b10 b11 b12 h1 h2 h3
    obtain ⟨a1, a2, a3⟩ := ha c (by omega)
    refine wp_st 2 (f' := (20, [some (.ref (b)), some (.int (Int32.ofNat t)), some (.long (y2)), none, some (.int (Int32.ofNat k)), some (.long (Int64.ofNat v)), none, some (.int (Int32.ofNat c)), b8, b9, b10, b11, b12], [.int (Int32.ofNat 5), .int (Int32.ofNat c)], A)) rfl ?_
    refine wp_ifF rfl rfl (fun q => absurd ((i32_le (a := 5) (b := c) (by omega) (by omega)).mp q) (by omega)) ?_
    refine wp_st 1 (f' := (24, [some (.ref (b)), some (.int (Int32.ofNat t)), some (.long (y2)), none, some (.int (Int32.ofNat k)), some (.long (Int64.ofNat v)), none, some (.int (Int32.ofNat c)), b8, b9, b10, b11, b12], [.ref (b)], A)) rfl ?_
    refine rw_gr h rfl rfl rfl rfl rfl rfl ?_
    refine wp_st 3 (f' := (31, [some (.ref (b)), some (.int (Int32.ofNat t)), some (.long (y2)), none, some (.int (Int32.ofNat k)), some (.long (Int64.ofNat v)), none, some (.int (Int32.ofNat c)), b8, b9, b10, b11, b12], [.int ((Int32.ofNat 8) * (Int32.ofNat t)), .ref (b + 19)], A)) rfl ?_
    rw [i32_mul (8) (t)]
    refine wp_st 2 (f' := (34, [some (.ref (b)), some (.int (Int32.ofNat t)), some (.long (y2)), none, some (.int (Int32.ofNat k)), some (.long (Int64.ofNat v)), none, some (.int (Int32.ofNat c)), b8, b9, b10, b11, b12], [.int ((Int32.ofNat (8 * t)) + (Int32.ofNat c)), .ref (b + 19)], A)) rfl ?_
    rw [i32_add (8 * t) (c)]
    refine rw_al (j := 30) (n := 8 * t + c) (v := .int (Int32.ofNat (at9 c))) h rfl rfl rfl (Or.inl ⟨rfl, rfl⟩) rfl (show _ < 24 from by omega) (a1) rfl ?_
    refine wp_st 3 (f' := (40, [some (.ref (b)), some (.int (Int32.ofNat t)), some (.long (y2)), none, some (.int (Int32.ofNat k)), some (.long (Int64.ofNat v)), none, some (.int (Int32.ofNat c)), some (.int (Int32.ofNat (at9 c))), b9, b10, b11, b12], [.ref (b), .int (Int32.ofNat (at9 c))], A)) rfl ?_
    refine rw_gr h rfl rfl rfl rfl rfl rfl ?_
    refine wp_st 3 (f' := (47, [some (.ref (b)), some (.int (Int32.ofNat t)), some (.long (y2)), none, some (.int (Int32.ofNat k)), some (.long (Int64.ofNat v)), none, some (.int (Int32.ofNat c)), some (.int (Int32.ofNat (at9 c))), b9, b10, b11, b12], [.int ((Int32.ofNat 8) * (Int32.ofNat t)), .ref (b + 20), .int (Int32.ofNat (at9 c))], A)) rfl ?_
    rw [i32_mul (8) (t)]
    refine wp_st 2 (f' := (50, [some (.ref (b)), some (.int (Int32.ofNat t)), some (.long (y2)), none, some (.int (Int32.ofNat k)), some (.long (Int64.ofNat v)), none, some (.int (Int32.ofNat c)), some (.int (Int32.ofNat (at9 c))), b9, b10, b11, b12], [.int ((Int32.ofNat (8 * t)) + (Int32.ofNat c)), .ref (b + 20), .int (Int32.ofNat (at9 c))], A)) rfl ?_
    rw [i32_add (8 * t) (c)]
    refine rw_al (j := 31) (n := 8 * t + c) (v := .int (Int32.ofNat (mn c))) h rfl rfl rfl (Or.inl ⟨rfl, rfl⟩) rfl (show _ < 24 from by omega) (a2) rfl ?_
    refine wp_st 1 (f' := (52, [some (.ref (b)), some (.int (Int32.ofNat t)), some (.long (y2)), none, some (.int (Int32.ofNat k)), some (.long (Int64.ofNat v)), none, some (.int (Int32.ofNat c)), some (.int (Int32.ofNat (at9 c))), b9, b10, b11, b12], [.int ((Int32.ofNat (at9 c)) + (Int32.ofNat (mn c)))], A)) rfl ?_
    rw [i32_add (at9 c) (mn c)]
    refine wp_st 7 (f' := (64, [some (.ref (b)), some (.int (Int32.ofNat t)), some (.long (y2)), none, some (.int (Int32.ofNat k)), some (.long (Int64.ofNat v)), none, some (.int (Int32.ofNat c)), some (.int (Int32.ofNat (at9 c))), some (.int (Int32.ofNat (at9 c + (mn c)))), some (.int (Int32.ofNat 0)), some (.int (Int32.ofNat 0)), some (.int (Int32.ofNat (at9 c)))], [], A)) rfl ?_
    refine rn_cl (a0 := at9 c) (by omega) a3 (fun r q1 q2 => hj c r (by omega) q1 q2) (fun r q1 q2 => hH c r (by omega) q1 q2) h _ (at9 c) false false rfl (by omega) (by omega) ?_
    rw [show at9 c + mn c - at9 c = mn c by omega]
    obtain ⟨p1, hp1⟩ : ∃ x, x = (rf_cl jn H (mn c) (at9 c) false false).1 := ⟨_, rfl⟩
    obtain ⟨p2, hp2⟩ : ∃ x, x = (rf_cl jn H (mn c) (at9 c) false false).2 := ⟨_, rfl⟩
    rw [← hp1, ← hp2]
    refine wp_st 1 (f' := (141, [some (.ref (b)), some (.int (Int32.ofNat t)), some (.long (y2)), none, some (.int (Int32.ofNat k)), some (.long (Int64.ofNat v)), none, some (.int (Int32.ofNat c)), some (.int (Int32.ofNat (at9 c))), some (.int (Int32.ofNat (at9 c + (mn c)))), some (.int (sb_i p1)), some (.int (sb_i p2)), some (.int (Int32.ofNat (at9 c + mn c)))], [.int (sb_i p2)], A)) rfl ?_
    by_cases b1 : p2 = true
    · skip
      refine wp_izT rfl rfl (show sb_i p2 ≠ 0 from by rw [b1]; decide) ?_
      refine wp_st 1 (f' := (151, [some (.ref (b)), some (.int (Int32.ofNat t)), some (.long (y2)), none, some (.int (Int32.ofNat k)), some (.long (Int64.ofNat v)), none, some (.int (Int32.ofNat c)), some (.int (Int32.ofNat (at9 c))), some (.int (Int32.ofNat (at9 c + (mn c)))), some (.int (sb_i p1)), some (.int (sb_i p2)), some (.int (Int32.ofNat (at9 c + mn c)))], [.int (Int32.ofNat c)], A)) rfl ?_
      refine wp_rt rfl rfl rfl ?_
      have hcd : rf_cd jn H (mn c) (at9 c) = true := by rw [rf_cd, ← hp1, ← hp2]; simp [b1]
      rw [rf_cc, if_pos hcd]
    · skip
      have b1f : p2 = false := by simpa using b1
      refine wp_izF rfl rfl (show ¬ (sb_i p2 ≠ 0) from by rw [b1f]; decide) ?_
      refine wp_st 1 (f' := (146, [some (.ref (b)), some (.int (Int32.ofNat t)), some (.long (y2)), none, some (.int (Int32.ofNat k)), some (.long (Int64.ofNat v)), none, some (.int (Int32.ofNat c)), some (.int (Int32.ofNat (at9 c))), some (.int (Int32.ofNat (at9 c + (mn c)))), some (.int (sb_i p1)), some (.int (sb_i p2)), some (.int (Int32.ofNat (at9 c + mn c)))], [.int (sb_i p1)], A)) rfl ?_
      by_cases b2 : p1 = true
      · skip
        refine wp_izF rfl rfl (show ¬ (sb_i p1 = 0) from by rw [b2]; decide) ?_
        refine wp_st 1 (f' := (151, [some (.ref (b)), some (.int (Int32.ofNat t)), some (.long (y2)), none, some (.int (Int32.ofNat k)), some (.long (Int64.ofNat v)), none, some (.int (Int32.ofNat c)), some (.int (Int32.ofNat (at9 c))), some (.int (Int32.ofNat (at9 c + (mn c)))), some (.int (sb_i p1)), some (.int (sb_i p2)), some (.int (Int32.ofNat (at9 c + mn c)))], [.int (Int32.ofNat c)], A)) rfl ?_
        refine wp_rt rfl rfl rfl ?_
        have hcd : rf_cd jn H (mn c) (at9 c) = true := by rw [rf_cd, ← hp1, ← hp2]; simp [b1f, b2]
        rw [rf_cc, if_pos hcd]
      · skip
        have b2f : p1 = false := by simpa using b2
        refine wp_izT rfl rfl (show sb_i p1 = 0 from by rw [b2f]; decide) ?_
        refine wp_st 1 (f' := (155, [some (.ref (b)), some (.int (Int32.ofNat t)), some (.long (y2)), none, some (.int (Int32.ofNat k)), some (.long (Int64.ofNat v)), none, some (.int ((Int32.ofNat c) + (Int32.ofNat 1))), some (.int (Int32.ofNat (at9 c))), some (.int (Int32.ofNat (at9 c + (mn c)))), some (.int (sb_i p1)), some (.int (sb_i p2)), some (.int (Int32.ofNat (at9 c + mn c)))], [], A)) rfl ?_
        rw [i32_add (c) (1)]
        refine wp_gt rfl (show am_tgt 155 (-138) = 17 by decide +kernel) ?_
        have hcd : ¬ rf_cd jn H (mn c) (at9 c) = true := by rw [rf_cd, ← hp1, ← hp2]; simp [b1f, b2f]
        rw [rf_cc, if_neg hcd]
        exact ih (c + 1) _ _ _ _ _ (by omega) (by omega) (Or.inl ⟨_, rfl⟩)
theorem rn_cat {d b t v k : Nat} {at9 mn : Nat → Nat} {jn H : Nat → Bool} {s : rf_S} {A : am_H} (hv : v < 9223372036854775808) (hd : 1 ≤ d) (ht : t ≤ 1) (ha : ∀ c, c < 5 → s 30 (8 * t + c) = .int (Int32.ofNat (at9 c)) ∧ s 31 (8 * t + c) = .int (Int32.ofNat (mn c)) ∧ at9 c + mn c ≤ 144) (hj : ∀ c r, c < 5 → at9 c ≤ r → r < at9 c + mn c → s 35 r = .int (sb_i (jn r))) (hH : ∀ c r, c < 5 → at9 c ≤ r → r < at9 c + mn c → am_go (d - 1) 159 [.ref b, .int (Int32.ofNat r), .long (Int64.ofNat v), .int (Int32.ofNat k)] A (.inl (some (.int (sb_i (H r)))), A)) (h : rf A b s)  : am_go d 158 [.ref b, .int (Int32.ofNat t), .long (Int64.ofNat v), .int (Int32.ofNat k)] A (.inl (some (.int (Int32.ofNat (rf_cc at9 mn jn H 5 0)))), A) := by
  refine wp_go ?_
  refine wp_st 3 (f' := (3, [some (.ref (b)), some (.int (Int32.ofNat t)), some (.long (Int64.ofNat v)), none, some (.int (Int32.ofNat k)), none, none, none, none, none, none, none, none], [.int (lg_cmp (Int64.ofNat v) (Int64.ofNat 0))], A)) rfl ?_
  refine wp_izT rfl rfl ((lg_cmp_ge _ _).mpr ((i64_le (a := 0) (b := v) (by omega) (by omega)).mpr (by omega))) ?_
  refine wp_st 4 (f' := (17, [some (.ref (b)), some (.int (Int32.ofNat t)), some (.long (Int64.ofNat v)), none, some (.int (Int32.ofNat k)), some (.long (Int64.ofNat v)), none, some (.int (Int32.ofNat 0)), none, none, none, none, none], [], A)) rfl ?_
  exact rn_cc hd ht ha hj hH h 5 0 _ _ _ _ _ rfl (by omega) (Or.inr rfl)
theorem rn_catn {d b t v k : Nat} {at9 mn : Nat → Nat} {jn H : Nat → Bool} {s : rf_S} {A : am_H} (hv0 : 0 < v) (hv : v < 9223372036854775808) (hd : 1 ≤ d) (ht : t ≤ 1) (ha : ∀ c, c < 5 → s 30 (8 * t + c) = .int (Int32.ofNat (at9 c)) ∧ s 31 (8 * t + c) = .int (Int32.ofNat (mn c)) ∧ at9 c + mn c ≤ 144) (hj : ∀ c r, c < 5 → at9 c ≤ r → r < at9 c + mn c → s 35 r = .int (sb_i (jn r))) (hH : ∀ c r, c < 5 → at9 c ≤ r → r < at9 c + mn c → am_go (d - 1) 159 [.ref b, .int (Int32.ofNat r), .long (Int64.ofNat v), .int (Int32.ofNat k)] A (.inl (some (.int (sb_i (H r)))), A)) (h : rf A b s)  : am_go d 158 [.ref b, .int (Int32.ofNat t), .long ((-Int64.ofNat v)), .int (Int32.ofNat k)] A (.inl (some (.int (Int32.ofNat (rf_cc at9 mn jn H 5 0)))), A) := by
  refine wp_go ?_
  refine wp_st 3 (f' := (3, [some (.ref (b)), some (.int (Int32.ofNat t)), some (.long ((-Int64.ofNat v))), none, some (.int (Int32.ofNat k)), none, none, none, none, none, none, none, none], [.int (lg_cmp (-Int64.ofNat v) (Int64.ofNat 0))], A)) rfl ?_
  refine wp_izF rfl rfl (fun q => i64_neg hv0 hv ((lg_cmp_ge _ _).mp q)) ?_
  refine wp_st 2 (f' := (8, [some (.ref (b)), some (.int (Int32.ofNat t)), some (.long ((-Int64.ofNat v))), none, some (.int (Int32.ofNat k)), none, none, none, none, none, none, none, none], [.long (-(-Int64.ofNat v))], A)) rfl ?_
  rw [Int64.neg_neg]
  refine wp_st 4 (f' := (17, [some (.ref (b)), some (.int (Int32.ofNat t)), some (.long ((-Int64.ofNat v))), none, some (.int (Int32.ofNat k)), some (.long (Int64.ofNat v)), none, some (.int (Int32.ofNat 0)), none, none, none, none, none], [], A)) rfl ?_
  exact rn_cc hd ht ha hj hH h 5 0 _ _ _ _ _ rfl (by omega) (Or.inr rfl)
theorem rn_catz {d b t k : Nat} {at9 mn : Nat → Nat} {jn H : Nat → Bool} {s : rf_S} {A : am_H} {z : Int} (hz : z.natAbs < 9223372036854775808) (hd : 1 ≤ d) (ht : t ≤ 1) (ha : ∀ c, c < 5 → s 30 (8 * t + c) = .int (Int32.ofNat (at9 c)) ∧ s 31 (8 * t + c) = .int (Int32.ofNat (mn c)) ∧ at9 c + mn c ≤ 144) (hj : ∀ c r, c < 5 → at9 c ≤ r → r < at9 c + mn c → s 35 r = .int (sb_i (jn r))) (hH : ∀ c r, c < 5 → at9 c ≤ r → r < at9 c + mn c → am_go (d - 1) 159 [.ref b, .int (Int32.ofNat r), .long (Int64.ofNat z.natAbs), .int (Int32.ofNat k)] A (.inl (some (.int (sb_i (H r)))), A)) (h : rf A b s) : am_go d 158 [.ref b, .int (Int32.ofNat t), .long (Int64.ofInt z), .int (Int32.ofNat k)] A (.inl (some (.int (Int32.ofNat (rf_cc at9 mn jn H 5 0)))), A) := by
  by_cases h0 : z < 0
  · rw [i64_negz h0]
    exact rn_catn (by omega) hz hd ht ha hj hH h
  · rw [i64_pos h0]
    exact rn_cat hz hd ht ha hj hH h
