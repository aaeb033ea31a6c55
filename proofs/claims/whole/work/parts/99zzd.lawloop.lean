/-! The law's loop. -/
theorem i32_and15 (x : Int32) : ∃ c, c < 16 ∧ x &&& Int32.ofNat 15 = Int32.ofNat c := by
  refine ⟨(x.toUInt32 &&& 15).toNat, ?_, ?_⟩
  · rw [u32_nib]
    omega
  · have h := i32_of_u32 (x := x.toUInt32 &&& 15) rfl
    rw [← h]
    rfl
def lw_Q1 (ws : List Int32) (z : am_O × am_H) : Prop := z.1 = .inl (some (.int 1)) ∧ z.2.length ≤ 45 + 601024 ∧ am_sl z.2 ≤ am_sl (am_A0 ws) + 7293034
theorem lw_len5 {n i : Nat} (hn : n ≤ 2560) (hi : i ≤ n) (h0 : n < 5 → i = 0) : (Int32.ofNat n - Int32.ofNat 5 < Int32.ofNat i) ↔ n < i + 5 := by
  by_cases h : 5 ≤ n
  · rw [i32_sub h, i32_lt (by omega) (by omega)]
    omega
  · have := h0 (by omega)
    subst this
    have hh : Int32.ofNat n - Int32.ofNat 5 < Int32.ofNat 0 := by
      rcases (show n = 0 ∨ n = 1 ∨ n = 2 ∨ n = 3 ∨ n = 4 by omega) with e | e | e | e | e <;> subst e <;> decide
    exact ⟨fun _ => by omega, fun _ => hh⟩
theorem lw_loop {ws : List Int32} {d : Nat} (hd : 60 ≤ d) (hl : ws.length ≤ 2560) : ∀ (q k : Nat) (A : am_H) (v5 v6 : Option Value), ws.length - 5 * k < q → 5 * k ≤ ws.length → lw_V ws A k → am_wp d 181 (23, [some (.ref 0), some (.ref 45), some (.ref 128), some (.ref 166), some (.int (Int32.ofNat (5 * k))), v5, v6], [], A) (lw_Q1 ws) := by
  intro q
  induction q with
  | zero =>
    intro k A v5 v6 h1
    omega
  | succ q ih =>
    intro k A v5 v6 hq hk h
    have h0 : A[0]? = some (100, ws.map .int) := by
      obtain ⟨f, cs, n, xs, nv, M0, M1, z0, z1, S0, S1, w1, s, h1, h2, h3, h4⟩ := h
      exact h4.1
    refine wp_st 2 (f' := (26, [some (.ref 0), some (.ref 45), some (.ref 128), some (.ref 166), some (.int (Int32.ofNat (5 * k))), v5, v6], [.ref 0, .int (Int32.ofNat (5 * k))], A)) rfl ?_
    refine wp_ln rfl h0 rfl rfl rfl ?_
    rw [List.length_map]
    refine wp_st 2 (f' := (29, [some (.ref 0), some (.ref 45), some (.ref 128), some (.ref 166), some (.int (Int32.ofNat (5 * k))), v5, v6], [.int (Int32.ofNat ws.length - Int32.ofNat 5), .int (Int32.ofNat (5 * k))], A)) rfl ?_
    have hcmp := lw_len5 (n := ws.length) (i := 5 * k) hl hk (fun z => by omega)
    by_cases hend : ws.length < 5 * k + 5
    · refine wp_ifT (t := 703) rfl (show am_tgt 29 674 = 703 by decide +kernel) (hcmp.mpr hend) ?_
      refine wp_st 1 (f' := (704, [some (.ref 0), some (.ref 45), some (.ref 128), some (.ref 166), some (.int (Int32.ofNat (5 * k))), v5, v6], [.int (Int32.ofNat 1)], A)) rfl ?_
      refine wp_rt rfl rfl rfl ?_
      obtain ⟨f, cs, n, xs, nv, M0, M1, z0, z1, S0, S1, w1, s, h1, h2, h3, h4⟩ := h
      obtain ⟨a1, a2, a3, a4, a5⟩ := h4
      exact ⟨rfl, by show A.length ≤ 45 + 601024; omega, by show am_sl A ≤ am_sl (am_A0 ws) + 7293034; omega⟩
    · refine wp_ifF (t := 32) rfl rfl (fun z => hend (hcmp.mp z)) ?_
      refine wp_st 2 (f' := (35, [some (.ref 0), some (.ref 45), some (.ref 128), some (.ref 166), some (.int (Int32.ofNat (5 * k))), v5, v6], [.int (Int32.ofNat (5 * k)), .ref 0], A)) rfl ?_
      refine wp_al rfl (Or.inl ⟨rfl, rfl⟩) rfl h0 (by omega) (lw_el (by omega)) rfl ?_
      refine wp_st 2 (f' := (39, [some (.ref 0), some (.ref 45), some (.ref 128), some (.ref 166), some (.int (Int32.ofNat (5 * k))), v5, v6], [.int (ws.getD (5 * k) 0 &&& Int32.ofNat 15)], A)) rfl ?_
      obtain ⟨c, hc, he⟩ := i32_and15 (ws.getD (5 * k) 0)
      rw [he]
      have hkk : ∀ B w5 w6, lw_V ws B (k + 1) → am_wp d 181 (697, [some (.ref 0), some (.ref 45), some (.ref 128), some (.ref 166), some (.int (Int32.ofNat (5 * k))), w5, w6], [], B) (lw_Q1 ws) := by
        intro B w5 w6 hB
        refine wp_st 1 (f' := (700, [some (.ref 0), some (.ref 45), some (.ref 128), some (.ref 166), some (.int (Int32.ofNat (5 * k) + Int32.ofNat 5)), w5, w6], [], B)) rfl ?_
        rw [i32_add, show 5 * k + 5 = 5 * (k + 1) by omega]
        refine wp_gt rfl (show am_tgt 700 (-677) = 23 by decide +kernel) ?_
        exact ih (k + 1) B w5 w6 (by omega) (by omega) hB
      have hidle : lw_V ws A (k + 1) := by
        obtain ⟨f, cs, n, xs, nv, M0, M1, z0, z1, S0, S1, w1, s, h1, h2, h3, h4⟩ := h
        exact ⟨f, cs, n, xs, nv, M0, M1, z0, z1, S0, S1, w1, s, h1, h2, h3, h4.cl (cl_F.refl A) (by omega)⟩
      have hi : 5 * k + 5 ≤ ws.length := by omega
      match c, hc with
      | 0, _ =>
        refine wp_st 1 (f' := (104, [some (.ref 0), some (.ref 45), some (.ref 128), some (.ref 166), some (.int (Int32.ofNat (5 * k))), v5, v6], [], A)) rfl ?_
        exact lc_type hd hi hl h h0 hkk
      | 1, _ =>
        refine wp_st 1 (f' := (129, [some (.ref 0), some (.ref 45), some (.ref 128), some (.ref 166), some (.int (Int32.ofNat (5 * k))), v5, v6], [], A)) rfl ?_
        exact lc_wipe hd hi hl h h0 hkk
      | 2, _ =>
        refine wp_st 1 (f' := (140, [some (.ref 0), some (.ref 45), some (.ref 128), some (.ref 166), some (.int (Int32.ofNat (5 * k))), v5, v6], [], A)) rfl ?_
        exact lc_len hd hi hl h h0 hkk
      | 3, _ =>
        refine wp_st 1 (f' := (153, [some (.ref 0), some (.ref 45), some (.ref 128), some (.ref 166), some (.int (Int32.ofNat (5 * k))), v5, v6], [], A)) rfl ?_
        exact lc_comp hd hi hl h h0 hkk
      | 4, _ =>
        refine wp_st 1 (f' := (217, [some (.ref 0), some (.ref 45), some (.ref 128), some (.ref 166), some (.int (Int32.ofNat (5 * k))), v5, v6], [], A)) rfl ?_
        exact lc_rul hd hi hl h h0 hkk
      | 5, _ =>
        refine wp_st 1 (f' := (269, [some (.ref 0), some (.ref 45), some (.ref 128), some (.ref 166), some (.int (Int32.ofNat (5 * k))), v5, v6], [], A)) rfl ?_
        exact lc_fault hd hi hl h h0 hkk
      | 6, _ =>
        refine wp_st 1 (f' := (282, [some (.ref 0), some (.ref 45), some (.ref 128), some (.ref 166), some (.int (Int32.ofNat (5 * k))), v5, v6], [], A)) rfl ?_
        exact lc_num hd hi hl h h0 hkk
      | 7, _ =>
        refine wp_st 1 (f' := (374, [some (.ref 0), some (.ref 45), some (.ref 128), some (.ref 166), some (.int (Int32.ofNat (5 * k))), v5, v6], [], A)) rfl ?_
        exact lc_word hd hi hl h h0 hkk
      | 8, _ =>
        refine wp_st 1 (f' := (422, [some (.ref 0), some (.ref 45), some (.ref 128), some (.ref 166), some (.int (Int32.ofNat (5 * k))), v5, v6], [], A)) rfl ?_
        exact lc_drop hd hi hl h h0 hkk
      | 9, _ =>
        refine wp_st 1 (f' := (447, [some (.ref 0), some (.ref 45), some (.ref 128), some (.ref 166), some (.int (Int32.ofNat (5 * k))), v5, v6], [], A)) rfl ?_
        exact lc_cat hd hi hl h h0 hkk
      | 10, _ =>
        refine wp_st 1 (f' := (575, [some (.ref 0), some (.ref 45), some (.ref 128), some (.ref 166), some (.int (Int32.ofNat (5 * k))), v5, v6], [], A)) rfl ?_
        exact lc_fmt hd hi hl h h0 hkk
      | 11, _ =>
        refine wp_st 1 (f' := (659, [some (.ref 0), some (.ref 45), some (.ref 128), some (.ref 166), some (.int (Int32.ofNat (5 * k))), v5, v6], [], A)) rfl ?_
        exact lc_size hd hi hl h h0 hkk
      | 12, _ =>
        refine wp_st 1 (f' := (672, [some (.ref 0), some (.ref 45), some (.ref 128), some (.ref 166), some (.int (Int32.ofNat (5 * k))), v5, v6], [], A)) rfl ?_
        exact lc_out hd hi hl h h0 hkk
      | 13, _ =>
        refine wp_st 1 (f' := (697, [some (.ref 0), some (.ref 45), some (.ref 128), some (.ref 166), some (.int (Int32.ofNat (5 * k))), v5, v6], [], A)) rfl ?_
        exact hkk _ _ _ hidle
      | 14, _ =>
        refine wp_st 1 (f' := (697, [some (.ref 0), some (.ref 45), some (.ref 128), some (.ref 166), some (.int (Int32.ofNat (5 * k))), v5, v6], [], A)) rfl ?_
        exact hkk _ _ _ hidle
      | 15, _ =>
        refine wp_st 1 (f' := (697, [some (.ref 0), some (.ref 45), some (.ref 128), some (.ref 166), some (.int (Int32.ofNat (5 * k))), v5, v6], [], A)) rfl ?_
        exact hkk _ _ _ hidle
      | c + 16, hc => omega
