/-! The law's calls: both answer alike (those that throw nothing). -/
def lv_P (ws : List Int32) (A : am_H) (k d y : Nat) (as : List Value) (y' : Nat) (as' : List Value) : Prop := ∃ B C v, (∃ vs, A[45]? = some (0, vs)) ∧ am_go d y as A (.inl (some (.int v)), B) ∧ (∃ vs, B[128]? = some (11, vs)) ∧ B[0]? = some (100, ws.map .int) ∧ am_go d y' as' B (.inl (some (.int v)), C) ∧ lw_V ws C (k + 1)
section LV
variable {ws : List Int32} {A B C : am_H} {k d : Nat}
theorem lw_mk {f : Int32} {cs : List Nat} {n : Nat} {xs : List sb_vt} {nv : Nat} {M0 M1 : mg} {z0 z1 : Bool} {S0 S1 : rg} {w1 : List Nat} {s : rf_S} (h1 : cl_E B f cs n xs nv M0 M1 z0 z1 S0 S1 w1) (h2 : lw_A ws B k) (hF : sb_fr B C 128 (128 + 38)) (h3 : rf C 128 s) (h4 : lw_R f cs n xs nv M0 M1 z0 z1 S0 S1 w1 s) : lw_V ws C k := ⟨f, cs, n, xs, nv, M0, M1, z0, z1, S0, S1, w1, s, h1.rf hF (Nat.le_refl _), h3, h4, h2.rf hF⟩
theorem lv_len (h : lw_V ws A k) : lv_P ws A k d 12 [.ref 45] 120 [.ref 128] := by
  obtain ⟨f, cs, n, xs, nv, M0, M1, z0, z1, S0, S1, w1, s, h1, h2, h3, h4⟩ := h
  have hk := h1.k
  have h1' := h1
  obtain ⟨m0, m1, m2, s0, s1, s2, u0, u1, a, ff, rs, M2, z2, S2, w0, hJ⟩ := h1'
  obtain ⟨C, g1, g2, g3⟩ := rn_len (d := d) h3.1.1 h2
  exact ⟨A, C, _, hk, cm_len hJ, h2.k, h4.1, g1, lw_mk h1 (h4.cl (cl_F.refl A) (by omega)) g3 g2 (h3.fr (fun j hj => rf_u_row j hj))⟩
theorem lv_fault (h : lw_V ws A k) : lv_P ws A k d 13 [.ref 45] 155 [.ref 128] := by
  obtain ⟨f, cs, n, xs, nv, M0, M1, z0, z1, S0, S1, w1, s, h1, h2, h3, h4⟩ := h
  have hk := h1.k
  have h1' := h1
  obtain ⟨m0, m1, m2, s0, s1, s2, u0, u1, a, ff, rs, M2, z2, S2, w0, hJ⟩ := h1'
  obtain ⟨C, g1, g2, g3⟩ := rn_fault (d := d) h3.2.1 h2
  exact ⟨A, C, _, hk, cm_fault hJ, h2.k, h4.1, g1, lw_mk h1 (h4.cl (cl_F.refl A) (by omega)) g3 g2 (h3.fr (fun j hj => rf_u_row j hj))⟩
theorem lv_size (h : lw_V ws A k) : lv_P ws A k d 18 [.ref 45] 179 [.ref 128] := by
  obtain ⟨f, cs, n, xs, nv, M0, M1, z0, z1, S0, S1, w1, s, h1, h2, h3, h4⟩ := h
  have hk := h1.k
  have h1' := h1
  obtain ⟨m0, m1, m2, s0, s1, s2, u0, u1, a, ff, rs, M2, z2, S2, w0, hJ⟩ := h1'
  obtain ⟨C, g1, g2, g3⟩ := rn_size (d := d) h3.2.2.2.2.2.2.2.1.1 h2
  exact ⟨A, C, _, hk, cm_size hJ, h2.k, h4.1, g1, lw_mk h1 (h4.cl (cl_F.refl A) (by omega)) g3 g2 (h3.fr (fun j hj => rf_u_row j hj))⟩
theorem i32_nn {x : Int32} (h : ¬ x < 0) : ∃ k, x = Int32.ofNat k ∧ k < 2147483648 := by
  refine ⟨x.toInt.toNat, ?_, ?_⟩
  · rw [Int32.lt_iff_toInt_lt] at h
    have h0 : (0 : Int32).toInt = 0 := rfl
    apply Int32.toInt_inj.mp
    have := x.toInt_lt
    rw [Int32.toInt_ofNat_of_lt (by omega)]
    omega
  · have := x.toInt_lt
    omega
theorem lv_out {x : Int32} (h : lw_V ws A k) : lv_P ws A k d 19 [.ref 45, .int x] 180 [.ref 128, .int x] := by
  obtain ⟨f, cs, n, xs, nv, M0, M1, z0, z1, S0, S1, w1, s, h1, h2, h3, h4⟩ := h
  have hk := h1.k
  have h1' := h1
  obtain ⟨m0, m1, m2, s0, s1, s2, u0, u1, a, ff, rs, M2, z2, S2, w0, hJ⟩ := h1'
  by_cases hx : x < 0
  · obtain ⟨C, g1, g2, g3⟩ := rn_outn (d := d) hx h2
    exact ⟨A, C, _, hk, cm_outn hx hJ, h2.k, h4.1, g1, lw_mk h1 (h4.cl (cl_F.refl A) (by omega)) g3 g2 (h3.fr (fun j hj => rf_u_row j hj))⟩
  · obtain ⟨q, rfl, hq⟩ := i32_nn hx
    have hO := h3.2.2.2.2.2.2.2.1
    obtain ⟨C, g1, g2, g3⟩ := rn_out (d := d) hq hO.1 hO.2.2 hO.2.1 h2
    exact ⟨A, C, _, hk, cm_out hq hJ, h2.k, h4.1, g1, lw_mk h1 (h4.cl (cl_F.refl A) (by omega)) g3 g2 (h3.fr (fun j hj => rf_u_row j hj))⟩
theorem lv_wipe (h : lw_V ws A k) : ∃ B C, (∃ vs, A[45]? = some (0, vs)) ∧ am_go d 11 [.ref 45] A (.inl none, B) ∧ (∃ vs, B[128]? = some (11, vs)) ∧ am_go d 119 [.ref 128] B (.inl none, C) ∧ lw_V ws C (k + 1) := by
  obtain ⟨f, cs, n, xs, nv, M0, M1, z0, z1, S0, S1, w1, s, h1, h2, h3, h4⟩ := h
  have hk := h1.k
  obtain ⟨m0, m1, m2, s0, s1, s2, u0, u1, a, ff, rs, M2, z2, S2, w0, hJ⟩ := h1
  obtain ⟨B, e1, e2, e3⟩ := cm_wipe (d := d) hJ
  have hB := h2.cl e3 h4.2.2.1
  obtain ⟨C, g1, g2, g3⟩ := rn_wipe (d := d) hB
  refine ⟨B, C, hk, e1, hB.k, g1, lw_mk ⟨m0, m1, m2, s0, s1, s2, u0, u1, a, ff, rs, M2, z2, S2, w0, e2⟩ (h4.cl e3 (by omega)) g3 g2 ?_⟩
  obtain ⟨q1, q2, q3, q4, q5, q6, q7, q8, q9⟩ := h3
  have e : ∀ j, j ≠ 0 → j ≠ 3 → rf_u (rf_u s 0 0 (.int (Int32.ofNat 0))) 3 0 (.int (Int32.ofNat 0)) j = s j := fun j a b => (rf_u_row j b).trans (rf_u_row j a)
  exact ⟨⟨rf_u_eq .., fun i hi => absurd hi (Nat.not_lt_zero _), Nat.zero_le _, fun i hi => absurd hi (Nat.not_lt_zero _)⟩, by rw [e 1 (by omega) (by omega)]; exact q2, q3.fr (by rw [e _ (by omega) (by omega)]) (by rw [e _ (by omega) (by omega)]) (fun j i _ _ _ _ => by rw [e _ (by omega) (by omega)]) (fun j i _ _ _ _ => by rw [e _ (by omega) (by omega)]), q4.fr (by rw [e _ (by omega) (by omega)]) (by rw [e _ (by omega) (by omega)]) (fun j i _ _ _ _ => by rw [e _ (by omega) (by omega)]) (fun j i _ _ _ _ => by rw [e _ (by omega) (by omega)]), ⟨q5.1.fr q5.2 (fun j i _ _ _ _ => by rw [e _ (by omega) (by omega)]) (fun j i _ _ _ _ => by rw [e _ (by omega) (by omega)]) (fun j i _ _ _ _ => by rw [e _ (by omega) (by omega)]), q5.2⟩, ⟨q6.1.fr q6.2 (fun j i _ _ _ _ => by rw [e _ (by omega) (by omega)]) (fun j i _ _ _ _ => by rw [e _ (by omega) (by omega)]) (fun j i _ _ _ _ => by rw [e _ (by omega) (by omega)]), q6.2⟩, q7.fr (fun j _ _ => e j (by omega) (by omega)), q8.fr (e _ (by omega) (by omega)) (e _ (by omega) (by omega)), q9.fr (e _ (by omega) (by omega)) (e _ (by omega) (by omega)) (e _ (by omega) (by omega)) (e _ (by omega) (by omega))⟩
theorem rf_ty_ne : ∀ (l : List Nat) (s : rf_S) (m j : Nat), j ≠ 2 → j ≠ 3 → rf_ty s m l j = s j
  | [], s, m, j, _, _ => rfl
  | c :: r, s, m, j, h2, h3 => by
    rw [rf_ty, rf_ty_ne r _ _ j h2 h3, rf_u_row j h3, rf_u_row j h2]
theorem sb_getD_n {cs : List Nat} {i j v : Nat} (hi : i < cs.length) : (cs.set i v).getD j 0 = if j = i then v else cs.getD j 0 := by
  rw [List.getD_eq_getElem?_getD, List.getElem?_set]
  by_cases h : j = i
  · subst h
    rw [if_pos rfl, if_pos rfl, if_pos hi]
    rfl
  · rw [if_neg (fun e => h e.symm), if_neg h, List.getD_eq_getElem?_getD]
theorem rf_ty_tx : ∀ (l : List Nat) (s : rf_S) (cs : List Nat) (n : Nat), cs.length = 120 → (∀ c ∈ l, 32 ≤ c ∧ c ≤ 126) → n + l.length ≤ 120 → rf_tx s cs n → rf_tx (rf_ty s n l) (sb_plc cs n l) (n + l.length)
  | [], s, cs, n, _, _, _, h => h
  | c :: r, s, cs, n, hl, hc, hn, h => by
    rw [List.length_cons] at hn ⊢
    rw [rf_ty, sb_plc, show n + (r.length + 1) = n + 1 + r.length by omega]
    have hcc := hc c (List.mem_cons_self ..)
    have g : ∀ j, (cs.set n c).getD j 0 = if j = n then c else cs.getD j 0 := fun j => sb_getD_n (by omega)
    refine rf_ty_tx r _ _ (n + 1) (by rw [List.length_set]; exact hl) (fun d hd => hc d (List.mem_cons_of_mem _ hd)) (by omega) ⟨rf_u_eq .., fun i hi => ?_, by omega, fun i hi => ?_⟩
    · rw [rf_u_ne (Or.inl (by decide)), g]
      by_cases e : i = n
      · subst e
        rw [rf_u_eq, if_pos rfl]
      · rw [rf_u_ne (Or.inr e), if_neg e]
        exact h.2.1 i (by omega)
    · rw [g]
      by_cases e : i = n
      · rw [if_pos e]; omega
      · rw [if_neg e]; exact h.2.2.2 i (by omega)
theorem lv_type {x : Int32} (hd : 1 ≤ d) (h : lw_V ws A k) : lv_P ws A k d 8 [.ref 45, .int x] 118 [.ref 128, .int x] := by
  obtain ⟨f, cs, n, xs, nv, M0, M1, z0, z1, S0, S1, w1, s, h1, h2, h3, h4⟩ := h
  have hk := h1.k
  have htx := h1.tx
  obtain ⟨m0, m1, m2, s0, s1, s2, u0, u1, a, ff, rs, M2, z2, S2, w0, hJ⟩ := h1
  obtain ⟨B, e1, e2, e3⟩ := cm_type (d := d) (w := x) hd hJ
  have hB := h2.cl e3 h4.2.2.1
  obtain ⟨C, g1, g2, g3⟩ := rn_type (d := d) (w := x) htx.2.1 h3.1.1 hB
  have hA := h4.cl e3 (by omega)
  refine ⟨B, C, _, hk, e1, hB.k, hA.1, g1, lw_mk ⟨m0, m1, m2, s0, s1, s2, u0, u1, a, ff, rs, M2, z2, S2, w0, e2⟩ hA g3 g2 ?_⟩
  unfold cl_tc cl_tn
  rcases ht : cl_ty n x with _ | _
  · exact h3.fr (fun j hj => rf_u_row j hj)
  · dsimp only [cond]
    have hty : sb_all 32 126 (sb_bl x 4) = true ∧ n + (sb_bl x 4).length ≤ 120 := by
      unfold cl_ty at ht
      split at ht
      · next q1 =>
        split at ht
        · next q2 => exact ⟨q1, q2⟩
        · cases ht
      · cases ht
    have h3' := h3.fr (u := rf_u s 0 0 (.int (Int32.ofNat 0))) (fun j hj => rf_u_row j hj)
    generalize rf_u s 0 0 (.int (Int32.ofNat 0)) = s' at h3'
    obtain ⟨q1, q2, q3, q4, q5, q6, q7, q8, q9⟩ := h3'
    have e : ∀ j, j ≠ 2 → j ≠ 3 → rf_ty s' n (sb_bl x 4) j = s' j := fun j a b => rf_ty_ne _ _ _ j a b
    exact ⟨rf_ty_tx _ _ _ _ htx.1 (sb_bl_all hty.1) hty.2 q1, by rw [e 1 (by omega) (by omega)]; exact q2, q3.fr (by rw [e _ (by omega) (by omega)]) (by rw [e _ (by omega) (by omega)]) (fun j i _ _ _ _ => by rw [e _ (by omega) (by omega)]) (fun j i _ _ _ _ => by rw [e _ (by omega) (by omega)]), q4.fr (by rw [e _ (by omega) (by omega)]) (by rw [e _ (by omega) (by omega)]) (fun j i _ _ _ _ => by rw [e _ (by omega) (by omega)]) (fun j i _ _ _ _ => by rw [e _ (by omega) (by omega)]), ⟨q5.1.fr q5.2 (fun j i _ _ _ _ => by rw [e _ (by omega) (by omega)]) (fun j i _ _ _ _ => by rw [e _ (by omega) (by omega)]) (fun j i _ _ _ _ => by rw [e _ (by omega) (by omega)]), q5.2⟩, ⟨q6.1.fr q6.2 (fun j i _ _ _ _ => by rw [e _ (by omega) (by omega)]) (fun j i _ _ _ _ => by rw [e _ (by omega) (by omega)]) (fun j i _ _ _ _ => by rw [e _ (by omega) (by omega)]), q6.2⟩, q7.fr (fun j _ _ => e j (by omega) (by omega)), q8.fr (e _ (by omega) (by omega)) (e _ (by omega) (by omega)), q9.fr (e _ (by omega) (by omega)) (e _ (by omega) (by omega)) (e _ (by omega) (by omega)) (e _ (by omega) (by omega))⟩
end LV
