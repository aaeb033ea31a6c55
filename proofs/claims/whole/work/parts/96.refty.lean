/-! The reference: type, category. -/
def rf_ty (s : rf_S) : Nat → List Nat → rf_S
  | _, [] => s
  | m, c :: r => rf_ty (rf_u (rf_u s 2 m (.int (Int32.ofNat c))) 3 0 (.int (Int32.ofNat (m + 1)))) (m + 1) r
theorem rn_ty1 {d b : Nat} {w : Int32} {A : am_H} {Q : am_O × am_H → Prop} : ∀ (k m : Nat) (b4 : Option Value), k ≤ 4 → m + k ≤ 1000 → (sb_all 32 126 (sb_bl w k) = true → ∀ b9, am_wp d 118 (63, [some (.ref b), some (.int w), some (.int (Int32.ofNat (m + (sb_bl w k).length))), some (.int (sb_sh 0)), b9], [], A) Q) → (sb_all 32 126 (sb_bl w k) = false → Q (.inl (some (.int (Int32.ofNat 0))), A)) → am_wp d 118 (10, [some (.ref b), some (.int w), some (.int (Int32.ofNat (m))), some (.int (sb_sh k)), b4], [], A) Q := by
  intro k
  induction k with
  | zero =>
    intro m b4 hk hm hon htw
    refine wp_st 1 (f' := (11, [some (.ref b), some (.int w), some (.int (Int32.ofNat m)), some (.int (sb_sh 0)), b4], [.int (sb_sh 0)], A)) rfl ?_
    refine wp_izT rfl rfl (show sb_sh 0 < Int32.ofNat 0 from by decide) ?_
    exact hon rfl b4
  | succ k ih =>
    intro m b4 hk hm hon htw
    have hb := sb_by_lt w (8 * k)
    rw [sb_sh_s]
    refine wp_st 1 (f' := (11, [some (.ref (b)), some (.int (w)), some (.int (Int32.ofNat m)), some (.int (Int32.ofNat (8 * k))), b4], [.int (Int32.ofNat (8 * k))], A)) rfl ?_
    refine wp_izF rfl rfl (Int32.ofNat_not_neg (by omega)) ?_
    refine wp_st 5 (f' := (21, [some (.ref (b)), some (.int (w)), some (.int (Int32.ofNat m)), some (.int (Int32.ofNat (8 * k))), b4], [.int ((w >>> ((Int32.ofNat (8 * k)) &&& 31)) &&& (Int32.ofNat 255))], A)) rfl ?_
    rw [show w >>> (Int32.ofNat (8 * k) &&& 31) &&& Int32.ofNat 255 = Int32.ofNat (sb_by w (8 * k)) from sb_ssh (by omega)]
    refine wp_st 2 (f' := (25, [some (.ref (b)), some (.int (w)), some (.int (Int32.ofNat m)), some (.int (Int32.ofNat (8 * k))), some (.int (Int32.ofNat (sb_by w (8 * k))))], [.int (Int32.ofNat (sb_by w (8 * k)))], A)) rfl ?_
    refine wp_iz rfl rfl rfl (fun (h1 : (Int32.ofNat (sb_by w (8 * k))) = (Int32.ofNat 0)) => ?_) (fun (h1 : ¬ ((Int32.ofNat (sb_by w (8 * k))) = (Int32.ofNat 0))) => ?_)
    · skip
      rw [i32_eq (by omega) (by omega)] at h1
      refine wp_st 1 (f' := (46, [some (.ref (b)), some (.int (w)), some (.int (Int32.ofNat m)), some (.int (Int32.ofNat (8 * k))), some (.int (Int32.ofNat (sb_by w (8 * k))))], [.int (Int32.ofNat (sb_by w (8 * k)))], A)) rfl ?_
      refine wp_izT rfl rfl ((i32_eq (a := sb_by w (8 * k)) (b := 0) (by omega) (by omega)).mpr (by omega)) ?_
      refine wp_st 4 (f' := (10, [some (.ref (b)), some (.int (w)), some (.int (Int32.ofNat m)), some (.int ((Int32.ofNat (8 * k)) + (-8))), some (.int (Int32.ofNat (sb_by w (8 * k))))], [], A)) rfl ?_
      rw [show Int32.ofNat (8 * k) + (-8) = sb_sh k from rfl]
      rw [sb_bl_z h1] at hon htw
      exact ih m _ (by omega) (by omega) hon htw
    · skip
      rw [i32_eq (by omega) (by omega)] at h1
      refine wp_st 2 (f' := (32, [some (.ref (b)), some (.int (w)), some (.int (Int32.ofNat m)), some (.int (Int32.ofNat (8 * k))), some (.int (Int32.ofNat (sb_by w (8 * k))))], [.int (Int32.ofNat 32), .int (Int32.ofNat (sb_by w (8 * k)))], A)) rfl ?_
      refine wp_if rfl rfl rfl (fun (h2 : (Int32.ofNat (sb_by w (8 * k))) < (Int32.ofNat 32)) => ?_) (fun (h2 : ¬ ((Int32.ofNat (sb_by w (8 * k))) < (Int32.ofNat 32))) => ?_)
      · skip
        rw [i32_lt (by omega) (by omega)] at h2
        refine wp_st 1 (f' := (43, [some (.ref (b)), some (.int (w)), some (.int (Int32.ofNat m)), some (.int (Int32.ofNat (8 * k))), some (.int (Int32.ofNat (sb_by w (8 * k))))], [.int (Int32.ofNat 0)], A)) rfl ?_
        refine wp_rt rfl rfl rfl ?_
        exact htw (by rw [sb_bl_s h1, sb_all_c, show (decide (32 ≤ sb_by w (8 * k)) && decide (sb_by w (8 * k) ≤ 126)) = false by simp; omega]; rfl)
      · skip
        rw [i32_lt (by omega) (by omega)] at h2
        refine wp_st 2 (f' := (39, [some (.ref (b)), some (.int (w)), some (.int (Int32.ofNat m)), some (.int (Int32.ofNat (8 * k))), some (.int (Int32.ofNat (sb_by w (8 * k))))], [.int (Int32.ofNat 126), .int (Int32.ofNat (sb_by w (8 * k)))], A)) rfl ?_
        refine wp_if rfl rfl rfl (fun (h3 : (Int32.ofNat (sb_by w (8 * k))) ≤ (Int32.ofNat 126)) => ?_) (fun (h3 : ¬ ((Int32.ofNat (sb_by w (8 * k))) ≤ (Int32.ofNat 126))) => ?_)
        · skip
          rw [i32_le (by omega) (by omega)] at h3
          refine wp_st 1 (f' := (46, [some (.ref (b)), some (.int (w)), some (.int (Int32.ofNat m)), some (.int (Int32.ofNat (8 * k))), some (.int (Int32.ofNat (sb_by w (8 * k))))], [.int (Int32.ofNat (sb_by w (8 * k)))], A)) rfl ?_
          refine wp_izF rfl rfl (fun q => absurd ((i32_eq (a := sb_by w (8 * k)) (b := 0) (by omega) (by omega)).mp q) (by omega)) ?_
          refine wp_st 3 (f' := (52, [some (.ref (b)), some (.int (w)), some (.int (Int32.ofNat m)), some (.int (Int32.ofNat (8 * k))), some (.int (Int32.ofNat (sb_by w (8 * k))))], [.int ((Int32.ofNat m) + (Int32.ofNat 1))], A)) rfl ?_
          rw [i32_add (m) (1)]
          refine wp_st 4 (f' := (10, [some (.ref (b)), some (.int (w)), some (.int (Int32.ofNat (m + 1))), some (.int ((Int32.ofNat (8 * k)) + (-8))), some (.int (Int32.ofNat (sb_by w (8 * k))))], [], A)) rfl ?_
          rw [show Int32.ofNat (8 * k) + (-8) = sb_sh k from rfl]
          have ha : sb_all 32 126 (sb_bl w (k + 1)) = sb_all 32 126 (sb_bl w k) := by rw [sb_bl_s h1, sb_all_c, decide_eq_true (show 32 ≤ sb_by w (8 * k) by omega), decide_eq_true (show sb_by w (8 * k) ≤ 126 by omega)]; rfl
          rw [ha] at hon htw
          refine ih (m + 1) _ (by omega) (by omega) (fun e b9 => ?_) htw
          have h9 := hon e b9
          rw [sb_bl_s h1, List.length_cons] at h9
          rw [show m + 1 + (sb_bl w k).length = m + ((sb_bl w k).length + 1) by omega]
          exact h9
        · skip
          rw [i32_le (by omega) (by omega)] at h3
          refine wp_st 1 (f' := (43, [some (.ref (b)), some (.int (w)), some (.int (Int32.ofNat m)), some (.int (Int32.ofNat (8 * k))), some (.int (Int32.ofNat (sb_by w (8 * k))))], [.int (Int32.ofNat 0)], A)) rfl ?_
          refine wp_rt rfl rfl rfl ?_
          exact htw (by rw [sb_bl_s h1, sb_all_c, show (decide (32 ≤ sb_by w (8 * k)) && decide (sb_by w (8 * k) ≤ 126)) = false by simp; omega]; rfl)
theorem rn_ty2 {d b : Nat} {w z2 : Int32} : ∀ (k m : Nat) (b4 : Option Value) (s : rf_S) (A : am_H), k ≤ 4 → s 3 0 = .int (Int32.ofNat m) → m + (sb_bl w k).length ≤ 120 → rf A b s → am_wp d 118 (79, [some (.ref b), some (.int w), some (.int z2), some (.int (sb_sh k)), b4], [], A) (fun q => q.1 = .inl (some (.int (Int32.ofNat 1))) ∧ rf q.2 b (rf_ty s m (sb_bl w k)) ∧ sb_fr A q.2 b (b + 38)) := by
  intro k
  induction k with
  | zero =>
    intro m b4 s A hk hth hm h
    refine wp_st 1 (f' := (80, [some (.ref b), some (.int w), some (.int z2), some (.int (sb_sh 0)), b4], [.int (sb_sh 0)], A)) rfl ?_
    refine wp_izT rfl rfl (show sb_sh 0 < Int32.ofNat 0 from by decide) ?_
    refine wp_st 1 (f' := (125, [some (.ref b), some (.int w), some (.int z2), some (.int (sb_sh 0)), b4], [.int (Int32.ofNat 1)], A)) rfl ?_
    refine wp_rt rfl rfl rfl ?_
    exact ⟨rfl, h, sb_fr.refl A b (b + 38)⟩
  | succ k ih =>
    intro m b4 s A hk hth hm h
    have hb := sb_by_lt w (8 * k)
    have hbl : sb_by w (8 * k) ≠ 0 → (sb_bl w (k + 1)).length = (sb_bl w k).length + 1 := fun q => by rw [sb_bl_s q]; rfl
    rw [sb_sh_s]
    refine wp_st 1 (f' := (80, [some (.ref (b)), some (.int (w)), some (.int (z2)), some (.int (Int32.ofNat (8 * k))), b4], [.int (Int32.ofNat (8 * k))], A)) rfl ?_
    refine wp_izF rfl rfl (Int32.ofNat_not_neg (by omega)) ?_
    refine wp_st 5 (f' := (90, [some (.ref (b)), some (.int (w)), some (.int (z2)), some (.int (Int32.ofNat (8 * k))), b4], [.int ((w >>> ((Int32.ofNat (8 * k)) &&& 31)) &&& (Int32.ofNat 255))], A)) rfl ?_
    rw [show w >>> (Int32.ofNat (8 * k) &&& 31) &&& Int32.ofNat 255 = Int32.ofNat (sb_by w (8 * k)) from sb_ssh (by omega)]
    refine wp_st 2 (f' := (94, [some (.ref (b)), some (.int (w)), some (.int (z2)), some (.int (Int32.ofNat (8 * k))), some (.int (Int32.ofNat (sb_by w (8 * k))))], [.int (Int32.ofNat (sb_by w (8 * k)))], A)) rfl ?_
    refine wp_iz rfl rfl rfl (fun (h1 : (Int32.ofNat (sb_by w (8 * k))) = (Int32.ofNat 0)) => ?_) (fun (h1 : ¬ ((Int32.ofNat (sb_by w (8 * k))) = (Int32.ofNat 0))) => ?_)
    · skip
      rw [i32_eq (by omega) (by omega)] at h1
      refine wp_st 2 (f' := (79, [some (.ref (b)), some (.int (w)), some (.int (z2)), some (.int ((Int32.ofNat (8 * k)) + (-8))), some (.int (Int32.ofNat (sb_by w (8 * k))))], [], A)) rfl ?_
      rw [show Int32.ofNat (8 * k) + (-8) = sb_sh k from rfl]
      rw [sb_bl_z h1] at hm ⊢
      exact ih m _ s _ (by omega) hth (by omega) h
    · skip
      rw [i32_eq (by omega) (by omega)] at h1
      have hbl9 := hbl h1
      refine wp_st 1 (f' := (98, [some (.ref (b)), some (.int (w)), some (.int (z2)), some (.int (Int32.ofNat (8 * k))), some (.int (Int32.ofNat (sb_by w (8 * k))))], [.ref (b)], A)) rfl ?_
      refine rw_gr h rfl rfl rfl rfl rfl rfl ?_
      refine wp_st 1 (f' := (102, [some (.ref (b)), some (.int (w)), some (.int (z2)), some (.int (Int32.ofNat (8 * k))), some (.int (Int32.ofNat (sb_by w (8 * k))))], [.ref (b), .ref (b + 1)], A)) rfl ?_
      refine rw_gf (v := .int (Int32.ofNat m)) h rfl rfl rfl rfl (hth) rfl ?_
      refine wp_st 1 (f' := (107, [some (.ref (b)), some (.int (w)), some (.int (z2)), some (.int (Int32.ofNat (8 * k))), some (.int (Int32.ofNat (sb_by w (8 * k))))], [.int (Int32.ofNat (sb_by w (8 * k))), .int (Int32.ofNat m), .ref (b + 1)], A)) rfl ?_
      refine rw_as (j := 2) (n := m) (v := .int (Int32.ofNat (sb_by w (8 * k)))) h rfl rfl rfl (Or.inl ⟨rfl, rfl, rfl⟩) (show _ < 120 from by omega) rfl rfl (fun A2 h3 f4 => ?_)
      have f5 := (sb_fr.refl A b (b + 38)).trans f4
      refine wp_st 2 (f' := (110, [some (.ref (b)), some (.int (w)), some (.int (z2)), some (.int (Int32.ofNat (8 * k))), some (.int (Int32.ofNat (sb_by w (8 * k))))], [.ref (b), .ref (b)], A2)) rfl ?_
      refine rw_gf (v := .int (Int32.ofNat m)) h3 rfl rfl rfl rfl (hth) rfl ?_
      refine wp_st 2 (f' := (115, [some (.ref (b)), some (.int (w)), some (.int (z2)), some (.int (Int32.ofNat (8 * k))), some (.int (Int32.ofNat (sb_by w (8 * k))))], [.int ((Int32.ofNat m) + (Int32.ofNat 1)), .ref (b)], A2)) rfl ?_
      rw [i32_add (m) (1)]
      refine rw_pf (v := .int (Int32.ofNat (m + 1))) h3 rfl rfl rfl rfl rfl rfl (fun A6 h7 f8 => ?_)
      have f9 := f5.trans f8
      refine wp_st 2 (f' := (79, [some (.ref (b)), some (.int (w)), some (.int (z2)), some (.int ((Int32.ofNat (8 * k)) + (-8))), some (.int (Int32.ofNat (sb_by w (8 * k))))], [], A6)) rfl ?_
      rw [show Int32.ofNat (8 * k) + (-8) = sb_sh k from rfl]
      obtain ⟨z, z1, z3, z4, z5⟩ := ih (m + 1) (some (.int (Int32.ofNat (sb_by w (8 * k))))) _ _ (by omega) (rf_u_eq ..) (by have := hbl h1; omega) h7
      rw [sb_bl_s h1]
      exact ⟨z, z1, z3, z4, f9.trans z5⟩
theorem rn_type {d b n : Nat} {w : Int32} {s : rf_S} {A : am_H} (hn : n ≤ 120) (hth : s 3 0 = .int (Int32.ofNat n)) (h : rf A b s) : rf_go d 118 [.ref b, .int w] A b (some (.int (sb_i (cl_ty n w)))) (bif cl_ty n w then rf_ty (rf_u s 0 0 (.int (Int32.ofNat 0))) n (sb_bl w 4) else rf_u s 0 0 (.int (Int32.ofNat 0))) := by
  refine rf_of ?_
  refine wp_st 2 (f' := (2, [some (.ref (b)), some (.int (w)), none, none, none], [.int (Int32.ofNat 0), .ref (b)], A)) rfl ?_
  refine rw_pf (v := .int (Int32.ofNat 0)) h rfl rfl rfl rfl rfl rfl (fun A1 h2 f3 => ?_)
  have f4 := (sb_fr.refl A b (b + 38)).trans f3
  refine wp_st 4 (f' := (10, [some (.ref (b)), some (.int (w)), some (.int (Int32.ofNat 0)), some (.int (Int32.ofNat 24)), none], [], A1)) rfl ?_
  refine rn_ty1 (b := b) 4 0 _ (by omega) (by omega) (fun hal b9 => ?_) (fun hal => ?_)
  · skip
    have hln := sb_bl_len w 4
    refine wp_st 1 (f' := (64, [some (.ref (b)), some (.int (w)), some (.int (Int32.ofNat (0 + (sb_bl w 4).length))), some (.int (sb_sh 0)), b9], [.ref (b)], A1)) rfl ?_
    refine rw_gf (v := .int (Int32.ofNat n)) h2 rfl rfl rfl rfl (hth) rfl ?_
    refine wp_st 2 (f' := (69, [some (.ref (b)), some (.int (w)), some (.int (Int32.ofNat (0 + (sb_bl w 4).length))), some (.int (sb_sh 0)), b9], [.int ((Int32.ofNat n) + (Int32.ofNat (0 + (sb_bl w 4).length)))], A1)) rfl ?_
    rw [i32_add (n) (0 + (sb_bl w 4).length)]
    refine wp_st 1 (f' := (71, [some (.ref (b)), some (.int (w)), some (.int (Int32.ofNat (0 + (sb_bl w 4).length))), some (.int (sb_sh 0)), b9], [.int (Int32.ofNat 120), .int (Int32.ofNat (n + (0 + (sb_bl w 4).length)))], A1)) rfl ?_
    refine wp_if rfl rfl rfl (fun (h5 : (Int32.ofNat (n + (0 + (sb_bl w 4).length))) ≤ (Int32.ofNat 120)) => ?_) (fun (h5 : ¬ ((Int32.ofNat (n + (0 + (sb_bl w 4).length))) ≤ (Int32.ofNat 120))) => ?_)
    · skip
      rw [i32_le (by omega) (by omega)] at h5
      refine wp_st 2 (f' := (79, [some (.ref (b)), some (.int (w)), some (.int (Int32.ofNat (0 + (sb_bl w 4).length))), some (.int (Int32.ofNat 24)), b9], [], A1)) rfl ?_
      have hty : cl_ty n w = true := by unfold cl_ty; rw [if_pos hal, if_pos (by omega)]
      rw [hty]
      obtain ⟨z, z1, z3, z4, z5⟩ := rn_ty2 (d := d) (w := w) (z2 := Int32.ofNat (0 + (sb_bl w 4).length)) 4 n b9 (rf_u s 0 0 (.int (Int32.ofNat 0))) _ (by omega) hth (by omega) h2
      exact ⟨z, z1, z3, z4, f4.trans z5⟩
    · skip
      rw [i32_le (by omega) (by omega)] at h5
      refine wp_st 1 (f' := (75, [some (.ref (b)), some (.int (w)), some (.int (Int32.ofNat (0 + (sb_bl w 4).length))), some (.int (sb_sh 0)), b9], [.int (Int32.ofNat 0)], A1)) rfl ?_
      refine wp_rt rfl rfl rfl ?_
      have hty : cl_ty n w = false := by unfold cl_ty; rw [if_pos hal, if_neg (by omega)]
      rw [hty]
      exact ⟨rfl, h2, f4⟩
  · skip
    have hty : cl_ty n w = false := by unfold cl_ty; rw [hal]; rfl
    rw [hty]
    exact ⟨rfl, h2, f4⟩
theorem rn_ctg0 {d b : Nat} {o : Bool} {y : Int64} {c : Int32} {s : rf_S} {A : am_H} (hd : 1 ≤ d) (hg : sb_isn y c = false) (h : rf A b s) : rf_go d 156 [.ref b, .int (sb_i o), .long y, .int c] A b (some (.int (Int32.ofNat 0))) (rf_u s 0 0 (.int (Int32.ofNat 1))) := by
  refine rf_of ?_
  refine wp_st 3 (f' := (4, [some (.ref (b)), some (.int (sb_i o)), some (.long (y)), none, some (.int (c))], [.int (c), .long (y), .ref (b)], A)) rfl ?_
  refine wp_cs (n := 0) (A' := A) (v := some (.int (sb_i (sb_isn y c)))) rfl rfl rfl (by omega) (rn_isn) rfl ?_
  show am_wp d 156 (7, [some (.ref (b)), some (.int (sb_i o)), some (.long (y)), none, some (.int (c))], [.int (sb_i (sb_isn y c)), .ref (b)], A) _
  refine wp_izT rfl rfl (show sb_i (sb_isn y c) = 0 from by rw [hg]; decide) ?_
  refine wp_st 1 (f' := (15, [some (.ref (b)), some (.int (sb_i o)), some (.long (y)), none, some (.int (c))], [.int (Int32.ofNat 1), .ref (b)], A)) rfl ?_
  refine rw_pf (v := .int (Int32.ofNat 1)) h rfl rfl rfl rfl rfl rfl (fun A1 h2 f3 => ?_)
  have f4 := (sb_fr.refl A b (b + 38)).trans f3
  refine wp_st 1 (f' := (19, [some (.ref (b)), some (.int (sb_i o)), some (.long (y)), none, some (.int (c))], [.ref (b)], A1)) rfl ?_
  refine rw_gf (v := .int (Int32.ofNat 1)) h2 rfl rfl rfl rfl (rfl) rfl ?_
  refine wp_izF rfl rfl (show ¬ ((Int32.ofNat 1) ≤ (Int32.ofNat 0)) from by decide) ?_
  refine wp_st 2 (f' := (45, [some (.ref (b)), some (.int (sb_i o)), some (.long (y)), none, some (.int (c))], [.int (Int32.ofNat 0)], A1)) rfl ?_
  refine wp_rt rfl rfl rfl ?_
  exact ⟨rfl, h2, f4⟩
theorem rn_ctg1 {d b : Nat} {o : Bool} {y : Int64} {c v : Int32} {s : rf_S} {A : am_H} (hd : 1 ≤ d) (hg : sb_isn y c = true) (hcat : ∀ B, rf B b (rf_u s 0 0 (.int (Int32.ofNat 0))) → am_go (d - 1) 158 [.ref b, .int (Int32.ofNat (if o = true then 1 else 0)), .long y, .int c] B (.inl (some (.int v)), B)) (h : rf A b s) : rf_go d 156 [.ref b, .int (sb_i o), .long y, .int c] A b (some (.int v)) (rf_u s 0 0 (.int (Int32.ofNat 0))) := by
  refine rf_of ?_
  refine wp_st 3 (f' := (4, [some (.ref (b)), some (.int (sb_i o)), some (.long (y)), none, some (.int (c))], [.int (c), .long (y), .ref (b)], A)) rfl ?_
  refine wp_cs (n := 0) (A' := A) (v := some (.int (sb_i (sb_isn y c)))) rfl rfl rfl (by omega) (rn_isn) rfl ?_
  show am_wp d 156 (7, [some (.ref (b)), some (.int (sb_i o)), some (.long (y)), none, some (.int (c))], [.int (sb_i (sb_isn y c)), .ref (b)], A) _
  refine wp_izF rfl rfl (show ¬ (sb_i (sb_isn y c) = 0) from by rw [hg]; decide) ?_
  refine wp_st 2 (f' := (15, [some (.ref (b)), some (.int (sb_i o)), some (.long (y)), none, some (.int (c))], [.int (Int32.ofNat 0), .ref (b)], A)) rfl ?_
  refine rw_pf (v := .int (Int32.ofNat 0)) h rfl rfl rfl rfl rfl rfl (fun A1 h2 f3 => ?_)
  have f4 := (sb_fr.refl A b (b + 38)).trans f3
  refine wp_st 1 (f' := (19, [some (.ref (b)), some (.int (sb_i o)), some (.long (y)), none, some (.int (c))], [.ref (b)], A1)) rfl ?_
  refine rw_gf (v := .int (Int32.ofNat 0)) h2 rfl rfl rfl rfl (rfl) rfl ?_
  refine wp_izT rfl rfl (show (Int32.ofNat 0) ≤ (Int32.ofNat 0) from by decide) ?_
  refine wp_st 2 (f' := (31, [some (.ref (b)), some (.int (sb_i o)), some (.long (y)), none, some (.int (c))], [.int (sb_i o), .ref (b)], A1)) rfl ?_
  by_cases b5 : o = true
  · skip
    refine wp_izF rfl rfl (show ¬ (sb_i o = 0) from by rw [b5]; decide) ?_
    refine wp_st 4 (f' := (42, [some (.ref (b)), some (.int (sb_i o)), some (.long (y)), none, some (.int (c))], [.int (c), .long (y), .int (Int32.ofNat 1), .ref (b)], A1)) rfl ?_
    refine wp_cv (A' := A1) (v := some (.int (v))) rfl rfl rfl rfl rfl (show _ from h2.1) (by omega) ((by have e := hcat _ h2; rw [if_pos b5] at e; exact e)) rfl ?_
    show am_wp d 156 (45, [some (.ref (b)), some (.int (sb_i o)), some (.long (y)), none, some (.int (c))], [.int (v)], A1) _
    refine wp_rt rfl rfl rfl ?_
    exact ⟨rfl, h2, f4⟩
  · skip
    have b5f : o = false := by simpa using b5
    refine wp_izT rfl rfl (show sb_i o = 0 from by rw [b5f]; decide) ?_
    refine wp_st 3 (f' := (42, [some (.ref (b)), some (.int (sb_i o)), some (.long (y)), none, some (.int (c))], [.int (c), .long (y), .int (Int32.ofNat 0), .ref (b)], A1)) rfl ?_
    refine wp_cv (A' := A1) (v := some (.int (v))) rfl rfl rfl rfl rfl (show _ from h2.1) (by omega) ((by have e := hcat _ h2; rw [if_neg b5] at e; exact e)) rfl ?_
    show am_wp d 156 (45, [some (.ref (b)), some (.int (sb_i o)), some (.long (y)), none, some (.int (c))], [.int (v)], A1) _
    refine wp_rt rfl rfl rfl ?_
    exact ⟨rfl, h2, f4⟩
