/-! The reference: arguments. -/
/-- from behind the { on -/
def rd_ab (cs : List Nat) (n L a : Nat) (M : mg) : Except Nat ((Nat × mg) ⊕ (Nat × mg)) :=
  match rd_name cs n (rd_sk cs n a) with
  | .error e => .error e
  | .ok (a2, x) =>
    if sb_lk cs n (rd_sk cs n a2) = 125 then .ok (.inl (rd_sk cs n a2 + 1, mg_add M 2 x))
    else if sb_lk cs n (rd_sk cs n a2) = 44 then rd_tb cs n L x (rd_sk cs n (rd_sk cs n a2 + 1)) M
    else .error (rd_sk cs n a2)
theorem rm_I.adda {s s1 t1 : rf_S} {M : mg} {L : Nat} {E dp ob : Nat → Nat} {lp : Nat → Option Nat} {k X N : Nat} {x : Int32} (h : rm_I s M L E dp lp ob false) (hr : rm_rd M L lp) (hP : mg_P M < 120) (hk2 : 2 ≤ k) (hk8 : k ≤ 8) (hs1 : ∀ j i, ¬ (j = 20 ∧ i = 0) → ¬ (9 ≤ j ∧ j ≤ 12 ∧ i = 128 + mg_ct (mg_k M) (mg_P M)) → s1 j i = s j i) (h20 : s1 20 0 = .int (Int32.ofNat (mg_ct (mg_k M) (mg_P M) + 1))) (h9 : s1 9 (128 + mg_ct (mg_k M) (mg_P M)) = .int (Int32.ofNat N)) (h11 : s1 11 (128 + mg_ct (mg_k M) (mg_P M)) = .int (Int32.ofNat 0)) (h12 : s1 12 (128 + mg_ct (mg_k M) (mg_P M)) = .int (-1)) (ha : rm_ad s1 t1 (mg_P M) L (lp L) (ob L) (Int32.ofNat 2) (Int32.ofNat (128 + mg_ct (mg_k M) (mg_P M)))) (hw : rm_w 4 X N) (hx : x = Int32.ofNat X) : rm_I (rf_u t1 10 (128 + mg_ct (mg_k M) (mg_P M)) (.int (rf_so k))) (mg_add M k x) L (up_ E (mg_P M) (1000 + L)) (up_ dp (mg_P M) L) (up_ lp L (some (mg_P M))) ob (decide (6 ≤ k)) ∧ rm_rd (mg_add M k x) L (up_ lp L (some (mg_P M))) := by
  obtain ⟨a1, a2, a3, a4, a5, a6, a7⟩ := ha
  have hct : mg_ct (up_ (mg_k M) (mg_P M) k) (mg_P M) = mg_ct (mg_k M) (mg_P M) := mg_ct_up (Nat.le_refl _)
  have hn : ∀ j i, j ≠ 8 → j ≠ 5 → j ≠ 15 → ¬ rm_hk (lp L) L (ob L) j i := fun j i q1 q2 q3 q => by
    unfold rm_hk at q
    split at q <;> omega
  have hu : ∀ j i, j ≠ 10 → rf_u t1 10 (128 + mg_ct (mg_k M) (mg_P M)) (.int (rf_so k)) j i = t1 j i := fun j i q => rf_u_ne (Or.inl q)
  refine h.add hr hP hk8 ((hu _ _ (by omega)).trans a1) ((hu _ _ (by omega)).trans a4) ((hu _ _ (by omega)).trans a5) (fun j i q => ?_) ?_ ?_ ?_ (fun j i q1 q2 q3 q4 q5 => ?_)
  · rw [hu j i (by unfold rm_hk at q; split at q <;> omega)]
    exact a6 j i q
  · rw [hu _ _ (by omega), a7 20 0 (by omega) (by omega) (by omega) (hn _ _ (by omega) (by omega) (by omega)), mg_ct, hct, up_eq, if_pos hk2]
    exact h20
  · intro q
    have e : mg_k (mg_add M k x) (mg_P M) = k := up_eq ..
    rw [e] at q
    omega
  · intro _
    have e : mg_k (mg_add M k x) (mg_P M) = k := up_eq ..
    have e2 : mg_c (mg_add M k x) (mg_P M) = x := up_eq ..
    have e3 : mg_o (mg_add M k x) (mg_P M) = 0 := up_eq ..
    have e4 : mg_ct (mg_k (mg_add M k x)) (mg_P M) = mg_ct (mg_k M) (mg_P M) := hct
    have e5 : mg_bo (mg_w M) (mg_P M) (mg_B M) 0 = none := mg_bo_none (fun c _ hc => by have := (h.bt c (by omega)).2.1; omega)
    rw [e, e2, e3, e4, hu 6 _ (by omega), hu 7 _ (by omega), hu 9 _ (by omega), hu 11 _ (by omega), hu 12 _ (by omega), rf_u_eq, show mg_w (mg_add M k x) = mg_w M from rfl, show mg_B (mg_add M k x) = mg_B M from rfl, e5, a7 9 _ (by omega) (by omega) (by omega) (hn _ _ (by omega) (by omega) (by omega)), a7 11 _ (by omega) (by omega) (by omega) (hn _ _ (by omega) (by omega) (by omega)), a7 12 _ (by omega) (by omega) (by omega) (hn _ _ (by omega) (by omega) (by omega))]
    exact ⟨a2, a3, ⟨X, N, hw, hx, h9⟩, rfl, h11, h12⟩
  · rw [rf_u_ne (by omega), a7 j i (by omega) q2 q4 q5, hs1 j i (by omega) q3]
