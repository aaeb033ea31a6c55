/-! The reference: what compile leaves. -/
def rm_kz (t j i : Nat) : Prop := ((j = 4 ∨ j = 5) ∧ i = t) ∨ (6 ≤ j ∧ j ≤ 8 ∧ 128 * t ≤ i ∧ i < 128 * t + 128) ∨ (9 ≤ j ∧ j ≤ 16 ∧ 64 * t ≤ i ∧ i < 64 * t + 64)
def rm_Y (s v : rf_S) : Prop := ∀ j i, j ≠ 0 → j ≠ 1 → j ≠ 27 → ¬ rm_sc j i → v j i = s j i
def rm_Z (t : Nat) (s v : rf_S) : Prop := ∀ j i, j ≠ 0 → j ≠ 1 → j ≠ 27 → ¬ rm_sc j i → ¬ rm_kz t j i → v j i = s j i
def rc_V (A : am_H) (b : Nat) (s : rf_S) (t : Nat) (x : rd_R) (q : am_O × am_H) : Prop := match x with
  | .ok y => q.1 = .inl none ∧ ∃ v p w r g, rf q.2 b (rf_c v p w r g) ∧ v 0 0 = .int (Int32.ofNat 0) ∧ v 1 0 = .int (-1) ∧ v 4 t = .int (sb_i true) ∧ rm_K v y.2 (128 * t) (64 * t) t ∧ rm_Z t s v ∧ sb_fr A q.2 b (b + 38)
  | .error e => q.1 = .inl none ∧ ∃ v p w r g, rf q.2 b (rf_c v p w r g) ∧ v 0 0 = .int (Int32.ofNat 1) ∧ v 1 0 = .int (Int32.ofNat e) ∧ rm_Y s v ∧ sb_fr A q.2 b (b + 38)
theorem rm_X.tx2 {s u : rf_S} {cs : List Nat} {n : Nat} (h : ∀ j i, j ≠ 0 → j ≠ 1 → j ≠ 27 → u j i = s j i) (hx : rf_tx s cs n) : rf_tx u cs n := ⟨(h 3 0 (by omega) (by omega) (by omega)).trans hx.1, fun i hi => (h 2 i (by omega) (by omega) (by omega)).trans (hx.2.1 i hi), hx.2.2⟩
theorem rm_K.at1 {s : rf_S} {M : mg} {p a h : Nat} {v : Value} (k : rm_K s M p a h) : rm_K (rf_u s 1 0 v) M p a h := k.fr (rf_u_ne (Or.inl (by omega))) (fun j i _ _ _ _ => rf_u_ne (Or.inl (by omega))) (fun j i _ _ _ _ => rf_u_ne (Or.inl (by omega)))
theorem rq_keept {d b t p g : Nat} {w : Int32} {r : Int64} {M : mg} {s : rf_S} {A : am_H} (hd : 1 ≤ d) (ht : t ≤ 1) (hK : rm_K s M 256 128 2) (h19 : s 19 0 = .int (Int32.ofNat (mg_P M))) (h20 : s 20 0 = .int (Int32.ofNat (mg_ct (mg_k M) (mg_P M)))) (h21 : s 21 0 = .int (Int32.ofNat (mg_B M))) (h : rf A b (rf_c s p w r g)) : rf_go d 146 [.ref b, .int (Int32.ofNat t)] A b none (rf_c (rm_kept s M t) p w r g) := by
  obtain ⟨v1, v2, v3, v4⟩ := hK.vals
  obtain ⟨E, dp, k1, k2, k3, k4⟩ := hK
  exact rq_keepm hd ht v1 h21 (by omega) v2 h20 (by omega) v3 h19 (by omega) v4 h
theorem rc_V_ok {A B : am_H} {b a p g t : Nat} {s u1 u : rf_S} {r : Int64} {w : Int32} {M : mg} (ht : t ≤ 1) (h1 : rf B b (rf_c (rm_kept (rf_u u 1 0 (.int (-1))) M t) p w r g)) (h0 : u1 0 0 = .int (Int32.ofNat 0)) (hK : rm_K u M 256 128 2) (hX : rm_X u1 u) (hs : ∀ j i, j ≠ 0 → j ≠ 1 → j ≠ 27 → u1 j i = s j i) (h4 : sb_fr A B b (b + 38)) : rc_V A b s t (.ok (a, M)) (.inl none, B) := by
  have hK' := hK.at1 (v := .int (-1))
  have hP : mg_P M ≤ 128 ∧ mg_B M ≤ 64 ∧ mg_ct (mg_k M) (mg_P M) ≤ 64 := by
    obtain ⟨E, dp, k1, k2, k3, k4⟩ := hK
    omega
  refine ⟨rfl, _, p, w, r, g, h1, ?_, ?_, rm_kept_4, hK'.kept ht, fun j i q0 q1 q2 q3 q4 => ?_, h4⟩
  · rw [rm_kept_ne hP.1 hP.2.1 hP.2.2 (by omega) (by omega) (by omega), rf_u_ne (Or.inl (by omega)), hX _ _ (by unfold rm_sc; omega)]
    exact h0
  · rw [rm_kept_ne hP.1 hP.2.1 hP.2.2 (by omega) (by omega) (by omega), rf_u_eq]
  · unfold rm_kz at q4
    rw [rm_kept_ne hP.1 hP.2.1 hP.2.2 (by omega) (by omega) (by omega), rf_u_ne (Or.inl (by omega)), hX _ _ q3]
    exact hs j i q0 q1 q2
theorem rc_V_er {A B : am_H} {b e p g t : Nat} {s u1 u : rf_S} {r : Int64} {w : Int32} (h1 : rf B b (rf_c (rf_u (rf_u u 1 0 (.int (Int32.ofNat e))) 0 0 (.int (Int32.ofNat 1))) p w r g)) (hX : rm_X u1 u) (hs : ∀ j i, j ≠ 0 → j ≠ 1 → j ≠ 27 → u1 j i = s j i) (h4 : sb_fr A B b (b + 38)) : rc_V A b s t (.error e) (.inl none, B) := by
  refine ⟨rfl, _, p, w, r, g, h1, rf_u_eq .., ?_, fun j i q0 q1 q2 q3 => ?_, h4⟩
  · rw [rf_u_ne (Or.inl (by omega)), rf_u_eq]
  · rw [rf_u_ne (Or.inl q0), rf_u_ne (Or.inl q1), hX _ _ q3]
    exact hs j i q0 q1 q2
