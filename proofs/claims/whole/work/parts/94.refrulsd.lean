/-! The reference's rules: how it ends. -/
def rs_Z (t : Nat) (s v : rf_S) : Prop := ∀ j i, j ≠ 0 → j ≠ 1 → ¬ rs_su j i → ¬ rs_kp t j i → v j i = s j i
def rs_ZE (s v : rf_S) : Prop := ∀ j i, j ≠ 0 → j ≠ 1 → ¬ rs_su j i → v j i = s j i
def rq_V (A : am_H) (b : Nat) (s : rf_S) (t : Nat) (x : ru_R) (q : am_O × am_H) : Prop := match x with
  | .ok y => q.1 = .inl none ∧ ∃ v p w r g, rf q.2 b (rf_c v p w r g) ∧ v 0 0 = .int (Int32.ofNat 0) ∧ v 1 0 = .int (-1) ∧ rs_K v y.2 t ∧ rg_rd y.2 ∧ rs_Z t s v ∧ sb_fr A q.2 b (b + 38)
  | .error e => q.1 = .inl none ∧ ∃ v p w r g, rf q.2 b (rf_c v p w r g) ∧ v 0 0 = .int (Int32.ofNat 1) ∧ v 1 0 = .int (Int32.ofNat e) ∧ rs_ZE s v ∧ sb_fr A q.2 b (b + 38)
theorem rq_V_ok {A B : am_H} {b a p g t : Nat} {s u : rf_S} {r : Int64} {w : Int32} {S : rg} (h1 : rf B b (rf_c (rk_all (rf_u u 1 0 (.int (-1))) S t) p w r g)) (hR : rg_R S ≤ 48) (hG : rg_G S ≤ 64) (h0 : u 0 0 = .int (Int32.ofNat 0)) (h2 : rs_S u S) (h3 : rs_Y s u) (h4 : sb_fr A B b (b + 38)) : rq_V A b s t (.ok (a, S)) (.inl none, B) := by
  refine ⟨rfl, _, p, w, r, g, h1, ?_, ?_, rk_all_K, h2.2.2.2.2, fun j i q1 q2 q3 q4 => ?_, h4⟩
  · rw [rk_all_ne hR hG (by unfold rs_kp; omega), rf_u_ne (Or.inl (by omega))]; exact h0
  · rw [rk_all_ne hR hG (by unfold rs_kp; omega), rf_u_eq]
  · rw [rk_all_ne hR hG q4, rf_u_ne (Or.inl q2)]; exact h3 j i q3
theorem rq_V_er {A B : am_H} {b e p g t : Nat} {s u : rf_S} {r : Int64} {w : Int32} (h1 : rf B b (rf_c (rf_u (rf_u u 1 0 (.int (Int32.ofNat e))) 0 0 (.int (Int32.ofNat 1))) p w r g)) (h3 : rs_Y s u) (h4 : sb_fr A B b (b + 38)) : rq_V A b s t (.error e) (.inl none, B) := by
  refine ⟨rfl, _, p, w, r, g, h1, rf_u_eq .., ?_, fun j i q1 q2 q3 => ?_, h4⟩
  · rw [rf_u_ne (Or.inl (by omega)), rf_u_eq]
  · rw [rf_u_ne (Or.inl q1), rf_u_ne (Or.inl q2)]; exact h3 j i q3
theorem rs_S.at1 {s : rf_S} {S : rg} {v : Value} (h : rs_S s S) : rs_S (rf_u s 1 0 v) S := by
  have hk : ∀ j i, j ≠ 1 → rf_u s 1 0 v j i = s j i := fun j i q => rf_u_ne (Or.inl q)
  obtain ⟨a1, a2, ⟨a3, a4⟩, a5, a6⟩ := h
  refine ⟨by rw [hk _ _ (by omega)]; exact a1, by rw [hk _ _ (by omega)]; exact a2, ⟨fun i hi => ?_, fun i hi => ?_⟩, fun c' hc' => ?_, a6⟩
  · rw [hk _ _ (by omega), hk _ _ (by omega), hk _ _ (by omega), hk _ _ (by omega), hk _ _ (by omega), hk _ _ (by omega)]; exact a3 i hi
  · rw [hk _ _ (by omega), hk _ _ (by omega)]; exact a4 i hi
  · rw [hk _ _ (by omega), hk _ _ (by omega)]; exact a5 c' hc'
theorem rq_V.tr {A B : am_H} {b t : Nat} {s u : rf_S} {X : ru_R} {q : am_O × am_H} (h1 : rs_ZE s u) (h2 : sb_fr A B b (b + 38)) (h : rq_V B b u t X q) : rq_V A b s t X q := by
  cases X with
  | ok y =>
    obtain ⟨a, v, p, w, r, g, b1, b2, b3, b4, b5, b6, b7⟩ := h
    exact ⟨a, v, p, w, r, g, b1, b2, b3, b4, b5, fun j i q1 q2 q3 q4 => (b6 j i q1 q2 q3 q4).trans (h1 j i q1 q2 q3), h2.trans b7⟩
  | error e =>
    obtain ⟨a, v, p, w, r, g, b1, b2, b3, b6, b7⟩ := h
    exact ⟨a, v, p, w, r, g, b1, b2, b3, fun j i q1 q2 q3 => (b6 j i q1 q2 q3).trans (h1 j i q1 q2 q3), h2.trans b7⟩
theorem rs_Y.E {s u : rf_S} (h : rs_Y s u) : rs_ZE s u := fun j i _ _ q => h j i q
theorem rs_Y.Z {t : Nat} {s u : rf_S} (h : rs_Y s u) : rs_Z t s u := fun j i _ _ q _ => h j i q
/-- the start: no relation, no range, no rule -/
theorem rs_S_0 {s : rf_S} {S : rg} (h40 : s 40 0 = .int (Int32.ofNat 0)) (h41 : s 41 0 = .int (Int32.ofNat 0)) (h31 : ∀ c, c < 5 → s 31 (16 + c) = .int (Int32.ofNat 0)) : rs_S s (rg_clr S) := by
  refine ⟨h40, h41, ⟨fun i hi => ?_, fun i hi => ?_⟩, fun c hc => ⟨fun e => ?_, fun _ => h31 c hc⟩, ⟨fun i hi => ?_, fun hi => ?_, fun c _ => Nat.le_refl 0⟩⟩
  · exact absurd hi (Nat.not_lt_zero _)
  · exact absurd hi (Nat.not_lt_zero _)
  · exact absurd e (by unfold rg_hr; rw [if_neg (show ¬ rg_f (rg_clr S) c < rg_e (rg_clr S) c from Nat.lt_irrefl 0)]; exact Bool.noConfusion)
  · exact absurd hi (Nat.not_lt_zero _)
  · exact absurd hi (Nat.not_lt_zero _)
