/-! The reference's format. -/
def rf_FQ (A : am_H) (s : rf_S) (b : Nat) (x : wr_R) (q : am_O × am_H) : Prop := match x with
  | .ok w => q.1 = .inl (some (.int (Int32.ofNat w.length))) ∧ ∃ u, rf q.2 b u ∧ u 0 0 = .int (Int32.ofNat 0) ∧ u 50 0 = .int (Int32.ofNat w.length) ∧ (∀ i, i < w.length → u 49 i = .int (Int32.ofNat (w.getD i 0))) ∧ w.length ≤ 160 ∧ (∀ j, ¬ fx_j j → j ≠ 49 → j ≠ 50 → u j = s j) ∧ sb_fr A q.2 b (b + 38)
  | .error c => q.1 = .inl (some (.int (Int32.ofNat 0))) ∧ ∃ u, rf q.2 b u ∧ u 0 0 = .int (Int32.ofNat (c + 1)) ∧ (1 ≤ c ∧ c ≤ 3) ∧ (∀ j, ¬ fx_j j → u j = s j) ∧ sb_fr A q.2 b (b + 38)
theorem fl_K.refl (s : rf_S) : fl_K s s := fun _ _ => rfl
theorem fl_cp_at {s : rf_S} {w : List Nat} {k i : Nat} (h : i < k) : fl_cp s w k 49 i = .int (Int32.ofNat (w.getD i 0)) := by
  have e := rk_eq (s := s) (P := fun j => decide (j = 49)) (V := fun _ i => .int (Int32.ofNat (w.getD i 0))) (a := 0) (k := k) (j := 49) (i := i) rfl h
  rw [Nat.zero_add] at e
  exact e
theorem fl_cp_ne {s : rf_S} {w : List Nat} {k j : Nat} (h : j ≠ 49) : fl_cp s w k j = s j := by
  funext i
  exact rk_nP (decide_eq_false h)
theorem rq_fmt {d b t : Nat} {len : Bool} {M : mg} {vf : wr_v} {S0 S1 : rg} {nv : Nat} {nf cf : Nat → Int32} {bf : Nat → Bool} {lf : Nat → Int64} {s : rf_S} {A : am_H} (hd : 8 ≤ d) (ht : t ≤ 1) (h4 : s 4 t = .int (Int32.ofNat 1)) (hK : rm_K s M (128 * t) (64 * t) t) (ho : ∀ i, i < mg_P M → mg_o M i < 100) (hvs : rf_vs s nv nf bf lf cf) (hrv : rv_R vf nv nf bf lf cf) (hrs : rs_K s S0 0 ∧ rs_K s S1 1) (hB0 : rs_B S0) (hB1 : rs_B S1) (hM : ro_M M) (h : rf A b s) : am_wp d 167 (0, am_ent 167 [.ref b, .int (Int32.ofNat t), .int (sb_i len)], [], A) (rf_FQ A s b (wr_msg M vf S0 S1 len 3 true 0 (mg_P M) 0 0 [])) := by
  obtain ⟨E, dp, k1, k2, k3, k4, k5, k6, k7⟩ := hK
  have hC : fx_C s M t E dp vf S0 S1 nv nf bf lf cf := ⟨⟨ht, k1, k2, k3⟩, k4, ho, k5, hvs, hrv, hrs, hB0, hB1⟩
  rw [rm_e_i] at k6
  refine fl_beg ht h4 k6 h (fun B hB fB => ?_)
  have hif : (if mg_P M = 0 then none else some 0) = (if 0 < mg_P M then some 0 else none : Option Nat) := by
    by_cases q : mg_P M = 0
    · rw [if_pos q, if_neg (by omega)]
    · rw [if_neg q, if_pos (by omega)]
  have hK0 : fl_K s (rf_u (rf_u (rf_u (rf_u s 0 0 (.int (Int32.ofNat 0))) 48 0 (.int (Int32.ofNat 0))) 22 0 (.int (Int32.ofNat 0))) 51 0 (.int (rm_i (128 * t) (if mg_P M = 0 then none else some 0)))) := ((((fl_K.refl s).u (by unfold fx_j; omega)).u (by unfold fx_j; omega)).u (by unfold fx_j; omega)).u (by unfold fx_j; omega)
  refine fl_top (A0 := A) (s0 := s) (inner := some (wr_msg M vf S0 S1 len 2 false)) hd hC hM rfl 120 0 [] B _ _ _ _ (by omega) k7 hM.1 ⟨hB, ⟨rfl, Nat.zero_le _, fun i hi => absurd hi (Nat.not_lt_zero _), rfl⟩, rfl, ?_, hK0, fB⟩ (fun A' u' w' o3 mk v' a1 a2 => ?_) (fun A' u' c a1 a2 a3 a4 a5 a6 => ?_)
  · rw [rf_u_eq, ← hif, rm_e_i]
  · obtain ⟨b1, b2, b3, b4, b5, b6⟩ := a2
    have hr : wr_msg M vf S0 S1 len 3 true 0 (mg_P M) 0 0 [] = .ok w' := a1
    rw [hr]
    refine fl_end b2 b3 b4 b1 (fun C hC' fC => ⟨rfl, _, hC', ?_, ?_, fun i hi => fl_cp_at hi, b2.2.1, fun j hj h49 h50 => ?_, b6.trans fC⟩)
    · rw [fl_cp_ne (by decide), rf_u_ne (Or.inl (by decide)), rf_u_ne (Or.inl (by decide))]
      exact b2.2.2.2
    · rw [fl_cp_ne (by decide), rf_u_eq]
    · rw [fl_cp_ne h49, ← b5 j hj]
      funext i
      unfold fx_j at hj
      rw [rf_u_ne (Or.inl h50), rf_u_ne (Or.inl (by omega))]
  · have hr : wr_msg M vf S0 S1 len 3 true 0 (mg_P M) 0 0 [] = .error c := a1
    rw [hr]
    exact ⟨rfl, u', a3, a4, a2, a5, a6⟩
