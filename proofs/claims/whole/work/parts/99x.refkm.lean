/-! A message as the reference keeps it. -/
def rm_K1 (s : rf_S) (M : mg) (p a : Nat) (E dp : Nat → Nat) (i : Nat) : Prop := rm_pc s M p i ∧ rm_pa s M p a i ∧ mg_k M i ≤ 8 ∧ dp i ≤ 3 ∧ (6 ≤ mg_k M i → mg_bw M i sb_OTH (mg_B M) 0 ≠ none) ∧ E i ≤ mg_P M ∧ s 8 (p + i) = rm_e p (if mg_x M i < E i then some (mg_x M i) else none) ∧ (mg_x M i < E i → i < mg_x M i ∧ E (mg_x M i) = E i ∧ dp (mg_x M i) = dp i)
def rm_K2 (s : rf_S) (M : mg) (p a : Nat) (E dp : Nat → Nat) (b : Nat) : Prop := rm_b s M a b ∧ mg_w M b < mg_P M ∧ 6 ≤ mg_k M (mg_w M b) ∧ dp (mg_w M b) < 3 ∧ mg_a M b ≤ mg_e M b ∧ mg_e M b ≤ mg_P M ∧ s 15 (a + b) = rm_e p (if mg_a M b < mg_e M b then some (mg_a M b) else none) ∧ (mg_a M b < mg_e M b → E (mg_a M b) = mg_e M b ∧ dp (mg_a M b) = dp (mg_w M b) + 1)
/-- parts from p on, arguments and branches from a on, the first part at head[h] -/
def rm_K (s : rf_S) (M : mg) (p a h : Nat) : Prop := ∃ E dp : Nat → Nat, mg_P M ≤ 120 ∧ mg_B M ≤ 40 ∧ mg_ct (mg_k M) (mg_P M) ≤ 40 ∧ (∀ i, i < mg_P M → rm_K1 s M p a E dp i) ∧ (∀ b, b < mg_B M → rm_K2 s M p a E dp b) ∧ s 5 h = rm_e p (if mg_P M = 0 then none else some 0) ∧ (0 < mg_P M → E 0 = mg_P M ∧ dp 0 = 0)
def rm_E (M : mg) (E : Nat → Nat) (i : Nat) : Nat := if 1000 ≤ E i then mg_P M else E i
theorem rm_E_hi {M : mg} {E : Nat → Nat} {i : Nat} (h : 1000 ≤ E i) : rm_E M E i = mg_P M := if_pos h
theorem rm_E_lo {M : mg} {E : Nat → Nat} {i : Nat} (h : ¬ 1000 ≤ E i) : rm_E M E i = E i := if_neg h
theorem rm_K_I {s : rf_S} {M : mg} {E dp ob : Nat → Nat} {lp : Nat → Option Nat} (h : rm_I s M 0 E dp lp ob false) (hr : rm_rd M 0 lp) (hct : mg_ct (mg_k M) (mg_P M) ≤ 40) : rm_K s M 256 128 2 := by
  have hP := h.P1
  have e0 : ∀ j i, E j = E i → rm_E M E j = rm_E M E i := fun j i q => by unfold rm_E; rw [q]
  refine ⟨rm_E M E, dp, h.P1, h.B1, hct, fun i hi => ?_, fun b hb => ?_, ?_, fun hp => ?_⟩
  · have hn := h.nx i hi
    have h4 := h.C4 i hi
    have h1 := h.C1 i hi
    refine ⟨h.pc i hi, h.pa i hi, (h.k8 i hi).1, (h.k8 i hi).2, fun h6 => ?_, ?_, ?_, ?_⟩
    · rcases h.C10 i hi h6 with ⟨l, hl, _⟩ | q
      · rw [if_neg (by decide)] at hl
        omega
      · exact q
    · by_cases q : 1000 ≤ E i
      · rw [rm_E_hi q]; exact Nat.le_refl _
      · rw [rm_E_lo q]; exact h1.2 (by omega)
    · rw [hn]
      by_cases q : 1000 ≤ E i
      · rw [rm_E_hi q]
        have hnx : rm_nx (mg_x M) E lp i = if lp (E i - 1000) = some i then none else some (mg_x M i) := by unfold rm_nx; rw [if_pos q]
        have hE : E i - 1000 = 0 := by have := h1.1 q; omega
        rw [hE] at hnx
        by_cases ql : lp 0 = some i
        · rw [hnx, if_pos ql, if_neg (by rw [hr i ql]; omega)]
        · rw [if_neg ql] at hnx
          have := h4 _ hnx
          rw [hnx, if_pos this.2.1]
      · rw [rm_E_lo q]
        unfold rm_nx
        rw [if_neg q]
    · intro z
      have hs : rm_nx (mg_x M) E lp i = some (mg_x M i) := by
        by_cases q : 1000 ≤ E i
        · rw [rm_E_hi q] at z
          have hE : E i - 1000 = 0 := by have := h1.1 q; omega
          unfold rm_nx
          rw [if_pos q, hE, if_neg (fun ql => by have := hr i ql; omega)]
        · rw [rm_E_lo q] at z
          unfold rm_nx
          rw [if_neg q, if_pos z]
      have := h4 _ hs
      exact ⟨this.1, e0 _ _ this.2.2.1, this.2.2.2⟩
  · obtain ⟨b1, b2, b3, b4⟩ := h.bt b hb
    obtain ⟨c1, c2, c3, c4⟩ := h.C5 b hb (fun l h1 h2 => by omega)
    refine ⟨b1, b2, b3, b4, c1, c2, c3, fun z => ?_⟩
    have := c4 z
    refine ⟨?_, this.2⟩
    rw [rm_E_lo (by omega)]
    exact this.1
  · obtain ⟨c1, c2, c3⟩ := h.C7
    rw [c1]
    by_cases q : lp 0 = none
    · rw [if_pos q, if_pos (c3 q)]
    · have := (c2 q).1
      rw [if_neg q, if_neg (by omega)]
  · obtain ⟨c1, c2, c3⟩ := h.C7
    have q : lp 0 ≠ none := fun q => by have := c3 q; omega
    have := c2 q
    refine ⟨?_, this.2.2⟩
    rw [rm_E_hi (by omega)]
/-- only the rows of the message matter -/
theorem rm_K.fr {s u : rf_S} {M : mg} {p a h : Nat} (k : rm_K s M p a h) (h5 : u 5 h = s 5 h) (h6 : ∀ j i, 6 ≤ j → j ≤ 8 → p ≤ i → i < p + 128 → u j i = s j i) (h9 : ∀ j i, 9 ≤ j → j ≤ 16 → a ≤ i → i < a + 64 → u j i = s j i) : rm_K u M p a h := by
  obtain ⟨E, dp, k1, k2, k3, k4, k5, k6, k7⟩ := k
  refine ⟨E, dp, k1, k2, k3, fun i hi => ?_, fun b hb => ?_, h5.trans k6, k7⟩
  · obtain ⟨q1, q2, q3, q4, q5, q6, q7, q8⟩ := k4 i hi
    refine ⟨fun z => ?_, fun z => ?_, q3, q4, q5, q6, (h6 _ _ (by omega) (by omega) (by omega) (by omega)).trans q7, q8⟩
    · have := q1 z
      exact ⟨(h6 _ _ (by omega) (by omega) (by omega) (by omega)).trans this.1, (h6 _ _ (by omega) (by omega) (by omega) (by omega)).trans this.2⟩
    · obtain ⟨r1, r2, ⟨X, N, r3, r4, r5⟩, r6, r7, r8⟩ := q2 z
      have hc : mg_ct (mg_k M) i < mg_ct (mg_k M) (mg_P M) := mg_ct_lt z hi
      exact ⟨(h6 _ _ (by omega) (by omega) (by omega) (by omega)).trans r1, (h6 _ _ (by omega) (by omega) (by omega) (by omega)).trans r2, ⟨X, N, r3, r4, (h9 _ _ (by omega) (by omega) (by omega) (by omega)).trans r5⟩, (h9 _ _ (by omega) (by omega) (by omega) (by omega)).trans r6, (h9 _ _ (by omega) (by omega) (by omega) (by omega)).trans r7, (h9 _ _ (by omega) (by omega) (by omega) (by omega)).trans r8⟩
  · obtain ⟨⟨q1, q9⟩, q2, q3, q4, q5, q6, q7, q8⟩ := k5 b hb
    refine ⟨⟨?_, (h9 _ _ (by omega) (by omega) (by omega) (by omega)).trans q9⟩, q2, q3, q4, q5, q6, (h9 _ _ (by omega) (by omega) (by omega) (by omega)).trans q7, q8⟩
    rw [h9 13 _ (by omega) (by omega) (by omega) (by omega), h9 14 _ (by omega) (by omega) (by omega) (by omega)]
    exact q1
def vi (v : Value) : Int32 := match v with
  | .int x => x
  | _ => 0
def vl (v : Value) : Int64 := match v with
  | .long x => x
  | _ => 0
def vb (v : Value) : Bool := decide (vi v = 1)
theorem vb_i (b : Bool) : vb (.int (sb_i b)) = b := by cases b <;> rfl
/-- every number of an argument is some part's -/
theorem mg_ct_of {k : Nat → Nat} {c : Nat} : ∀ {P}, c < mg_ct k P → ∃ i, i < P ∧ 2 ≤ k i ∧ mg_ct k i = c
  | 0, h => by rw [mg_ct] at h; omega
  | P + 1, h => by
    rw [mg_ct] at h
    by_cases q : c < mg_ct k P
    · obtain ⟨i, h1, h2, h3⟩ := mg_ct_of q
      exact ⟨i, by omega, h2, h3⟩
    · split at h
      · next z => exact ⟨P, by omega, z, by omega⟩
      · omega
/-- what keep copies: the rows that the readers left -/
theorem rm_K.vals {s : rf_S} {M : mg} (k : rm_K s M 256 128 2) : s 5 2 = .int (vi (s 5 2)) ∧ (∀ i, i < mg_B M → s 13 (128 + i) = .int (sb_i (vb (s 13 (128 + i)))) ∧ s 14 (128 + i) = .long (vl (s 14 (128 + i))) ∧ s 15 (128 + i) = .int (vi (s 15 (128 + i))) ∧ s 16 (128 + i) = .int (vi (s 16 (128 + i)))) ∧ (∀ i, i < mg_ct (mg_k M) (mg_P M) → s 9 (128 + i) = .int (vi (s 9 (128 + i))) ∧ s 10 (128 + i) = .int (vi (s 10 (128 + i))) ∧ s 11 (128 + i) = .int (vi (s 11 (128 + i))) ∧ s 12 (128 + i) = .int (vi (s 12 (128 + i)))) ∧ (∀ i, i < mg_P M → s 6 (256 + i) = .int (vi (s 6 (256 + i))) ∧ s 7 (256 + i) = .int (vi (s 7 (256 + i))) ∧ s 8 (256 + i) = .int (vi (s 8 (256 + i)))) := by
  obtain ⟨E, dp, k1, k2, k3, k4, k5, k6, k7⟩ := k
  refine ⟨by rw [k6, rm_e_i]; rfl, fun b hb => ?_, fun c hc => ?_, fun i hi => ?_⟩
  · obtain ⟨⟨q1, q9⟩, q2, q3, q4, q5, q6, q7, q8⟩ := k5 b hb
    refine ⟨?_, ?_, by rw [q7, rm_e_i]; rfl, by rw [q9, rm_e_i]; rfl⟩
    · rcases q1 with ⟨N, _, _, z, _⟩ | ⟨X, N, _, _, z, _⟩ <;> rw [z, vb_i]
    · rcases q1 with ⟨N, _, _, _, z⟩ | ⟨X, N, _, _, _, z⟩ <;> rw [z] <;> rfl
  · obtain ⟨i, h1, h2, h3⟩ := mg_ct_of hc
    obtain ⟨r1, r2, ⟨X, N, r3, r4, r5⟩, r6, r7, r8⟩ := (k4 i h1).2.1 h2
    subst h3
    exact ⟨by rw [r5]; rfl, by rw [r6]; rfl, by rw [r7]; rfl, by rw [r8, rm_e_i]; rfl⟩
  · obtain ⟨q1, q2, q3, q4, q5, q6, q7, q8⟩ := k4 i hi
    by_cases z : mg_k M i < 2
    · exact ⟨by rw [(q1 z).1]; rfl, by rw [(q1 z).2]; rfl, by rw [q7, rm_e_i]; rfl⟩
    · have := q2 (by omega)
      exact ⟨by rw [this.1]; rfl, by rw [this.2.1]; rfl, by rw [q7, rm_e_i]; rfl⟩
/-- what keep leaves of a message that was read -/
def rm_kept (s : rf_S) (M : mg) (t : Nat) : rf_S := rm_kp s t (mg_P M) (mg_ct (mg_k M) (mg_P M)) (mg_B M) (vi (s 5 2)) (fun i => vi (s 6 (256 + i))) (fun i => vi (s 7 (256 + i))) (fun i => vi (s 8 (256 + i))) (fun i => vi (s 9 (128 + i))) (fun i => vi (s 10 (128 + i))) (fun i => vi (s 11 (128 + i))) (fun i => vi (s 12 (128 + i))) (fun i => vb (s 13 (128 + i))) (fun i => vl (s 14 (128 + i))) (fun i => vi (s 15 (128 + i))) (fun i => vi (s 16 (128 + i)))
theorem rm_kept_6 {s : rf_S} {M : mg} {t j i : Nat} (hj : 6 ≤ j) (hj2 : j ≤ 8) (hi : i < mg_P M) : rm_kept s M t j (128 * t + i) = rv6 (fun i => vi (s 6 (256 + i))) (fun i => vi (s 7 (256 + i))) (fun i => vi (s 8 (256 + i))) (128 * t) (64 * t) j i := by
  unfold rm_kept rm_kp
  rw [rk_nP (by unfold rk_P13; simp; omega), rk_nP (by unfold rk_P9; simp; omega), rk_eq (by unfold rk_P6; simp; omega) hi]
theorem rm_kept_9 {s : rf_S} {M : mg} {t j i : Nat} (hj : 9 ≤ j) (hj2 : j ≤ 12) (hi : i < mg_ct (mg_k M) (mg_P M)) : rm_kept s M t j (64 * t + i) = rv9 (fun i => vi (s 9 (128 + i))) (fun i => vi (s 10 (128 + i))) (fun i => vi (s 11 (128 + i))) (fun i => vi (s 12 (128 + i))) (64 * t) j i := by
  unfold rm_kept rm_kp
  rw [rk_nP (by unfold rk_P13; simp; omega), rk_eq (by unfold rk_P9; simp; omega) hi]
theorem rm_kept_13 {s : rf_S} {M : mg} {t j i : Nat} (hj : 13 ≤ j) (hj2 : j ≤ 16) (hi : i < mg_B M) : rm_kept s M t j (64 * t + i) = rv13 (fun i => vb (s 13 (128 + i))) (fun i => vl (s 14 (128 + i))) (fun i => vi (s 15 (128 + i))) (fun i => vi (s 16 (128 + i))) (128 * t) (64 * t) j i := by
  unfold rm_kept rm_kp
  rw [rk_eq (by unfold rk_P13; simp; omega) hi]
theorem rm_kept_5 {s : rf_S} {M : mg} {t : Nat} : rm_kept s M t 5 t = .int (rm_mv (vi (s 5 2)) 256 (128 * t)) := by
  unfold rm_kept rm_kp
  rw [rk_nP (by unfold rk_P13; simp), rk_nP (by unfold rk_P9; simp), rk_nP (by unfold rk_P6; simp), rf_u_eq]
theorem rm_kept_4 {s : rf_S} {M : mg} {t : Nat} : rm_kept s M t 4 t = .int (sb_i true) := by
  unfold rm_kept rm_kp
  rw [rk_nP (by unfold rk_P13; simp), rk_nP (by unfold rk_P9; simp), rk_nP (by unfold rk_P6; simp), rf_u_ne (by omega), rf_u_eq]
/-- what keep leaves alone -/
theorem rm_kept_ne {s : rf_S} {M : mg} {t j i : Nat} (hP : mg_P M ≤ 128) (hB : mg_B M ≤ 64) (hc : mg_ct (mg_k M) (mg_P M) ≤ 64) (h4 : ¬ ((j = 4 ∨ j = 5) ∧ i = t)) (h6 : ¬ (6 ≤ j ∧ j ≤ 8 ∧ 128 * t ≤ i ∧ i < 128 * t + 128)) (h9 : ¬ (9 ≤ j ∧ j ≤ 16 ∧ 64 * t ≤ i ∧ i < 64 * t + 64)) : rm_kept s M t j i = s j i := by
  unfold rm_kept rm_kp rk
  rw [if_neg (by unfold rk_P13; simp; omega), if_neg (by unfold rk_P9; simp; omega), if_neg (by unfold rk_P6; simp; omega), rf_u_ne (by omega), rf_u_ne (by omega)]
theorem rm_K.kept {s : rf_S} {M : mg} {t : Nat} (ht : t ≤ 1) (k : rm_K s M 256 128 2) : rm_K (rm_kept s M t) M (128 * t) (64 * t) t := by
  obtain ⟨E, dp, k1, k2, k3, k4, k5, k6, k7⟩ := k
  refine ⟨E, dp, k1, k2, k3, fun i hi => ?_, fun b hb => ?_, ?_, k7⟩
  · obtain ⟨q1, q2, q3, q4, q5, q6, q7, q8⟩ := k4 i hi
    refine ⟨fun z => ?_, fun z => ?_, q3, q4, q5, q6, ?_, q8⟩
    · rw [rm_kept_6 (by omega) (by omega) hi, rm_kept_6 (by omega) (by omega) hi]
      have := q1 z
      refine ⟨?_, ?_⟩
      · unfold rv6
        rw [if_pos rfl]
        dsimp only
        rw [this.1]
        rfl
      · unfold rv6
        rw [if_neg (by omega), if_pos rfl]
        unfold rv7
        dsimp only
        rw [if_neg (show ¬ vi (s 6 (256 + i)) = 2 from by
          rw [this.1]
          show ¬ Int32.ofNat (mg_k M i) = 2
          rw [show (2 : Int32) = Int32.ofNat 2 from rfl, i32_eq (by omega) (by omega)]
          omega), this.2]
        rfl
    · obtain ⟨r1, r2, ⟨X, N, r3, r4, r5⟩, r6, r7, r8⟩ := q2 z
      have hc : mg_ct (mg_k M) i < mg_ct (mg_k M) (mg_P M) := mg_ct_lt z hi
      rw [rm_kept_6 (by omega) (by omega) hi, rm_kept_6 (by omega) (by omega) hi, rm_kept_9 (by omega) (by omega) hc, rm_kept_9 (by omega) (by omega) hc, rm_kept_9 (by omega) (by omega) hc, rm_kept_9 (by omega) (by omega) hc]
      refine ⟨?_, ?_, ⟨X, N, r3, r4, ?_⟩, ?_, ?_, ?_⟩
      · unfold rv6
        rw [if_pos rfl]
        dsimp only
        rw [r1]
        rfl
      · unfold rv6
        rw [if_neg (by omega), if_pos rfl]
        unfold rv7
        dsimp only
        rw [if_pos (show vi (s 6 (256 + i)) = 2 from by rw [r1]; rfl), r2]
        show Value.int (rm_mv (rm_i 128 (some (mg_ct (mg_k M) i))) 128 (64 * t)) = _
        rw [rm_mv_i (fun j hj => by injection hj with hj; omega) (by omega)]
        rfl
      · unfold rv9
        rw [if_pos rfl]
        dsimp only
        rw [r5]
        rfl
      · unfold rv9
        rw [if_neg (by omega), if_pos rfl]
        dsimp only
        rw [r6]
        rfl
      · unfold rv9
        rw [if_neg (by omega), if_neg (by omega), if_pos rfl]
        dsimp only
        rw [r7]
        rfl
      · unfold rv9
        rw [if_neg (by omega), if_neg (by omega), if_neg (by omega)]
        dsimp only
        rw [r8, rm_e_i, rm_e_i]
        show Value.int (rm_mv (rm_i 128 _) 128 (64 * t)) = _
        rw [rm_mv_i (fun j hj => by have := (mg_bo_in hj).2.1; omega) (by omega)]
    · rw [rm_kept_6 (by omega) (by omega) hi]
      unfold rv6
      rw [if_neg (by omega), if_neg (by omega)]
      dsimp only
      rw [q7, rm_e_i, rm_e_i]
      show Value.int (rm_mv (rm_i 256 _) 256 (128 * t)) = _
      rw [rm_mv_i (fun j hj => by
        split at hj
        · injection hj with hj; omega
        · cases hj) (by omega)]
  · obtain ⟨⟨q1, q9⟩, q2, q3, q4, q5, q6, q7, q8⟩ := k5 b hb
    refine ⟨⟨?_, ?_⟩, q2, q3, q4, q5, q6, ?_, q8⟩
    · rw [rm_kept_13 (by omega) (by omega) hb, rm_kept_13 (by omega) (by omega) hb]
      unfold rv13
      rw [if_pos rfl, if_neg (by omega), if_pos rfl]
      dsimp only
      rcases q1 with ⟨N, z1, z2, z3, z4⟩ | ⟨X, N, z1, z2, z3, z4⟩
      · exact Or.inl ⟨N, z1, z2, by rw [z3, vb_i], by rw [z4]; rfl⟩
      · exact Or.inr ⟨X, N, z1, z2, by rw [z3, vb_i], by rw [z4]; rfl⟩
    · rw [rm_kept_13 (by omega) (by omega) hb]
      unfold rv13
      rw [if_neg (by omega), if_neg (by omega), if_neg (by omega)]
      dsimp only
      rw [q9, rm_e_i, rm_e_i]
      show Value.int (rm_mv (rm_i 128 _) 128 (64 * t)) = _
      rw [rm_mv_i (fun j hj => by have := (mg_bo_in hj).2.1; omega) (by omega)]
    · rw [rm_kept_13 (by omega) (by omega) hb]
      unfold rv13
      rw [if_neg (by omega), if_neg (by omega), if_pos rfl]
      dsimp only
      rw [q7, rm_e_i, rm_e_i]
      show Value.int (rm_mv (rm_i 256 _) 256 (128 * t)) = _
      rw [rm_mv_i (fun j hj => by
        split at hj
        · injection hj with hj; omega
        · cases hj) (by omega)]
  · rw [rm_kept_5, k6, rm_e_i, rm_e_i]
    show Value.int (rm_mv (rm_i 256 _) 256 (128 * t)) = _
    rw [rm_mv_i (fun j hj => by
      split at hj
      · cases hj
      · injection hj with hj; omega) (by omega)]
