/-! Rows of parts: where the sign of a number may stand. -/
/-- from part i on, before e: only characters, arguments, and signs if sg -/
def ro (M : mg) (sg : Bool) (e : Nat) : Nat → Nat → Prop
  | 0, _ => True
  | f + 1, i => e ≤ i ∨ ((mg_k M i = 1 → sg = true) ∧ (mg_k M i = 0 → ∃ c, c < 128 ∧ mg_c M i = Int32.ofNat c) ∧ i < mg_x M i ∧ ro M sg e f (mg_x M i))
def mg_sk (M M' : mg) (P : Nat) : Prop := P ≤ mg_P M' ∧ ∀ j, j < P → mg_k M' j = mg_k M j ∧ mg_c M' j = mg_c M j ∧ mg_x M' j = mg_x M j
def mg_sb (M M' : mg) (B : Nat) : Prop := B ≤ mg_B M' ∧ ∀ b, b < B → mg_w M' b = mg_w M b ∧ mg_a M' b = mg_a M b ∧ mg_e M' b = mg_e M b
theorem mg_sk.refl (M : mg) : mg_sk M M (mg_P M) := ⟨Nat.le_refl _, fun _ _ => ⟨rfl, rfl, rfl⟩⟩
theorem mg_sb.refl (M : mg) : mg_sb M M (mg_B M) := ⟨Nat.le_refl _, fun _ _ => ⟨rfl, rfl, rfl⟩⟩
theorem mg_sk.trans {M M1 M2 : mg} {P Q : Nat} (hPQ : P ≤ Q) (h : mg_sk M M1 P) (k : mg_sk M1 M2 Q) : mg_sk M M2 P := by
  refine ⟨by have := k.1; omega, fun j hj => ?_⟩
  have a := h.2 j hj
  have b := k.2 j (by omega)
  exact ⟨b.1.trans a.1, b.2.1.trans a.2.1, b.2.2.trans a.2.2⟩
theorem mg_sb.trans {M M1 M2 : mg} {P Q : Nat} (hPQ : P ≤ Q) (h : mg_sb M M1 P) (k : mg_sb M1 M2 Q) : mg_sb M M2 P := by
  refine ⟨by have := k.1; omega, fun j hj => ?_⟩
  have a := h.2 j hj
  have b := k.2 j (by omega)
  exact ⟨b.1.trans a.1, b.2.1.trans a.2.1, b.2.2.trans a.2.2⟩
theorem ro.st2 {M M' : mg} {sg : Bool} {e lo P : Nat} (h : ∀ j, lo ≤ j → j < P → mg_k M' j = mg_k M j ∧ mg_c M' j = mg_c M j ∧ mg_x M' j = mg_x M j) (he : e ≤ P) : ∀ f i, lo ≤ i → ro M sg e f i → ro M' sg e f i
  | 0, i, _, _ => trivial
  | f + 1, i, hi, q => by
    rcases q with q | ⟨q1, q2, q3, q4⟩
    · exact Or.inl q
    · by_cases z : e ≤ i
      · exact Or.inl z
      · have := h i hi (by omega)
        refine Or.inr ⟨by rw [this.1]; exact q1, by rw [this.1, this.2.1]; exact q2, by rw [this.2.2]; exact q3, ?_⟩
        rw [this.2.2]
        exact ro.st2 h he f _ (by omega) q4
/-- branch b is closed, it begins at lo or behind it, and its row is in order -/
def ro_b (M : mg) (lo b : Nat) : Prop := mg_e M b ≤ mg_P M ∧ mg_w M b < mg_P M ∧ lo ≤ mg_a M b ∧ ∀ f, ro M (decide (mg_k M (mg_w M b) ≠ 6)) (mg_e M b) f (mg_a M b)
theorem ro_b.st {M M' : mg} {lo b : Nat} (hP : mg_P M ≤ mg_P M') (hk : ∀ j, j < mg_P M → mg_k M' j = mg_k M j ∧ mg_c M' j = mg_c M j) (hx : ∀ j, lo ≤ j → j < mg_P M → mg_x M' j = mg_x M j) (hb : mg_w M' b = mg_w M b ∧ mg_a M' b = mg_a M b ∧ mg_e M' b = mg_e M b) (q : ro_b M lo b) : ro_b M' lo b := by
  obtain ⟨q1, q2, q4, q3⟩ := q
  refine ⟨by rw [hb.2.2]; omega, by rw [hb.1]; omega, by rw [hb.2.1]; exact q4, fun f => ?_⟩
  rw [hb.1, hb.2.1, hb.2.2, (hk _ q2).1]
  exact ro.st2 (fun j h1 h2 => ⟨(hk j h2).1, (hk j h2).2, hx j h1 h2⟩) q1 f _ q4 (q3 f)
theorem ro_b.lo {M : mg} {lo lo' b : Nat} (h : lo' ≤ lo) (q : ro_b M lo b) : ro_b M lo' b := ⟨q.1, q.2.1, by have := q.2.2.1; omega, q.2.2.2⟩
/-- a stretch of reading at one level -/
def ro_s (sg : Bool) (M M1 : mg) : Prop := mg_sk M M1 (mg_P M) ∧ mg_sb M M1 (mg_B M) ∧ (∀ M' e, mg_sk M1 M' (mg_P M1) → (∀ f, ro M' sg e f (mg_P M1)) → ∀ f, ro M' sg e f (mg_P M)) ∧ ∀ b, mg_B M ≤ b → b < mg_B M1 → ro_b M1 (mg_P M) b
theorem ro_s.refl (sg : Bool) (M : mg) : ro_s sg M M := ⟨mg_sk.refl M, mg_sb.refl M, fun _ _ _ h => h, fun b h1 h2 => by omega⟩
theorem ro_s.trans {sg : Bool} {M M1 M2 : mg} (h : ro_s sg M M1) (k : ro_s sg M1 M2) : ro_s sg M M2 := by
  obtain ⟨h1, h2, h3, h4⟩ := h
  obtain ⟨k1, k2, k3, k4⟩ := k
  refine ⟨h1.trans h1.1 k1, h2.trans h2.1 k2, fun M' e a b => h3 M' e (k1.trans k1.1 a) (k3 M' e a b), fun b b1 b2 => ?_⟩
  by_cases z : b < mg_B M1
  · exact ro_b.st k1.1 (fun j hj => ⟨(k1.2 j hj).1, (k1.2 j hj).2.1⟩) (fun j _ hj => (k1.2 j hj).2.2) (k2.2 b z) (h4 b b1 z)
  · exact (k4 b (by omega) b2).lo h1.1
theorem ro_s.add {sg : Bool} {M : mg} {k : Nat} {x : Int32} (h1 : k = 1 → sg = true) (h0 : k = 0 → ∃ c, c < 128 ∧ x = Int32.ofNat c) : ro_s sg M (mg_add M k x) := by
  refine ⟨⟨by rw [mg_add_P]; omega, fun j hj => ⟨up_ne (by omega), up_ne (by omega), up_ne (by omega)⟩⟩, ⟨Nat.le_refl _, fun _ _ => ⟨rfl, rfl, rfl⟩⟩, fun M' e a b f => ?_, fun b b1 b2 => by rw [mg_add_B] at b2; omega⟩
  have := a.2 (mg_P M) (by rw [mg_add_P]; omega)
  rw [show mg_k (mg_add M k x) (mg_P M) = k from up_eq .., show mg_c (mg_add M k x) (mg_P M) = x from up_eq .., show mg_x (mg_add M k x) (mg_P M) = mg_P M + 1 from up_eq ..] at this
  cases f with
  | zero => trivial
  | succ f =>
    refine Or.inr ⟨by rw [this.1]; exact h1, by rw [this.1, this.2.1]; exact h0, by rw [this.2.2]; omega, ?_⟩
    rw [this.2.2]
    exact b f
theorem ro_quote {cs : List Nat} {n : Nat} {sg : Bool} (hc : ∀ j, sb_lk cs n j < 128) : ∀ k a M, ro_s sg M (rd_quote cs n k a M).2
  | 0, a, M => ro_s.refl sg M
  | k + 1, a, M => by
    rw [rd_quote]
    by_cases h1 : n ≤ a
    · rw [if_pos h1]; exact ro_s.refl sg M
    rw [if_neg h1]
    by_cases h2 : sb_lk cs n a = 39
    · rw [if_pos h2]
      by_cases h3 : sb_lk cs n (a + 1) = 39
      · rw [if_pos h3]
        exact (ro_s.add (by omega) (fun _ => ⟨39, by omega, rfl⟩)).trans (ro_quote hc k (a + 2) _)
      · rw [if_neg h3]; exact ro_s.refl sg M
    · rw [if_neg h2]
      exact (ro_s.add (by omega) (fun _ => ⟨_, hc a, rfl⟩)).trans (ro_quote hc k (a + 1) _)
theorem ro_apos {cs : List Nat} {n a : Nat} {M : mg} {sg dbl signs : Bool} (hc : ∀ j, sb_lk cs n j < 128) : ro_s sg M (rd_apos cs n dbl signs a M).2 := by
  unfold rd_apos
  split
  · exact ro_s.add (by omega) (fun _ => ⟨39, by omega, rfl⟩)
  split
  · exact ro_quote hc 120 (a + 1) M
  · exact ro_s.add (by omega) (fun _ => ⟨39, by omega, rfl⟩)
/-- what a reader of branches' texts keeps -/
def ro_in (inner : Option (Bool → Nat → mg → rd_R)) : Prop := ∀ fn, inner = some fn → ∀ sg a M a' M', fn sg a M = .ok (a', M') → ro_s sg M M'
/-- branches of part i: only where i goes on is left open -/
def ro_r (i : Nat) (M M1 : mg) : Prop := mg_P M ≤ mg_P M1 ∧ (∀ j, j < mg_P M → mg_k M1 j = mg_k M j ∧ mg_c M1 j = mg_c M j ∧ (j ≠ i → mg_x M1 j = mg_x M j)) ∧ mg_x M1 i = mg_P M1 ∧ mg_sb M M1 (mg_B M) ∧ ∀ b, mg_B M ≤ b → b < mg_B M1 → ro_b M1 (i + 1) b
theorem ro_r.fin {cs : List Nat} {n i a a' : Nat} {M M' : mg} (h : rd_fin cs n i a M = .ok (a', M')) : ro_r i M M' := by
  unfold rd_fin at h
  split at h
  · cases h
  split at h
  · cases h
    exact ⟨Nat.le_refl _, fun j hj => ⟨rfl, rfl, fun q => up_ne q⟩, up_eq .., ⟨Nat.le_refl _, fun _ _ => ⟨rfl, rfl, rfl⟩⟩, fun b b1 b2 => by
      have : b < mg_B M := b2
      omega⟩
  · cases h
theorem ro_brs {cs : List Nat} {n i k : Nat} {inner : Option (Bool → Nat → mg → rd_R)} (hin : ro_in inner) : ∀ f a M a' M', i < mg_P M → mg_k M i = k → rd_brs cs n inner i k f a M = .ok (a', M') → ro_r i M M'
  | 0, a, M, a', M', hi, hk, h => ro_r.fin h
  | f + 1, a, M, a', M', hi, hk, h => by
    rw [rd_brs] at h
    split at h
    · exact ro_r.fin h
    rcases hb : rd_branch cs n inner i (decide (k ≠ 6)) a M with e | ⟨a4, M4⟩
    · rw [hb] at h; cases h
    rw [hb] at h
    dsimp only at h
    unfold rd_branch at hb
    split at hb
    · cases hb
    split at hb
    · cases hb
    rcases inner with _ | fn
    · cases hb
    dsimp only at hb
    split at hb
    · cases hb
    next a3 M3 hf =>
    split at hb
    · next se q1 q2 q3 q4 =>
      cases hb
      have hs := hin fn rfl _ _ _ _ _ hf
      obtain ⟨s1, s2, s3, s4⟩ := hs
      have s10 : mg_P M ≤ mg_P M3 := s1.1
      have s11 : ∀ j, j < mg_P M → mg_k M3 j = mg_k M j ∧ mg_c M3 j = mg_c M j ∧ mg_x M3 j = mg_x M j := s1.2
      have s20 : mg_B M + 1 ≤ mg_B M3 := s2.1
      have s21 := s2.2 (mg_B M) (show mg_B M < mg_B M + 1 by omega)
      have hP4 : mg_P (mg_clb M3 (mg_B M)) = mg_P M3 := rfl
      have hk4 : mg_k (mg_clb M3 (mg_B M)) = mg_k M3 := rfl
      have hr := ro_brs hin f _ (mg_clb M3 (mg_B M)) _ _ (show i < mg_P M3 by omega) (show mg_k M3 i = k by rw [(s11 i hi).1]; exact hk) h
      obtain ⟨r1, r2, r3, r4, r5⟩ := hr
      have r10 : mg_P M3 ≤ mg_P M' := r1
      have r21 : ∀ j, j < mg_P M3 → mg_k M' j = mg_k M3 j ∧ mg_c M' j = mg_c M3 j ∧ (j ≠ i → mg_x M' j = mg_x M3 j) := r2
      have e1 : mg_w M3 (mg_B M) = i := s21.1.trans (up_eq ..)
      have e2 : mg_a M3 (mg_B M) = mg_P M := s21.2.1.trans (up_eq ..)
      refine ⟨by omega, fun j hj => ?_, r3, ⟨by have : mg_B M3 ≤ mg_B M' := r4.1; omega, fun b hb => ?_⟩, fun b b1 b2 => ?_⟩
      · have t1 := s11 j hj
        have t2 := r21 j (by omega)
        exact ⟨t2.1.trans t1.1, t2.2.1.trans t1.2.1, fun q => (t2.2.2 q).trans t1.2.2⟩
      · have t1 := s2.2 b (show b < mg_B M + 1 by omega)
        have t2 := r4.2 b (show b < mg_B M3 by omega)
        have e3 : mg_e (mg_clb M3 (mg_B M)) b = mg_e M3 b := up_ne (by omega)
        exact ⟨t2.1.trans (t1.1.trans (up_ne (by omega))), t2.2.1.trans (t1.2.1.trans (up_ne (by omega))), t2.2.2.trans (e3.trans (t1.2.2.trans (up_ne (by omega))))⟩
      · by_cases z : b < mg_B M3
        · refine ro_b.st (M := mg_clb M3 (mg_B M)) r1 (fun j hj => ⟨(r2 j hj).1, (r2 j hj).2.1⟩) (fun j h1 hj => (r2 j hj).2.2 (by omega)) (r4.2 b z) ?_
          by_cases y : b = mg_B M
          · subst y
            refine ⟨?_, ?_, ?_, fun g => ?_⟩
            · show up_ (mg_e M3) (mg_B M) (mg_P M3) (mg_B M) ≤ mg_P M3
              rw [up_eq]
              exact Nat.le_refl _
            · show mg_w M3 (mg_B M) < mg_P M3
              rw [e1]
              omega
            · show i + 1 ≤ mg_a M3 (mg_B M)
              rw [e2]
              omega
            · show ro _ (decide (mg_k M3 (mg_w M3 (mg_B M)) ≠ 6)) (up_ (mg_e M3) (mg_B M) (mg_P M3) (mg_B M)) g (mg_a M3 (mg_B M))
              rw [e1, e2, up_eq, (s11 i hi).1, hk]
              refine s3 (mg_clb M3 (mg_B M)) (mg_P M3) ⟨Nat.le_refl _, fun _ _ => ⟨rfl, rfl, rfl⟩⟩ (fun g' => ?_) g
              cases g' with
              | zero => trivial
              | succ g' => exact Or.inl (Nat.le_refl _)
          · have t := s4 b (show mg_B M + 1 ≤ b by omega) z
            have t2 := t.lo (lo' := i + 1) (show i + 1 ≤ mg_P M by omega)
            exact ro_b.st (M := M3) (M' := mg_clb M3 (mg_B M)) (Nat.le_refl _) (fun _ _ => ⟨rfl, rfl⟩) (fun _ _ _ => rfl) ⟨rfl, rfl, up_ne y⟩ t2
        · exact r5 b (show mg_B M3 ≤ b by omega) b2
    · cases hb
/-- a part of kind k that its branches follow -/
theorem ro_r.s {sg : Bool} {M M1 M' : mg} {k : Nat} {x : Int32} (hk : 2 ≤ k) (hM : M1 = mg_add M k x ∨ ∃ v, M1 = mg_off (mg_add M k x) (mg_P M) v) (h : ro_r (mg_P M) M1 M') : ro_s sg M M' := by
  have f1 : mg_P M1 = mg_P M + 1 ∧ mg_B M1 = mg_B M ∧ mg_k M1 = up_ (mg_k M) (mg_P M) k ∧ mg_c M1 = up_ (mg_c M) (mg_P M) x ∧ mg_x M1 = up_ (mg_x M) (mg_P M) (mg_P M + 1) ∧ mg_w M1 = mg_w M ∧ mg_a M1 = mg_a M ∧ mg_e M1 = mg_e M := by
    rcases hM with q | ⟨v, q⟩ <;> subst q <;> exact ⟨rfl, rfl, rfl, rfl, rfl, rfl, rfl, rfl⟩
  obtain ⟨g1, g2, g3, g4, g5, g6, g7, g8⟩ := f1
  obtain ⟨r1, r2, r3, r4, r5⟩ := h
  rw [g1] at r1 r2
  rw [g2] at r4 r5
  refine ⟨⟨by omega, fun j hj => ?_⟩, ⟨r4.1, fun b hb => ?_⟩, fun M2 e a b f => ?_, fun b b1 b2 => (r5 b b1 b2).lo (by omega)⟩
  · have := r2 j (by omega)
    rw [g3, g4, g5, up_ne (by omega), up_ne (by omega), up_ne (by omega)] at this
    exact ⟨this.1, this.2.1, this.2.2 (by omega)⟩
  · have := r4.2 b hb
    rw [g6, g7, g8] at this
    exact this
  · have t := r2 (mg_P M) (by omega)
    have t2 := a.2 (mg_P M) (by omega)
    rw [g3, g4, up_eq, up_eq] at t
    rw [t.1, t.2.1, r3] at t2
    cases f with
    | zero => trivial
    | succ f =>
      refine Or.inr ⟨by rw [t2.1]; omega, by rw [t2.1]; omega, by rw [t2.2.2]; omega, ?_⟩
      rw [t2.2.2]
      exact b f
theorem rd_kind_2 {cs : List Nat} {a e : Nat} (h : rd_kind cs a e ≠ 0) : 3 ≤ rd_kind cs a e := by
  unfold rd_kind at h ⊢
  repeat' split
  all_goals first | omega | (exfalso; revert h; simp_all)
theorem ro_rest {cs : List Nat} {n k a a' : Nat} {sg : Bool} {M M' : mg} {x : Int32} {inner : Option (Bool → Nat → mg → rd_R)} (hin : ro_in inner) (hk : 2 ≤ k) (h : rd_rest cs n inner (mg_P M) k a (mg_add M k x) = .ok (a', M')) : ro_s sg M M' := by
  unfold rd_rest at h
  split at h
  · exact ro_r.s hk (Or.inl rfl) (ro_brs hin 40 _ (mg_add M k x) _ _ (Nat.lt_succ_self _) (up_eq ..) h)
  · split at h
    · cases h
    · next a1 M1 ho =>
      unfold rd_off at ho
      split at ho
      · split at ho
        · cases ho
        · next a2 v hv =>
          cases ho
          exact ro_r.s hk (Or.inr ⟨v, rfl⟩) (ro_brs hin 40 _ (mg_off (mg_add M k x) (mg_P M) v) _ _ (Nat.lt_succ_self _) (up_eq ..) h)
      · cases ho
        exact ro_r.s hk (Or.inl rfl) (ro_brs hin 40 _ (mg_add M k x) _ _ (Nat.lt_succ_self _) (up_eq ..) h)
theorem ro_arg {cs : List Nat} {n a a' : Nat} {sg : Bool} {M M' : mg} {inner : Option (Bool → Nat → mg → rd_R)} (hin : ro_in inner) (h : rd_arg cs n inner a M = .ok (a', M')) : ro_s sg M M' := by
  unfold rd_arg at h
  split at h
  · cases h
  · split at h
    · cases h
      exact ro_s.add (by omega) (by omega)
    · split at h
      · unfold rd_typed at h
        split at h
        · cases h
        next hk =>
        have hk3 := rd_kind_2 hk
        split at h
        · split at h
          · cases h
            exact ro_s.add (by omega) (by omega)
          · cases h
        · split at h
          · exact ro_rest hin (by omega) h
          · cases h
      · cases h
theorem ro_loop {cs : List Nat} {n : Nat} {dbl top signs : Bool} {inner : Option (Bool → Nat → mg → rd_R)} (hc : ∀ j, sb_lk cs n j < 128) (hin : ro_in inner) : ∀ f a M a' M', rd_loop cs n dbl inner top signs f a M = .ok (a', M') → ro_s signs M M'
  | 0, a, M, a', M', h => by
    rw [rd_loop] at h
    cases h
    exact ro_s.refl _ _
  | f + 1, a, M, a', M', h => by
    rw [rd_loop] at h
    split at h
    · cases h
      exact ro_s.refl _ _
    split at h
    · exact (ro_apos hc).trans (ro_loop hc hin f _ _ _ _ h)
    split at h
    · split at h
      · cases h
      · next hq => exact (ro_arg hin hq).trans (ro_loop hc hin f _ _ _ _ h)
    · refine (ro_s.add (fun z => ?_) (fun z => ⟨_, hc a, rfl⟩)).trans (ro_loop hc hin f _ _ _ _ h)
      split at z
      · next q => exact q.2
      · cases z
theorem ro_msg {cs : List Nat} {n : Nat} {dbl : Bool} (hc : ∀ j, sb_lk cs n j < 128) : ∀ D top signs a M a' M', rd_msg cs n dbl D top signs a M = .ok (a', M') → ro_s signs M M'
  | 0, top, signs, a, M, a', M', h => ro_loop hc (fun fn hf => by cases hf) 120 a M a' M' h
  | D + 1, top, signs, a, M, a', M', h => ro_loop hc (fun fn hf sg a M a' M' q => by cases hf; exact ro_msg hc D false sg a M a' M' q) 120 a M a' M' h
/-- what was read from the beginning -/
def ro_M (M : mg) : Prop := (∀ f, ro M false (mg_P M) f 0) ∧ ∀ b, b < mg_B M → ∀ f, ro M (decide (mg_k M (mg_w M b) ≠ 6)) (mg_e M b) f (mg_a M b)
theorem ro_M_of {cs : List Nat} {n a' : Nat} {dbl : Bool} {M M' : mg} (hc : ∀ j, sb_lk cs n j < 128) (h : rd_msg cs n dbl 3 true false 0 (mg_clr M) = .ok (a', M')) : ro_M M' := by
  obtain ⟨h1, h2, h3, h4⟩ := ro_msg hc 3 true false 0 (mg_clr M) a' M' h
  refine ⟨fun f => h3 M' (mg_P M') (mg_sk.refl M') (fun g => ?_) f, fun b hb f => (h4 b (Nat.zero_le _) hb).2.2.2 f⟩
  cases g with
  | zero => trivial
  | succ g => exact Or.inl (Nat.le_refl _)
