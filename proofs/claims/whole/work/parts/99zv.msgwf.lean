/-! What was read lies within its bounds. -/
def mg_w1 (M : mg) : Prop := (∀ i, i < mg_P M → mg_k M i ≤ 8 ∧ mg_o M i < 100 ∧ mg_x M i ≤ mg_P M ∧ (mg_k M i = 0 → (mg_c M i).toUInt32.toNat < 128)) ∧ ∀ b, b < mg_B M → mg_a M b ≤ mg_P M ∧ mg_e M b ≤ mg_P M
theorem mg_w1.add {M : mg} {k : Nat} {x : Int32} (h : mg_w1 M) (hk : k ≤ 8) (hx : k = 0 → ∃ c, c < 128 ∧ x = Int32.ofNat c) : mg_w1 (mg_add M k x) := by
  refine ⟨fun i hi => ?_, fun b hb => ?_⟩
  · show up_ (mg_k M) (mg_P M) k i ≤ 8 ∧ up_ (mg_o M) (mg_P M) 0 i < 100 ∧ up_ (mg_x M) (mg_P M) (mg_P M + 1) i ≤ mg_P M + 1 ∧ (up_ (mg_k M) (mg_P M) k i = 0 → (up_ (mg_c M) (mg_P M) x i).toUInt32.toNat < 128)
    by_cases e : i = mg_P M
    · subst e
      rw [up_eq, up_eq, up_eq, up_eq]
      refine ⟨hk, by omega, Nat.le_refl _, fun z => ?_⟩
      obtain ⟨c, h1, h2⟩ := hx z
      rw [h2, i32_u32n h1]
      exact h1
    · rw [up_ne e, up_ne e, up_ne e, up_ne e]
      have := h.1 i (by rw [mg_add_P] at hi; omega)
      exact ⟨this.1, this.2.1, by omega, this.2.2.2⟩
  · have := h.2 b hb
    show mg_a M b ≤ mg_P M + 1 ∧ mg_e M b ≤ mg_P M + 1
    omega
theorem mg_w1.off {M : mg} {i v : Nat} (h : mg_w1 M) (hv : v < 100) : mg_w1 (mg_off M i v) := by
  refine ⟨fun j hj => ?_, h.2⟩
  have := h.1 j hj
  refine ⟨this.1, ?_, this.2.2⟩
  show up_ (mg_o M) i v j < 100
  by_cases e : j = i
  · subst e; rw [up_eq]; exact hv
  · rw [up_ne e]; exact this.2.1
theorem mg_w1.addb {M : mg} {o : Nat} {s : Int64} (h : mg_w1 M) : mg_w1 (mg_addb M o s) := by
  refine ⟨h.1, fun b hb => ?_⟩
  show up_ (mg_a M) (mg_B M) (mg_P M) b ≤ mg_P M ∧ up_ (mg_e M) (mg_B M) (mg_P M) b ≤ mg_P M
  by_cases e : b = mg_B M
  · subst e; rw [up_eq, up_eq]; exact ⟨Nat.le_refl _, Nat.le_refl _⟩
  · have hb' : b < mg_B M + 1 := hb
    rw [up_ne e, up_ne e]
    exact h.2 b (by omega)
theorem mg_w1.clb {M : mg} {j : Nat} (h : mg_w1 M) : mg_w1 (mg_clb M j) := by
  refine ⟨h.1, fun b hb => ?_⟩
  have := h.2 b hb
  refine ⟨this.1, ?_⟩
  show up_ (mg_e M) j (mg_P M) b ≤ mg_P M
  by_cases e : b = j
  · subst e; rw [up_eq]; exact Nat.le_refl _
  · rw [up_ne e]; exact this.2
theorem mg_w1.cla {M : mg} {i : Nat} (h : mg_w1 M) : mg_w1 (mg_cla M i) := by
  refine ⟨fun j hj => ?_, h.2⟩
  have := h.1 j hj
  refine ⟨this.1, this.2.1, ?_, this.2.2.2⟩
  show up_ (mg_x M) i (mg_P M) j ≤ mg_P M
  by_cases e : j = i
  · subst e; rw [up_eq]; exact Nat.le_refl _
  · rw [up_ne e]; exact this.2.2.1
theorem w1_quote {cs : List Nat} {n : Nat} (hc : ∀ j, sb_lk cs n j < 128) : ∀ k a M, mg_w1 M → mg_w1 (rd_quote cs n k a M).2
  | 0, a, M, h => h
  | k + 1, a, M, h => by
    rw [rd_quote]
    by_cases h1 : n ≤ a
    · rw [if_pos h1]; exact h
    rw [if_neg h1]
    by_cases h2 : sb_lk cs n a = 39
    · rw [if_pos h2]
      by_cases h3 : sb_lk cs n (a + 1) = 39
      · rw [if_pos h3]
        exact w1_quote hc k (a + 2) _ (h.add (by omega) (fun _ => ⟨39, by omega, rfl⟩))
      · rw [if_neg h3]; exact h
    · rw [if_neg h2]
      exact w1_quote hc k (a + 1) _ (h.add (by omega) (fun _ => ⟨_, hc a, rfl⟩))
theorem w1_apos {cs : List Nat} {n a : Nat} {M : mg} {dbl signs : Bool} (hc : ∀ j, sb_lk cs n j < 128) (h : mg_w1 M) : mg_w1 (rd_apos cs n dbl signs a M).2 := by
  unfold rd_apos
  split
  · exact h.add (by omega) (fun _ => ⟨39, by omega, rfl⟩)
  split
  · exact w1_quote hc 120 (a + 1) M h
  · exact h.add (by omega) (fun _ => ⟨39, by omega, rfl⟩)
def w1_in (inner : Option (Bool → Nat → mg → rd_R)) : Prop := ∀ fn, inner = some fn → ∀ sg a M a' M', fn sg a M = .ok (a', M') → mg_w1 M → mg_w1 M'
theorem w1_fin {cs : List Nat} {n i a a' : Nat} {M M' : mg} (h : rd_fin cs n i a M = .ok (a', M')) (hw : mg_w1 M) : mg_w1 M' := by
  unfold rd_fin at h
  split at h
  · cases h
  split at h
  · cases h; exact hw.cla
  · cases h
theorem w1_brs {cs : List Nat} {n i k : Nat} {inner : Option (Bool → Nat → mg → rd_R)} (hin : w1_in inner) : ∀ f a M a' M', rd_brs cs n inner i k f a M = .ok (a', M') → mg_w1 M → mg_w1 M'
  | 0, a, M, a', M', h, hw => w1_fin h hw
  | f + 1, a, M, a', M', h, hw => by
    rw [rd_brs] at h
    split at h
    · exact w1_fin h hw
    rcases hb : rd_branch cs n inner i (decide (k ≠ 6)) a M with e | ⟨a4, M4⟩
    · rw [hb] at h; cases h
    rw [hb] at h
    dsimp only at h
    refine w1_brs hin f a4 M4 a' M' h ?_
    unfold rd_branch at hb
    split at hb
    · cases hb
    split at hb
    · cases hb
    rcases inner with _ | fn
    · cases hb
    dsimp only at hb
    split at hb
    · cases hb
    next a3 M3 hf =>
    split at hb
    · cases hb
      exact (hin fn rfl _ _ _ _ _ hf hw.addb).clb
    · cases hb
theorem rd_num_2 {cs : List Nat} {n a a' v : Nat} (hc : ∀ j, sb_lk cs n j < 128) (h : rd_num cs n 2 a = .ok (a', v)) : v < 100 := by
  unfold rd_num at h
  split at h
  · cases h
  split at h
  · cases h
  cases h
  have h1 : sb_re 48 57 cs n a - a ≤ 2 := by omega
  have h2 : ∀ j, a ≤ j → j < sb_re 48 57 cs n a → cs.getD j 0 ≤ 57 ∧ 48 ≤ cs.getD j 0 := fun j q1 q2 => by
    have := sb_lk_in q1 q2
    omega
  rcases (show sb_re 48 57 cs n a - a = 0 ∨ sb_re 48 57 cs n a - a = 1 ∨ sb_re 48 57 cs n a - a = 2 by omega) with e | e | e
  · rw [e]
    show (0 : Nat) < 100
    omega
  · rw [e]
    have := h2 a (by omega) (by omega)
    simp only [sb_num]
    omega
  · rw [e]
    have t1 := h2 a (by omega) (by omega)
    have t2 := h2 (a + 1) (by omega) (by omega)
    simp only [sb_num]
    omega
theorem rd_kind_8 {cs : List Nat} {a e : Nat} : rd_kind cs a e ≤ 8 := by
  unfold rd_kind
  repeat' split
  all_goals omega
theorem w1_rest {cs : List Nat} {n i k a a' : Nat} {M M' : mg} {inner : Option (Bool → Nat → mg → rd_R)} (hc : ∀ j, sb_lk cs n j < 128) (hin : w1_in inner) (h : rd_rest cs n inner i k a M = .ok (a', M')) (hw : mg_w1 M) : mg_w1 M' := by
  unfold rd_rest at h
  split at h
  · exact w1_brs hin 40 _ M _ _ h hw
  · split at h
    · cases h
    · next a1 M1 ho =>
      refine w1_brs hin 40 _ M1 _ _ h ?_
      unfold rd_off at ho
      split at ho
      · split at ho
        · cases ho
        · next a2 v hv =>
          cases ho
          exact hw.off (rd_num_2 hc hv)
      · cases ho
        exact hw
theorem w1_arg {cs : List Nat} {n a a' : Nat} {M M' : mg} {inner : Option (Bool → Nat → mg → rd_R)} (hc : ∀ j, sb_lk cs n j < 128) (hin : w1_in inner) (h : rd_arg cs n inner a M = .ok (a', M')) (hw : mg_w1 M) : mg_w1 M' := by
  unfold rd_arg at h
  split at h
  · cases h
  · split at h
    · cases h
      exact hw.add (by omega) (by omega)
    · split at h
      · unfold rd_typed at h
        split at h
        · cases h
        next hk =>
        have hk3 := rd_kind_2 hk
        split at h
        · split at h
          · cases h
            exact hw.add rd_kind_8 (by omega)
          · cases h
        · split at h
          · exact w1_rest hc hin h (hw.add rd_kind_8 (by omega))
          · cases h
      · cases h
theorem w1_loop {cs : List Nat} {n : Nat} {dbl top signs : Bool} {inner : Option (Bool → Nat → mg → rd_R)} (hc : ∀ j, sb_lk cs n j < 128) (hin : w1_in inner) : ∀ f a M a' M', rd_loop cs n dbl inner top signs f a M = .ok (a', M') → mg_w1 M → mg_w1 M'
  | 0, a, M, a', M', h, hw => by
    rw [rd_loop] at h
    cases h
    exact hw
  | f + 1, a, M, a', M', h, hw => by
    rw [rd_loop] at h
    split at h
    · cases h
      exact hw
    split at h
    · exact w1_loop hc hin f _ _ _ _ h (w1_apos hc hw)
    split at h
    · split at h
      · cases h
      · next hq => exact w1_loop hc hin f _ _ _ _ h (w1_arg hc hin hq hw)
    · refine w1_loop hc hin f _ _ _ _ h (hw.add (by split <;> omega) (fun z => ⟨_, hc a, rfl⟩))
theorem w1_msg {cs : List Nat} {n : Nat} {dbl : Bool} (hc : ∀ j, sb_lk cs n j < 128) : ∀ D top signs a M a' M', rd_msg cs n dbl D top signs a M = .ok (a', M') → mg_w1 M → mg_w1 M'
  | 0, top, signs, a, M, a', M', h, hw => w1_loop hc (fun fn hf => by cases hf) 120 a M a' M' h hw
  | D + 1, top, signs, a, M, a', M', h, hw => w1_loop hc (fun fn hf sg a M a' M' q hw => by cases hf; exact w1_msg hc D false sg a M a' M' q hw) 120 a M a' M' h hw
theorem mg_wf_of {cs : List Nat} {n a' : Nat} {dbl : Bool} {M M' : mg} (hc : ∀ j, sb_lk cs n j < 128) (h : rd_msg cs n dbl 3 true false 0 (mg_clr M) = .ok (a', M')) (hP : mg_P M' ≤ 120) : mg_wf M' := by
  have hw := w1_msg hc 3 true false 0 (mg_clr M) a' M' h ⟨fun i hi => absurd hi (Nat.not_lt_zero _), fun b hb => absurd hb (Nat.not_lt_zero _)⟩
  refine ⟨fun i hi => ?_, fun b hb => ?_⟩
  · have := hw.1 i hi
    exact ⟨this.1, this.2.1, by omega, this.2.2.2⟩
  · have := hw.2 b hb
    omega
