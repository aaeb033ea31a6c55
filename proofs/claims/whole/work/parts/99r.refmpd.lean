/-! What a step of the reader keeps, without the heap. -/
/-- bounds, and which open branches are of numbers -/
def ml_P (n : Nat) (ob : Nat → Nat) (sg : Nat → Bool) (L : Nat) (M : mg) (a : Nat) : Prop := a ≤ n ∧ mg_P M ≤ a ∧ 3 * mg_B M ≤ a ∧ 3 * mg_ct (mg_k M) (mg_P M) ≤ a ∧ ∀ l, 1 ≤ l → l ≤ L → ob l < mg_B M ∧ mg_w M (ob l) < mg_P M ∧ decide (mg_k M (mg_w M (ob l)) ≠ 6) = sg l
theorem ml_P.add {n L a a' k : Nat} {ob : Nat → Nat} {sg : Nat → Bool} {M : mg} {x : Int32} (h : ml_P n ob sg L M a) (h1 : a' ≤ n) (h2 : a + 1 ≤ a') (h3 : 2 ≤ k → a + 3 ≤ a') : ml_P n ob sg L (mg_add M k x) a' := by
  obtain ⟨q1, q2, q3, q4, q5⟩ := h
  have e : mg_ct (mg_k (mg_add M k x)) (mg_P (mg_add M k x)) = mg_ct (mg_k M) (mg_P M) + if 2 ≤ k then 1 else 0 := by
    show mg_ct (up_ (mg_k M) (mg_P M) k) (mg_P M + 1) = _
    rw [mg_ct, mg_ct_up (Nat.le_refl _), up_eq]
  refine ⟨h1, by rw [mg_add_P]; omega, by rw [mg_add_B]; omega, ?_, fun l h4 h5 => ?_⟩
  · rw [e]
    split
    · next z => have := h3 z; omega
    · omega
  · have := q5 l h4 h5
    refine ⟨this.1, by show mg_w M (ob l) < mg_P M + 1; omega, ?_⟩
    show decide (up_ (mg_k M) (mg_P M) k (mg_w M (ob l)) ≠ 6) = sg l
    rw [up_ne (by omega)]
    exact this.2.2
theorem ml_P.mono {n L a a' : Nat} {ob : Nat → Nat} {sg : Nat → Bool} {M : mg} (h : ml_P n ob sg L M a) (h1 : a' ≤ n) (h2 : a ≤ a') : ml_P n ob sg L M a' := by
  obtain ⟨q1, q2, q3, q4, q5⟩ := h
  exact ⟨h1, by omega, by omega, by omega, q5⟩
theorem ml_P.quote {cs : List Nat} {n L : Nat} {ob : Nat → Nat} {sg : Nat → Bool} : ∀ k a M, ml_P n ob sg L M a → ml_P n ob sg L (rd_quote cs n k a M).2 (rd_quote cs n k a M).1
  | 0, a, M, h => h
  | k + 1, a, M, h => by
    rw [rd_quote]
    by_cases h1 : n ≤ a
    · rw [if_pos h1]; exact h
    rw [if_neg h1]
    by_cases h2 : sb_lk cs n a = 39
    · rw [if_pos h2]
      by_cases h3 : sb_lk cs n (a + 1) = 39
      · rw [if_pos h3]
        have h4 : a + 1 < n := sb_lk_pos (cs := cs) (by omega)
        exact ml_P.quote k (a + 2) _ (h.add (by omega) (by omega) (by omega))
      · rw [if_neg h3]
        exact h.mono (by omega) (by omega)
    · rw [if_neg h2]
      exact ml_P.quote k (a + 1) _ (h.add (by omega) (by omega) (by omega))
theorem ml_P.apos {cs : List Nat} {n L a : Nat} {ob : Nat → Nat} {sg : Nat → Bool} {M : mg} {dbl signs : Bool} (ha : a < n) (h : ml_P n ob sg L M a) : ml_P n ob sg L (rd_apos cs n dbl signs a M).2 (rd_apos cs n dbl signs a M).1 := by
  unfold rd_apos
  by_cases h1 : sb_lk cs n (a + 1) = 39
  · rw [if_pos h1]
    have h4 : a + 1 < n := sb_lk_pos (cs := cs) (by omega)
    exact h.add (by omega) (by omega) (by omega)
  rw [if_neg h1]
  split
  · exact ml_P.quote 120 (a + 1) M (h.mono (by omega) (by omega))
  · exact h.add (by omega) (by omega) (by omega)
theorem ml_P.off {n L a i v : Nat} {ob : Nat → Nat} {sg : Nat → Bool} {M : mg} (h : ml_P n ob sg L M a) : ml_P n ob sg L (mg_off M i v) a := h
theorem ml_P.cla {n L a i : Nat} {ob : Nat → Nat} {sg : Nat → Bool} {M : mg} (h : ml_P n ob sg L M a) : ml_P n ob sg L (mg_cla M i) a := h
theorem ml_P.clb {n L a j : Nat} {ob : Nat → Nat} {sg : Nat → Bool} {M : mg} (h : ml_P n ob sg (L + 1) M a) : ml_P n ob sg L (mg_clb M j) a := by
  obtain ⟨q1, q2, q3, q4, q5⟩ := h
  exact ⟨q1, q2, q3, q4, fun l h1 h2 => q5 l h1 (by omega)⟩
theorem ml_P.opn {n L a a' i : Nat} {ob : Nat → Nat} {sg : Nat → Bool} {M : mg} {se : Int64} (h : ml_P n ob sg L M a) (hi : i < mg_P M) (h1 : a' ≤ n) (h2 : a + 3 ≤ a' ∨ (3 * mg_B M + 3 ≤ a' ∧ a ≤ a')) : ml_P n (up_ ob (L + 1) (mg_B M)) (up_ sg (L + 1) (decide (mg_k M i ≠ 6))) (L + 1) (mg_addb M i se) a' := by
  obtain ⟨q1, q2, q3, q4, q5⟩ := h
  refine ⟨h1, by show mg_P M ≤ a'; omega, by show 3 * (mg_B M + 1) ≤ a'; omega, by show 3 * mg_ct (mg_k M) (mg_P M) ≤ a'; omega, fun l h4 h5 => ?_⟩
  show up_ ob (L + 1) (mg_B M) l < mg_B M + 1 ∧ up_ (mg_w M) (mg_B M) i (up_ ob (L + 1) (mg_B M) l) < mg_P M ∧ decide (mg_k M (up_ (mg_w M) (mg_B M) i (up_ ob (L + 1) (mg_B M) l)) ≠ 6) = up_ sg (L + 1) (decide (mg_k M i ≠ 6)) l
  by_cases e : l = L + 1
  · subst e
    rw [up_eq, up_eq, up_eq]
    exact ⟨by omega, hi, rfl⟩
  · have := q5 l h4 (by omega)
    rw [up_ne e, up_ne e, up_ne (by omega)]
    exact ⟨by omega, this.2⟩
/-- the reader at the place a, ready for a part of level L -/
def ml_G (A0 : am_H) (s0 : rf_S) (b n : Nat) (M : mg) (L : Nat) (lp : Nat → Option Nat) (ob : Nat → Nat) (sg : Nat → Bool) (a : Nat) (A : am_H) : Prop := ml_H A0 s0 b M L lp ob a A ∧ ml_P n ob sg L M a
/-- what a step that may open a branch leaves -/
def mb_R (A0 : am_H) (s0 : rf_S) (b n : Nat) (M : mg) (L i : Nat) (nu : Bool) (lp : Nat → Option Nat) (ob : Nat → Nat) (sg : Nat → Bool) (x : Except Nat ((Nat × mg) ⊕ (Nat × mg))) (A : am_H) : Prop := match x with
  | .error e => ml_E A0 s0 b n e A
  | .ok (.inl y) => ml_G A0 s0 b n y.2 L lp ob sg y.1 A
  | .ok (.inr y) => ml_G A0 s0 b n y.2 (L + 1) (up_ lp L (some i)) (up_ ob (L + 1) (mg_B M)) (up_ sg (L + 1) nu) y.1 A
def rd_bx (cs : List Nat) (n : Nat) (inner : Option (Bool → Nat → mg → rd_R)) (i k f B : Nat) (x : Except Nat ((Nat × mg) ⊕ (Nat × mg))) : rd_R := match x with
  | .error e => .error e
  | .ok (.inl y) => .ok y
  | .ok (.inr y) => match inner with
    | none => .error 0
    | some fn => match fn (decide (k ≠ 6)) y.1 y.2 with
      | .error e => .error e
      | .ok (a3, M3) => if sb_lk cs n a3 = 125 then rd_brs cs n inner i k f (rd_sk cs n (a3 + 1)) (mg_clb M3 B) else .error a3
theorem rd_brs_bo {cs : List Nat} {n L i k f a : Nat} {M : mg} {inner : Option (Bool → Nat → mg → rd_R)} (hin : inner = none ↔ L = 3) : rd_brs cs n inner i k (f + 1) (rd_sk cs n a) M = rd_bx cs n inner i k f (mg_B M) (rd_bo cs n L i (decide (k ≠ 6)) a M) := by
  rw [rd_brs]
  unfold rd_bo
  by_cases h1 : sb_lk cs n (rd_sk cs n a) = 125
  · rw [if_pos h1, if_pos h1]
    unfold rd_fin
    by_cases h2 : mg_bw M i sb_OTH (mg_B M) 0 = none
    · rw [if_pos h2, if_pos h2]; rfl
    · rw [if_neg h2, if_neg h2, if_pos h1]; rfl
  · rw [if_neg h1, if_neg h1]
    unfold rd_branch
    rcases hs : rd_sel cs n (decide (k ≠ 6)) (rd_sk cs n a) with e | ⟨a1, se⟩
    · rfl
    · dsimp only
      by_cases h3 : sb_lk cs n (rd_sk cs n a1) = 123
      · rw [if_neg (fun z => z h3), if_pos h3]
        rcases inner with _ | fn
        · rw [if_pos (hin.mp rfl)]; rfl
        · rw [if_neg (fun z => by have := hin.mpr z; cases this)]
          unfold rd_bx
          dsimp only
          rcases hf : fn (decide (k ≠ 6)) (rd_sk cs n a1 + 1) (mg_addb M i se) with e | ⟨a3, M3⟩
          · rfl
          · dsimp only
            by_cases h4 : sb_lk cs n a3 = 125
            · rw [if_pos h4, if_pos h4]
            · rw [if_neg h4, if_neg h4]
      · rw [if_pos h3, if_neg h3]; rfl
theorem rd_ab_cases {cs : List Nat} {n L a : Nat} {M : mg} (ha : a ≤ n) : (∃ e, rd_ab cs n L a M = .error e ∧ ∀ inner, rd_arg cs n inner a M = .error e) ∨ (∃ a' k x, rd_ab cs n L a M = .ok (.inl (a', mg_add M k x)) ∧ a + 2 ≤ a' ∧ a' ≤ n ∧ ∀ inner, rd_arg cs n inner a M = .ok (a', mg_add M k x)) ∨ (∃ k p M2, 6 ≤ k ∧ (∃ x, M2 = mg_add M k x ∨ ∃ v, M2 = mg_off (mg_add M k x) (mg_P M) v) ∧ a + 2 ≤ p ∧ p ≤ n ∧ rd_ab cs n L a M = rd_bo cs n L (mg_P M) (decide (k ≠ 6)) p M2 ∧ ∀ inner, rd_arg cs n inner a M = rd_brs cs n inner (mg_P M) k 40 (rd_sk cs n p) M2) := by
  have h1 := rd_sk_le (cs := cs) (n := n) (a := a) ha
  unfold rd_ab
  rcases hn : rd_name cs n (rd_sk cs n a) with e | ⟨a2, x⟩
  · exact Or.inl ⟨e, rfl, fun inner => by unfold rd_arg; rw [hn]⟩
  have h2 := rd_name_le (by omega) hn
  have h3 := rd_sk_le (cs := cs) (n := n) (a := a2) (by omega)
  dsimp only
  have harg : ∀ inner, rd_arg cs n inner a M = if sb_lk cs n (rd_sk cs n a2) = 125 then .ok (rd_sk cs n a2 + 1, mg_add M 2 x) else if sb_lk cs n (rd_sk cs n a2) = 44 then rd_typed cs n inner x (rd_sk cs n (rd_sk cs n a2 + 1)) M else .error (rd_sk cs n a2) := fun inner => by unfold rd_arg; rw [hn]
  by_cases q1 : sb_lk cs n (rd_sk cs n a2) = 125
  · rw [if_pos q1]
    have : rd_sk cs n a2 < n := sb_lk_pos (cs := cs) (by omega)
    exact Or.inr (Or.inl ⟨_, _, _, rfl, by omega, by omega, fun inner => by rw [harg, if_pos q1]⟩)
  rw [if_neg q1]
  by_cases q2 : sb_lk cs n (rd_sk cs n a2) = 44
  · rw [if_pos q2]
    have h4 : rd_sk cs n a2 < n := sb_lk_pos (cs := cs) (by omega)
    have harg2 : ∀ inner, rd_arg cs n inner a M = rd_typed cs n inner x (rd_sk cs n (rd_sk cs n a2 + 1)) M := fun inner => by rw [harg, if_neg q1, if_pos q2]
    have h5 := rd_sk_le (cs := cs) (n := n) (a := rd_sk cs n a2 + 1) (by omega)
    generalize rd_sk cs n (rd_sk cs n a2 + 1) = p at h5 harg2 ⊢
    have h6 := sb_re_le (lo := 97) (hi := 122) (cs := cs) (n := n) (a := p)
    have h7 := h6.2.1 (by omega)
    have h8 := rd_sk_le (cs := cs) (n := n) (a := sb_re 97 122 cs n p) h7
    unfold rd_tb
    by_cases q3 : rd_kind cs p (sb_re 97 122 cs n p) = 0
    · rw [if_pos q3]
      exact Or.inl ⟨_, rfl, fun inner => by rw [harg2, rd_typed, if_pos q3]⟩
    rw [if_neg q3]
    by_cases q4 : rd_kind cs p (sb_re 97 122 cs n p) < 6
    · rw [if_pos q4]
      by_cases q5 : sb_lk cs n (rd_sk cs n (sb_re 97 122 cs n p)) = 125
      · rw [if_pos q5]
        have : rd_sk cs n (sb_re 97 122 cs n p) < n := sb_lk_pos (cs := cs) (by omega)
        exact Or.inr (Or.inl ⟨_, _, _, rfl, by omega, by omega, fun inner => by rw [harg2, rd_typed, if_neg q3, if_pos q4, if_pos q5]⟩)
      · rw [if_neg q5]
        exact Or.inl ⟨_, rfl, fun inner => by rw [harg2, rd_typed, if_neg q3, if_pos q4, if_neg q5]⟩
    rw [if_neg q4]
    by_cases q5 : sb_lk cs n (rd_sk cs n (sb_re 97 122 cs n p)) = 44
    · rw [if_pos q5]
      have h9 : rd_sk cs n (sb_re 97 122 cs n p) < n := sb_lk_pos (cs := cs) (by omega)
      have harg3 : ∀ inner, rd_arg cs n inner a M = rd_rest cs n inner (mg_P M) (rd_kind cs p (sb_re 97 122 cs n p)) (rd_sk cs n (sb_re 97 122 cs n p) + 1) (mg_add M (rd_kind cs p (sb_re 97 122 cs n p)) x) := fun inner => by rw [harg2, rd_typed, if_neg q3, if_neg q4, if_pos q5]
      have h10 := rd_sk_le (cs := cs) (n := n) (a := rd_sk cs n (sb_re 97 122 cs n p) + 1) (by omega)
      unfold rd_tr
      by_cases q6 : rd_kind cs p (sb_re 97 122 cs n p) = 6
      · rw [if_pos q6]
        exact Or.inr (Or.inr ⟨_, _, _, by omega, ⟨x, Or.inl rfl⟩, by omega, by omega, rfl, fun inner => by rw [harg3, rd_rest, if_pos q6]⟩)
      · rw [if_neg q6]
        rcases ho : rd_off cs n (mg_P M) (rd_sk cs n (rd_sk cs n (sb_re 97 122 cs n p) + 1)) (mg_add M (rd_kind cs p (sb_re 97 122 cs n p)) x) with e | ⟨a', M'⟩
        · exact Or.inl ⟨e, rfl, fun inner => by rw [harg3, rd_rest, if_neg q6, ho]⟩
        · have h11 := rd_off_le (by omega) ho
          unfold rd_le at h11
          have hM : M' = mg_add M (rd_kind cs p (sb_re 97 122 cs n p)) x ∨ ∃ v, M' = mg_off (mg_add M (rd_kind cs p (sb_re 97 122 cs n p)) x) (mg_P M) v := by
            unfold rd_off at ho
            split at ho
            · split at ho
              · cases ho
              · cases ho; exact Or.inr ⟨_, rfl⟩
            · cases ho; exact Or.inl rfl
          exact Or.inr (Or.inr ⟨_, _, _, by omega, ⟨x, hM⟩, by omega, by omega, rfl, fun inner => by rw [harg3, rd_rest, if_neg q6, ho]⟩)
    · rw [if_neg q5]
      exact Or.inl ⟨_, rfl, fun inner => by rw [harg2, rd_typed, if_neg q3, if_neg q4, if_neg q5]⟩
  · rw [if_neg q2]
    exact Or.inl ⟨_, rfl, fun inner => by rw [harg, if_neg q1, if_neg q2]⟩
