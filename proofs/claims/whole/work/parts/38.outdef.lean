/-! The class Output: its cell at u, its characters at u + 1. -/
def sb_oc (u k : Nat) : am_C := (7, [.ref (u + 1), .int (Int32.ofNat k)])
/-- what has been written is w -/
def sb_O (A : am_H) (u : Nat) (w : List Nat) : Prop := ∃ cs : List Nat, A[u]? = some (sb_oc u w.length) ∧ A[u + 1]? = some (102, cs.map sb_c) ∧ cs.length = 160 ∧ w.length ≤ 160 ∧ cs.take w.length = w ∧ 45 ≤ u
theorem sb_O.same {A B : am_H} {u : Nat} {w : List Nat} (h : sb_O A u w) (h1 : B[u]? = A[u]?) (h2 : B[u + 1]? = A[u + 1]?) : sb_O B u w := by
  obtain ⟨cs, a1, a2, a3⟩ := h
  exact ⟨cs, by rw [h1]; exact a1, by rw [h2]; exact a2, a3⟩
theorem sb_take_set {cs w : List Nat} {x : Nat} (h : cs.take w.length = w) (hl : w.length < cs.length) : (cs.set w.length x).take (w ++ [x]).length = w ++ [x] := by
  apply List.ext_getElem?
  intro i
  rw [List.length_append, List.length_singleton]
  by_cases h1 : i < w.length + 1
  · rw [List.getElem?_take_of_lt h1, List.getElem?_set]
    by_cases h2 : w.length = i
    · subst h2
      simp [hl]
    · rw [if_neg h2, List.getElem?_append_left (by omega)]
      have h3 : (cs.take w.length)[i]? = w[i]? := by rw [h]
      rw [List.getElem?_take_of_lt (by omega)] at h3
      exact h3
  · rw [List.getElem?_eq_none (by simp; omega), List.getElem?_eq_none (by simp; omega)]
/-- how writing ends: l behind w if there is room, or full -/
def sb_res (w l : List Nat) (c : Int32) (w' : List Nat) : Prop := (w.length + l.length ≤ 160 ∧ c = 0 ∧ w' = w ++ l) ∨ (160 < w.length + l.length ∧ c = 3)
theorem sb_res.nil (w : List Nat) (h : w.length ≤ 160) : sb_res w [] 0 w := Or.inl ⟨by simpa using h, rfl, by simp⟩
theorem sb_res.app {w l l' w1 w2 : List Nat} {c : Int32} (h : sb_res w l 0 w1) (k : sb_res w1 l' c w2) : sb_res w (l ++ l') c w2 := by
  rcases h with ⟨h1, -, rfl⟩ | ⟨-, h2⟩
  · rcases k with ⟨k1, k2, rfl⟩ | ⟨k1, k2⟩
    · exact Or.inl ⟨by simp at k1 ⊢; omega, k2, by simp⟩
    · exact Or.inr ⟨by simp at k1 ⊢; omega, k2⟩
  · exact absurd h2 (by decide)
theorem sb_res.full {w l l' w1 : List Nat} {c : Int32} (h : sb_res w l c w1) (hc : c ≠ 0) : sb_res w (l ++ l') 3 w1 := by
  rcases h with ⟨-, h2, -⟩ | ⟨h1, -⟩
  · exact absurd h2 hc
  · exact Or.inr ⟨by simp; omega, rfl⟩
/-- a writer that puts l behind what there is -/
def sb_wrt (d y : Nat) (as : List Value) (A : am_H) (u : Nat) (w l : List Nat) : Prop := ∃ B c w', am_go d y as A (.inl (some (.int c)), B) ∧ sb_res w l c w' ∧ sb_O B u w' ∧ sb_fr A B u (u + 2)
theorem wp_goC {d m u : Nat} {as : List Value} {A : am_H} {w l : List Nat} (h : am_wp d m (0, am_ent m as, [], A) (fun q => ∃ c w', q.1 = .inl (some (.int c)) ∧ sb_res w l c w' ∧ sb_O q.2 u w' ∧ sb_fr A q.2 u (u + 2))) : sb_wrt d m as A u w l := by
  obtain ⟨⟨o, B⟩, h1, c, w', h2, h3⟩ := h
  dsimp only at h2
  subst h2
  exact ⟨B, c, w', h1, h3⟩
