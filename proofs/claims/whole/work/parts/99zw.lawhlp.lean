/-! The law's helpers: a call of the class whose exceptions are told by numbers. -/
section HP
variable {d : Nat} {A : am_H} {vs : List Value} {Q R : am_O × am_H → Prop}
theorem hp_20 {x c : Int32} (hd : 1 ≤ d) (hA : A[45]? = some (0, vs)) (hw : am_wp (d - 1) 21 (0, am_ent 21 [.ref 45, .int x, .int c], [], A) R) (hr : ∀ q, R q → (q.1 = .inl none ∧ Q (.inl (some (.int (Int32.ofNat 0))), q.2)) ∨ (∃ y, q.1 = .inr y ∧ am_knd q.2 y = 210 ∧ Q (.inl (some (.int (Int32.ofNat 1))), q.2))) : am_wp d 20 (0, am_ent 20 [.ref 45, .int x, .int c], [], A) Q := by
  obtain ⟨⟨o, B⟩, g, hq⟩ := hw
  refine wp_st 3 (f' := (3, [some (.ref 45), some (.int x), some (.int c), none], [.int c, .int x, .ref 45], A)) rfl ?_
  rcases hr _ hq with ⟨h1, h2⟩ | ⟨y, h1, h2, h3⟩
  · dsimp only at h1 h2
    subst h1
    refine wp_cv (A' := B) (v := none) rfl rfl rfl rfl rfl hA hd g rfl ?_
    refine wp_st 2 (f' := (13, [some (.ref 45), some (.int x), some (.int c), none], [.int (Int32.ofNat 0)], B)) rfl ?_
    exact wp_rt rfl rfl rfl h2
  · dsimp only at h1 h2 h3
    subst h1
    refine wp_cx (h' := 9) rfl rfl rfl rfl rfl hA hd g (by rw [h2]; rfl) ?_
    refine wp_st 2 (f' := (11, [some (.ref 45), some (.int x), some (.int c), some (.ref y)], [.int (Int32.ofNat 1)], B)) rfl ?_
    exact wp_rt rfl rfl rfl h3
theorem hp_63 {c : Int32} (hd : 1 ≤ d) (hA : A[45]? = some (0, vs)) (hw : am_wp (d - 1) 64 (0, am_ent 64 [.ref 45, .int c], [], A) R) (hr : ∀ q, R q → (q.1 = .inl none ∧ Q (.inl (some (.int (Int32.ofNat 0))), q.2)) ∨ (∃ y, q.1 = .inr y ∧ am_knd q.2 y = 210 ∧ Q (.inl (some (.int (Int32.ofNat 1))), q.2))) : am_wp d 63 (0, am_ent 63 [.ref 45, .int c], [], A) Q := by
  obtain ⟨⟨o, B⟩, g, hq⟩ := hw
  refine wp_st 2 (f' := (2, [some (.ref 45), some (.int c), none], [.int c, .ref 45], A)) rfl ?_
  rcases hr _ hq with ⟨h1, h2⟩ | ⟨y, h1, h2, h3⟩
  · dsimp only at h1 h2
    subst h1
    refine wp_cv (A' := B) (v := none) rfl rfl rfl rfl rfl hA hd g rfl ?_
    refine wp_st 2 (f' := (12, [some (.ref 45), some (.int c), none], [.int (Int32.ofNat 0)], B)) rfl ?_
    exact wp_rt rfl rfl rfl h2
  · dsimp only at h1 h2 h3
    subst h1
    refine wp_cx (h' := 8) rfl rfl rfl rfl rfl hA hd g (by rw [h2]; rfl) ?_
    refine wp_st 2 (f' := (10, [some (.ref 45), some (.int c), some (.ref y)], [.int (Int32.ofNat 1)], B)) rfl ?_
    exact wp_rt rfl rfl rfl h3
theorem hp_84 {x c : Int32} {y : Int64} (hd : 1 ≤ d) (hA : A[45]? = some (0, vs)) (hw : am_wp (d - 1) 85 (0, am_ent 85 [.ref 45, .int x, .long y, .int c], [], A) R) (hr : ∀ q, R q → (q.1 = .inl none ∧ Q (.inl (some (.int (Int32.ofNat 0))), q.2)) ∨ (∃ y, q.1 = .inr y ∧ ((am_knd q.2 y = 210 ∧ Q (.inl (some (.int (Int32.ofNat 1))), q.2)) ∨ (am_knd q.2 y = 211 ∧ Q (.inl (some (.int (Int32.ofNat 2))), q.2))))) : am_wp d 84 (0, am_ent 84 [.ref 45, .int x, .long y, .int c], [], A) Q := by
  obtain ⟨⟨o, B⟩, g, hq⟩ := hw
  refine wp_st 4 (f' := (5, [some (.ref 45), some (.int x), some (.long y), none, some (.int c), none], [.int c, .long y, .int x, .ref 45], A)) rfl ?_
  rcases hr _ hq with ⟨h1, h2⟩ | ⟨e, h1, ⟨h2, h3⟩ | ⟨h2, h3⟩⟩
  · dsimp only at h1 h2
    subst h1
    refine wp_cv (A' := B) (v := none) rfl rfl rfl rfl rfl hA hd g rfl ?_
    refine wp_st 2 (f' := (20, [some (.ref 45), some (.int x), some (.long y), none, some (.int c), none], [.int (Int32.ofNat 0)], B)) rfl ?_
    exact wp_rt rfl rfl rfl h2
  · dsimp only at h1 h2 h3
    subst h1
    refine wp_cx (h' := 11) rfl rfl rfl rfl rfl hA hd g (by rw [h2]; rfl) ?_
    refine wp_st 2 (f' := (14, [some (.ref 45), some (.int x), some (.long y), none, some (.int c), some (.ref e)], [.int (Int32.ofNat 1)], B)) rfl ?_
    exact wp_rt rfl rfl rfl h3
  · dsimp only at h1 h2 h3
    subst h1
    refine wp_cx (h' := 15) rfl rfl rfl rfl rfl hA hd g (by rw [h2]; rfl) ?_
    refine wp_st 2 (f' := (18, [some (.ref 45), some (.int x), some (.long y), none, some (.int c), some (.ref e)], [.int (Int32.ofNat 2)], B)) rfl ?_
    exact wp_rt rfl rfl rfl h3
theorem hp_89 {x c : Int32} (hd : 1 ≤ d) (hA : A[45]? = some (0, vs)) (hw : am_wp (d - 1) 90 (0, am_ent 90 [.ref 45, .int x, .int c], [], A) R) (hr : ∀ q, R q → (q.1 = .inl none ∧ Q (.inl (some (.int (Int32.ofNat 0))), q.2)) ∨ (∃ y, q.1 = .inr y ∧ ((am_knd q.2 y = 210 ∧ Q (.inl (some (.int (Int32.ofNat 1))), q.2)) ∨ (am_knd q.2 y = 211 ∧ Q (.inl (some (.int (Int32.ofNat 2))), q.2))))) : am_wp d 89 (0, am_ent 89 [.ref 45, .int x, .int c], [], A) Q := by
  obtain ⟨⟨o, B⟩, g, hq⟩ := hw
  refine wp_st 3 (f' := (3, [some (.ref 45), some (.int x), some (.int c), none], [.int c, .int x, .ref 45], A)) rfl ?_
  rcases hr _ hq with ⟨h1, h2⟩ | ⟨e, h1, ⟨h2, h3⟩ | ⟨h2, h3⟩⟩
  · dsimp only at h1 h2
    subst h1
    refine wp_cv (A' := B) (v := none) rfl rfl rfl rfl rfl hA hd g rfl ?_
    refine wp_st 2 (f' := (16, [some (.ref 45), some (.int x), some (.int c), none], [.int (Int32.ofNat 0)], B)) rfl ?_
    exact wp_rt rfl rfl rfl h2
  · dsimp only at h1 h2 h3
    subst h1
    refine wp_cx (h' := 9) rfl rfl rfl rfl rfl hA hd g (by rw [h2]; rfl) ?_
    refine wp_st 2 (f' := (11, [some (.ref 45), some (.int x), some (.int c), some (.ref e)], [.int (Int32.ofNat 1)], B)) rfl ?_
    exact wp_rt rfl rfl rfl h3
  · dsimp only at h1 h2 h3
    subst h1
    refine wp_cx (h' := 12) rfl rfl rfl rfl rfl hA hd g (by rw [h2]; rfl) ?_
    refine wp_st 2 (f' := (14, [some (.ref 45), some (.int x), some (.int c), some (.ref e)], [.int (Int32.ofNat 2)], B)) rfl ?_
    exact wp_rt rfl rfl rfl h3
theorem hp_91 {x c : Int32} {y : Int64} (hd : 1 ≤ d) (hA : A[45]? = some (0, vs)) (hw : am_wp (d - 1) 92 (0, am_ent 92 [.ref 45, .int x, .long y, .int c], [], A) R) (hr : ∀ q, R q → (∃ v y0, q.1 = .inl (some (.int v)) ∧ q.2[166]? = some (101, [.long y0]) ∧ Q (.inl (some (.int (Int32.ofNat 0))), q.2.set 166 (101, [.long v.toInt64]))) ∨ (∃ y, q.1 = .inr y ∧ am_knd q.2 y = 210 ∧ Q (.inl (some (.int (Int32.ofNat 1))), q.2))) : am_wp d 91 (0, am_ent 91 [.ref 45, .int x, .long y, .int c, .ref 166], [], A) Q := by
  obtain ⟨⟨o, B⟩, g, hq⟩ := hw
  refine wp_st 6 (f' := (8, [some (.ref 45), some (.int x), some (.long y), none, some (.int c), some (.ref 166), none], [.int c, .long y, .int x, .ref 45, .int (Int32.ofNat 0), .ref 166], A)) rfl ?_
  rcases hr _ hq with ⟨v, y0, h1, h4, h2⟩ | ⟨e, h1, h2, h3⟩
  · dsimp only at h1 h2 h4
    subst h1
    refine wp_cv (A' := B) (v := some (.int v)) rfl rfl rfl rfl rfl hA hd g rfl ?_
    refine wp_st 1 (f' := (12, [some (.ref 45), some (.int x), some (.long y), none, some (.int c), some (.ref 166), none], [.long v.toInt64, .int (Int32.ofNat 0), .ref 166], B)) rfl ?_
    refine wp_ls (n := 0) (A' := B.set 166 (101, [.long v.toInt64])) rfl h4 (by omega) (show 0 < 1 by omega) rfl rfl rfl ?_
    refine wp_st 2 (f' := (21, [some (.ref 45), some (.int x), some (.long y), none, some (.int c), some (.ref 166), none], [.int (Int32.ofNat 0)], B.set 166 (101, [.long v.toInt64]))) rfl ?_
    exact wp_rt rfl rfl rfl h2
  · dsimp only at h1 h2 h3
    subst h1
    refine wp_cx (h' := 16) rfl rfl rfl rfl rfl hA hd g (by rw [h2]; rfl) ?_
    refine wp_st 2 (f' := (19, [some (.ref 45), some (.int x), some (.long y), none, some (.int c), some (.ref 166), some (.ref e)], [.int (Int32.ofNat 1)], B)) rfl ?_
    exact wp_rt rfl rfl rfl h3
theorem hp_98 {x c : Int32} (hd : 1 ≤ d) (hA : A[45]? = some (0, vs)) (hw : am_wp (d - 1) 99 (0, am_ent 99 [.ref 45, .int x, .int c], [], A) R) (hr : ∀ q, R q → (∃ v y0, q.1 = .inl (some (.int v)) ∧ q.2[166]? = some (101, [.long y0]) ∧ Q (.inl (some (.int (Int32.ofNat 0))), q.2.set 166 (101, [.long v.toInt64]))) ∨ (∃ y, q.1 = .inr y ∧ ((am_knd q.2 y = 210 ∧ Q (.inl (some (.int (Int32.ofNat 1))), q.2)) ∨ (am_knd q.2 y = 213 ∧ Q (.inl (some (.int (Int32.ofNat 2))), q.2)) ∨ (am_knd q.2 y = 211 ∧ Q (.inl (some (.int (Int32.ofNat 3))), q.2)) ∨ (am_knd q.2 y = 212 ∧ Q (.inl (some (.int (Int32.ofNat 4))), q.2))))) : am_wp d 98 (0, am_ent 98 [.ref 45, .int x, .int c, .ref 166], [], A) Q := by
  obtain ⟨⟨o, B⟩, g, hq⟩ := hw
  refine wp_st 5 (f' := (5, [some (.ref 45), some (.int x), some (.int c), some (.ref 166), none], [.int c, .int x, .ref 45, .int (Int32.ofNat 0), .ref 166], A)) rfl ?_
  rcases hr _ hq with ⟨v, y0, h1, h4, h2⟩ | ⟨e, h1, ⟨h2, h3⟩ | ⟨h2, h3⟩ | ⟨h2, h3⟩ | ⟨h2, h3⟩⟩
  · dsimp only at h1 h2 h4
    subst h1
    refine wp_cv (A' := B) (v := some (.int v)) rfl rfl rfl rfl rfl hA hd g rfl ?_
    refine wp_st 1 (f' := (9, [some (.ref 45), some (.int x), some (.int c), some (.ref 166), none], [.long v.toInt64, .int (Int32.ofNat 0), .ref 166], B)) rfl ?_
    refine wp_ls (n := 0) (A' := B.set 166 (101, [.long v.toInt64])) rfl h4 (by omega) (show 0 < 1 by omega) rfl rfl rfl ?_
    refine wp_st 2 (f' := (30, [some (.ref 45), some (.int x), some (.int c), some (.ref 166), none], [.int (Int32.ofNat 0)], B.set 166 (101, [.long v.toInt64]))) rfl ?_
    exact wp_rt rfl rfl rfl h2
  · dsimp only at h1 h2 h3
    subst h1
    refine wp_cx (h' := 13) rfl rfl rfl rfl rfl hA hd g (by rw [h2]; rfl) ?_
    refine wp_st 2 (f' := (16, [some (.ref 45), some (.int x), some (.int c), some (.ref 166), some (.ref e)], [.int (Int32.ofNat 1)], B)) rfl ?_
    exact wp_rt rfl rfl rfl h3
  · dsimp only at h1 h2 h3
    subst h1
    refine wp_cx (h' := 17) rfl rfl rfl rfl rfl hA hd g (by rw [h2]; rfl) ?_
    refine wp_st 2 (f' := (20, [some (.ref 45), some (.int x), some (.int c), some (.ref 166), some (.ref e)], [.int (Int32.ofNat 2)], B)) rfl ?_
    exact wp_rt rfl rfl rfl h3
  · dsimp only at h1 h2 h3
    subst h1
    refine wp_cx (h' := 21) rfl rfl rfl rfl rfl hA hd g (by rw [h2]; rfl) ?_
    refine wp_st 2 (f' := (24, [some (.ref 45), some (.int x), some (.int c), some (.ref 166), some (.ref e)], [.int (Int32.ofNat 3)], B)) rfl ?_
    exact wp_rt rfl rfl rfl h3
  · dsimp only at h1 h2 h3
    subst h1
    refine wp_cx (h' := 25) rfl rfl rfl rfl rfl hA hd g (by rw [h2]; rfl) ?_
    refine wp_st 2 (f' := (28, [some (.ref 45), some (.int x), some (.int c), some (.ref 166), some (.ref e)], [.int (Int32.ofNat 4)], B)) rfl ?_
    exact wp_rt rfl rfl rfl h3
end HP
