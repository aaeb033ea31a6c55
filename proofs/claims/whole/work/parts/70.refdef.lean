/-! The reference: its cell at b (kind 11), its rows behind it, as a function of field and place. -/
abbrev rf_S : Type := Nat → Nat → Value
def rf_u (s : rf_S) (j i : Nat) (v : Value) : rf_S := fun j' i' => bif Nat.beq j' j && Nat.beq i' i then v else s j' i'
def rf_len (j : Nat) : Nat := [0, 0, 120, 0, 3, 3, 384, 384, 384, 192, 192, 192, 192, 192, 192, 192, 192, 0, 0, 0, 0, 0, 0, 4, 4, 4, 4, 0, 0, 0, 24, 24, 144, 144, 144, 144, 144, 144, 192, 192, 0, 0, 0, 6, 6, 6, 6, 160, 0, 160, 0, 4, 4, 4].getD j 0
def rf_off (j : Nat) : Nat := [0, 0, 1, 0, 2, 3, 4, 5, 6, 7, 8, 9, 10, 11, 12, 13, 14, 0, 0, 0, 0, 0, 0, 15, 16, 17, 18, 0, 0, 0, 19, 20, 21, 22, 23, 24, 25, 26, 27, 28, 0, 0, 0, 29, 30, 31, 32, 33, 0, 34, 0, 35, 36, 37].getD j 0
def rf_knd (j : Nat) : Nat := [0, 0, 100, 0, 103, 100, 100, 100, 100, 100, 100, 100, 100, 103, 101, 100, 100, 0, 0, 0, 0, 0, 0, 100, 100, 100, 103, 0, 0, 0, 100, 100, 100, 100, 103, 103, 100, 100, 100, 100, 0, 0, 0, 100, 103, 101, 100, 100, 0, 100, 0, 100, 101, 100].getD j 0
def rf_v (b : Nat) (s : rf_S) (j : Nat) : Value := bif Nat.beq (rf_len j) 0 then s j 0 else .ref (b + rf_off j)
def rf_obj (b : Nat) (s : rf_S) : List Value := (List.range 54).map (rf_v b s)
def rf (A : am_H) (b : Nat) (s : rf_S) : Prop := A[b]? = some (11, rf_obj b s) ∧ (∀ j, j < 54 → rf_len j ≠ 0 → A[b + rf_off j]? = some (rf_knd j, (List.range (rf_len j)).map (s j))) ∧ 45 ≤ b
theorem rf_beq {a c : Nat} (h : a ≠ c) : Nat.beq a c = false := by
  cases hb : Nat.beq a c
  · rfl
  · exact absurd (Nat.eq_of_beq_eq_true hb) h
theorem rf_u_eq (s : rf_S) (j i : Nat) (v : Value) : rf_u s j i v j i = v := by simp [rf_u]
theorem rf_u_ne {s : rf_S} {j i j' i' : Nat} {v : Value} (h : j' ≠ j ∨ i' ≠ i) : rf_u s j i v j' i' = s j' i' := by
  unfold rf_u
  have : (Nat.beq j' j && Nat.beq i' i) = false := by
    rcases h with h | h
    · rw [show Nat.beq j' j = false from rf_beq h]; rfl
    · rw [show Nat.beq i' i = false from rf_beq h, Bool.and_false]
  rw [this]
  rfl
theorem rf_u_if (s : rf_S) (j i : Nat) (v : Value) (j' i' : Nat) : rf_u s j i v j' i' = if j' = j ∧ i' = i then v else s j' i' := by
  by_cases h : j' = j ∧ i' = i
  · obtain ⟨rfl, rfl⟩ := h
    rw [rf_u_eq, if_pos ⟨rfl, rfl⟩]
  · rw [if_neg h, rf_u_ne (by omega)]
theorem rf_u_u (s : rf_S) (j i : Nat) (v w : Value) : rf_u (rf_u s j i v) j i w = rf_u s j i w := by
  funext a c
  simp only [rf_u_if]
  split <;> rfl
theorem rf_u_self {s : rf_S} {j i : Nat} {v : Value} (h : s j i = v) : rf_u s j i v = s := by
  funext a c
  rw [rf_u_if]
  split
  · next q => rw [q.1, q.2, h]
  · rfl
theorem rf_u_comm (s : rf_S) {j i j' i' : Nat} (v w : Value) (h : j ≠ j' ∨ i ≠ i') : rf_u (rf_u s j i v) j' i' w = rf_u (rf_u s j' i' w) j i v := by
  funext a c
  simp only [rf_u_if]
  repeat' split
  all_goals first | rfl | omega
theorem rf_off_pos : ∀ {j : Nat}, j < 54 → rf_len j ≠ 0 → 0 < rf_off j ∧ rf_off j < 38 := by
  have h : ∀ x : Fin 54, rf_len x.val ≠ 0 → 0 < rf_off x.val ∧ rf_off x.val < 38 := by decide +kernel
  intro j hj
  exact h ⟨j, hj⟩
theorem rf_off_inj : ∀ {j k : Nat}, j < 54 → k < 54 → rf_len j ≠ 0 → rf_len k ≠ 0 → rf_off j = rf_off k → j = k := by
  have h : ∀ x y : Fin 54, rf_len x.val ≠ 0 → rf_len y.val ≠ 0 → rf_off x.val = rf_off y.val → x = y := by decide +kernel
  intro j k hj hk h1 h2 h3
  have := h ⟨j, hj⟩ ⟨k, hk⟩ h1 h2 h3
  exact congrArg Fin.val this
theorem rf_obj_get {b j : Nat} {s : rf_S} (hj : j < 54) : (rf_obj b s)[j]? = some (rf_v b s j) := by
  unfold rf_obj
  rw [List.getElem?_map, List.getElem?_range hj]
  rfl
theorem rf_v_sc {b j : Nat} {s : rf_S} (h : rf_len j = 0) : rf_v b s j = s j 0 := by
  unfold rf_v
  rw [h]
  rfl
theorem rf_v_ar {b j : Nat} {s : rf_S} (h : rf_len j ≠ 0) : rf_v b s j = .ref (b + rf_off j) := by
  unfold rf_v
  rw [show Nat.beq (rf_len j) 0 = false from rf_beq h]
  rfl
theorem rf_obj_set {b j : Nat} {s : rf_S} {v : Value} (hj : j < 54) (hl : rf_len j = 0) : (rf_obj b s).set j v = rf_obj b (rf_u s j 0 v) := by
  apply List.ext_getElem?
  intro i
  rw [List.getElem?_set]
  by_cases h : j = i
  · subst h
    rw [if_pos rfl, if_pos (by simp [rf_obj, hj]), rf_obj_get hj, rf_v_sc hl, rf_u_eq]
  · rw [if_neg h]
    by_cases hi : i < 54
    · rw [rf_obj_get hi, rf_obj_get hi]
      unfold rf_v
      rw [rf_u_ne (Or.inl (fun q => h q.symm))]
    · rw [List.getElem?_eq_none (by simp [rf_obj]; omega), List.getElem?_eq_none (by simp [rf_obj]; omega)]
theorem rf_obj_u {b j i : Nat} {s : rf_S} {v : Value} (hl : rf_len j ≠ 0) : rf_obj b (rf_u s j i v) = rf_obj b s := by
  unfold rf_obj
  apply List.map_congr_left
  intro k _
  unfold rf_v
  by_cases h : k = j
  · subst h
    rw [show Nat.beq (rf_len k) 0 = false from rf_beq hl]
    rfl
  · rw [rf_u_ne (Or.inl h)]
theorem rf_row_set {n i : Nat} {f : Nat → Value} {v : Value} (g : Nat → Value) (h1 : g i = v) (h2 : ∀ k, k ≠ i → g k = f k) : ((List.range n).map f).set i v = (List.range n).map g := by
  apply List.ext_getElem?
  intro k
  rw [List.getElem?_set]
  by_cases hk : k < n
  · by_cases h : i = k
    · subst h
      rw [if_pos rfl, if_pos (by simp [hk]), List.getElem?_map, List.getElem?_range hk, Option.map_some, h1]
    · rw [if_neg h, List.getElem?_map, List.getElem?_map, List.getElem?_range hk, Option.map_some, Option.map_some, h2 k (fun q => h q.symm)]
  · rw [List.getElem?_eq_none (l := (List.range n).map g) (by simp; omega)]
    split
    · rw [if_neg (by simp; omega)]
    · rw [List.getElem?_eq_none (by simp; omega)]
theorem rf.put {A : am_H} {b j : Nat} {s : rf_S} {v : Value} (h : rf A b s) (hj : j < 54) (hl : rf_len j = 0) : rf (A.set b (11, (rf_obj b s).set j v)) b (rf_u s j 0 v) ∧ sb_fr A (A.set b (11, (rf_obj b s).set j v)) b (b + 38) := by
  obtain ⟨h1, h2, h3⟩ := h
  refine ⟨⟨?_, fun k hk hkl => ?_, h3⟩, (sb_fr.refl A b (b + 38)).set rfl h1 (by simp) (by omega) (by omega)⟩
  · rw [rf_obj_set hj hl]
    exact sb_ss h1
  · have hp := rf_off_pos hk hkl
    rw [sb_so (by omega) (h2 k hk hkl)]
    congr 2
    apply List.map_congr_left
    intro i _
    rw [rf_u_ne (Or.inl (fun q => hkl (by rw [q]; exact hl)))]
theorem rf.ast {A : am_H} {b j i : Nat} {s : rf_S} {v : Value} (h : rf A b s) (hj : j < 54) (hi : i < rf_len j) : rf (A.set (b + rf_off j) (rf_knd j, ((List.range (rf_len j)).map (s j)).set i v)) b (rf_u s j i v) ∧ sb_fr A (A.set (b + rf_off j) (rf_knd j, ((List.range (rf_len j)).map (s j)).set i v)) b (b + 38) := by
  obtain ⟨h1, h2, h3⟩ := h
  have hl : rf_len j ≠ 0 := by omega
  have hp := rf_off_pos hj hl
  refine ⟨⟨?_, fun k hk hkl => ?_, h3⟩, (sb_fr.refl A b (b + 38)).set rfl (h2 j hj hl) (by simp) (by omega) (by omega)⟩
  · rw [rf_obj_u hl]
    exact sb_so (by omega) h1
  · by_cases hkj : k = j
    · subst hkj
      rw [sb_ss (h2 k hk hkl)]
      congr 2
      exact rf_row_set _ (rf_u_eq ..) (fun q hq => rf_u_ne (Or.inr hq))
    · have hne : rf_off j ≠ rf_off k := fun q => hkj (rf_off_inj hk hj hkl hl q.symm)
      rw [sb_so (by omega) (h2 k hk hkl)]
      congr 2
      apply List.map_congr_left
      intro q _
      rw [rf_u_ne (Or.inl hkj)]
theorem rf.same {A B : am_H} {b : Nat} {s : rf_S} (h : rf A b s) (hs : ∀ q, b ≤ q → q < b + 38 → B[q]? = A[q]?) : rf B b s := by
  obtain ⟨h1, h2, h3⟩ := h
  refine ⟨by rw [hs _ (by omega) (by omega)]; exact h1, fun j hj hl => ?_, h3⟩
  have hp := rf_off_pos hj hl
  rw [hs _ (by omega) (by omega)]
  exact h2 j hj hl
section RW
variable {d m pc : Nat} {L : am_L} {S r : List Value} {A : am_H} {Q : am_O × am_H → Prop} {b : Nat} {s : rf_S}
theorem rw_gf {x j t : Nat} {v : Value} (h : rf A b s) (hc : am_code m pc = some (.getfield x, 3)) (hf : am_fld (am_own m) x = some (11, j)) (hj : Nat.blt j 54 = true) (hl : rf_len j = 0) (hv : s j 0 = v) (ht : pc + 3 = t) (kk : am_wp d m (t, L, v :: r, A) Q) : am_wp d m (pc, L, .ref b :: r, A) Q :=
  wp_gf hc hf h.1 (by rw [rf_obj_get (by simpa using hj), rf_v_sc hl, hv]) ht kk
theorem rw_gr {x j o l t : Nat} (h : rf A b s) (hc : am_code m pc = some (.getfield x, 3)) (hf : am_fld (am_own m) x = some (11, j)) (hj : Nat.blt j 54 = true) (hl : rf_len j = l + 1) (ho : rf_off j = o) (ht : pc + 3 = t) (kk : am_wp d m (t, L, .ref (b + o) :: r, A) Q) : am_wp d m (pc, L, .ref b :: r, A) Q :=
  wp_gf hc hf h.1 (by rw [rf_obj_get (by simpa using hj), rf_v_ar (by omega), ho]) ht kk
theorem rw_pf {x j t : Nat} {v : Value} (h : rf A b s) (hc : am_code m pc = some (.putfield x, 3)) (hf : am_fld (am_own m) x = some (11, j)) (hj : Nat.blt j 54 = true) (hl : rf_len j = 0) (hfit : fits (am_fty 11 j) v = true) (ht : pc + 3 = t) (kk : ∀ A', rf A' b (rf_u s j 0 v) → sb_fr A A' b (b + 38) → am_wp d m (t, L, r, A') Q) : am_wp d m (pc, L, v :: .ref b :: r, A) Q := by
  have hj' : j < 54 := by simpa using hj
  have hp := h.put (v := v) hj' hl
  exact wp_pf hc hf h.1 hfit (decide_eq_true (by simp [rf_obj, hj'])) (decide_eq_true h.2.2) ht rfl (kk _ hp.1 hp.2)
theorem rw_al {i : Instr} {tt : Nat → Bool} {j o n t : Nat} {v : Value} (h : rf A b s) (hj : Nat.blt j 54 = true) (ho : rf_off j = o) (hc : am_code m pc = some (i, 1)) (hi : (i = .iaload ∧ tt = fun k => k == 100) ∨ (i = .laload ∧ tt = fun k => k == 101) ∨ (i = .caload ∧ tt = fun k => k == 102) ∨ (i = .baload ∧ tt = fun k => k == 103 || k == 104) ∨ (i = .aaload ∧ tt = fun k => (am_cmp k).isSome)) (hk : tt (rf_knd j) = true) (hn : n < rf_len j) (hv : s j n = v) (ht : pc + 1 = t) (kk : am_wp d m (t, L, v :: r, A) Q) : am_wp d m (pc, L, .int (Int32.ofNat n) :: .ref (b + o) :: r, A) Q := by
  subst ho
  have hj' : j < 54 := by simpa using hj
  have hl : rf_len j < 1000 := by
    have h1 : ∀ x : Fin 54, rf_len x.val < 1000 := by decide +kernel
    exact h1 ⟨j, hj'⟩
  exact wp_al hc hi hk (h.2.1 j hj' (by omega)) (by omega) (by rw [List.getElem?_map, List.getElem?_range hn, Option.map_some, hv]) ht kk
theorem rw_as {i : Instr} {j o n t : Nat} {g : Int32 → Value} {x : Int32} {v : Value} (h : rf A b s) (hj : Nat.blt j 54 = true) (ho : rf_off j = o) (hc : am_code m pc = some (i, 1)) (hi : (i = .iastore ∧ rf_knd j = 100 ∧ g = fun x => .int x) ∨ (i = .castore ∧ rf_knd j = 102 ∧ g = fun x => narrow .char (.int x)) ∨ (i = .bastore ∧ rf_knd j = 103 ∧ g = fun x => narrow .boolean (.int x))) (hn : n < rf_len j) (hg : g x = v) (ht : pc + 1 = t) (kk : ∀ A', rf A' b (rf_u s j n v) → sb_fr A A' b (b + 38) → am_wp d m (t, L, r, A') Q) : am_wp d m (pc, L, .int x :: .int (Int32.ofNat n) :: .ref (b + o) :: r, A) Q := by
  subst ho
  have hj' : j < 54 := by simpa using hj
  have hl : rf_len j < 1000 := by
    have h1 : ∀ x : Fin 54, rf_len x.val < 1000 := by decide +kernel
    exact h1 ⟨j, hj'⟩
  have hp := h.ast (v := v) hj' hn
  have h45 := h.2.2
  exact wp_as hc hi (h.2.1 j hj' (by omega)) (by omega) (by simpa using hn) (decide_eq_true (by omega)) ht (by rw [hg]) (kk _ hp.1 hp.2)
theorem rw_ls {j o n t : Nat} {x : Int64} (h : rf A b s) (hj : Nat.blt j 54 = true) (ho : rf_off j = o) (hk : rf_knd j = 101) (hc : am_code m pc = some (.lastore, 1)) (hn : n < rf_len j) (ht : pc + 1 = t) (kk : ∀ A', rf A' b (rf_u s j n (.long x)) → sb_fr A A' b (b + 38) → am_wp d m (t, L, r, A') Q) : am_wp d m (pc, L, .long x :: .int (Int32.ofNat n) :: .ref (b + o) :: r, A) Q := by
  subst ho
  have hj' : j < 54 := by simpa using hj
  have hl : rf_len j < 1000 := by
    have h1 : ∀ x : Fin 54, rf_len x.val < 1000 := by decide +kernel
    exact h1 ⟨j, hj'⟩
  have hp := h.ast (v := .long x) hj' hn
  have h45 := h.2.2
  have h2 := h.2.1 j hj' (by omega)
  rw [hk] at h2 hp
  exact wp_ls hc h2 (by omega) (by simpa using hn) (decide_eq_true (by omega)) ht rfl (kk _ hp.1 hp.2)
end RW
