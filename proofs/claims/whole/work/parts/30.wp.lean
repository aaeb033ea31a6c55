/-! Reasoning about the small machine: what holds at every end of a frame. -/
def am_wp (d m : Nat) (f : am_F) (Q : am_O × am_H → Prop) : Prop := ∃ z, am_ev d m f z ∧ Q z
noncomputable def am_stp : Nat → Nat → Nat → am_F → Option am_F
  | 0, _, _, f => some f
  | k + 1, d, m, f => match am_nx d m f with
    | some g => am_stp k d m g
    | none => none
def am_cnd (c : Jvm.ClassFile.Cond) (x y : Int32) : Prop := match c with
  | .eq => x = y
  | .ne => x ≠ y
  | .lt => x < y
  | .ge => y ≤ x
  | .gt => y < x
  | .le => x ≤ y
section WP
variable {d m pc : Nat} {L : am_L} {S r : List Value} {A A' : am_H} {Q : am_O × am_H → Prop} {f f' : am_F} {z : am_O × am_H}
theorem wp_go {as : List Value} (h : am_wp d m (0, am_ent m as, [], A) (fun q => q = z)) : am_go d m as A z := by
  obtain ⟨q, h1, rfl⟩ := h
  exact h1
theorem wp_st : ∀ (k : Nat) {f : am_F}, am_stp k d m f = some f' → am_wp d m f' Q → am_wp d m f Q
  | 0, f, h, k => by cases h; exact k
  | n + 1, f, h, k => by
    unfold am_stp at h
    split at h
    · next g hg =>
      obtain ⟨q, h1, h2⟩ := wp_st n h k
      exact ⟨q, ev_nx hg h1, h2⟩
    · cases h
theorem wp_eq (h : f = f') (k : am_wp d m f' Q) : am_wp d m f Q := by rw [h]; exact k
theorem wp_rt {i : Instr} {len : Nat} {v : Option Value} (hc : am_code m pc = some (i, len)) (hs : am_sort m i = 1) (h : am_ret m i S = some v) (q : Q (.inl v, A)) : am_wp d m (pc, L, S, A) Q := ⟨_, ev_rt hc hs h, q⟩
theorem am_step_nx {i : Instr} {len : Nat} (hc : am_code m pc = some (i, len)) (hs : am_sort m i = 0) (h : am_step d m i len pc L S A = some f') : am_nx d m (pc, L, S, A) = some f' := by
  unfold am_nx
  simp only [hc, hs, h]
theorem wp_1 {i : Instr} {len : Nat} (hc : am_code m pc = some (i, len)) (hs : am_sort m i = 0) (h : am_step d m i len pc L S A = some f') (k : am_wp d m f' Q) : am_wp d m (pc, L, S, A) Q := by
  obtain ⟨q, h1, h2⟩ := k
  exact ⟨q, ev_nx (am_step_nx hc hs h) h1, h2⟩
theorem am_br_pos {c : Jvm.ClassFile.Cond} {x y : Int32} {t u : Nat} (h : am_cnd c x y) : am_br c x y t u = t := by
  cases c <;> simp only [am_cnd] at h <;> simp [am_br, h]
theorem am_br_neg {c : Jvm.ClassFile.Cond} {x y : Int32} {t u : Nat} (h : ¬ am_cnd c x y) : am_br c x y t u = u := by
  cases c <;> simp only [am_cnd, ne_eq, Decidable.not_not] at h <;> simp [am_br, h]
theorem wp_ifT {c : Jvm.ClassFile.Cond} {off : Int} {x y : Int32} {t : Nat} (hc : am_code m pc = some (.if_icmp c off, 3)) (ht : am_tgt pc off = t) (h : am_cnd c x y) (k : am_wp d m (t, L, r, A) Q) : am_wp d m (pc, L, .int y :: .int x :: r, A) Q :=
  wp_1 hc rfl (show some (am_br c x y (am_tgt pc off) (pc + 3), L, r, A) = some (t, L, r, A) by rw [am_br_pos h, ht]) k
theorem wp_ifF {c : Jvm.ClassFile.Cond} {off : Int} {x y : Int32} {t : Nat} (hc : am_code m pc = some (.if_icmp c off, 3)) (ht : pc + 3 = t) (h : ¬ am_cnd c x y) (k : am_wp d m (t, L, r, A) Q) : am_wp d m (pc, L, .int y :: .int x :: r, A) Q :=
  wp_1 hc rfl (show some (am_br c x y (am_tgt pc off) (pc + 3), L, r, A) = some (t, L, r, A) by rw [am_br_neg h, ht]) k
theorem wp_if {c : Jvm.ClassFile.Cond} {off : Int} {x y : Int32} {t u : Nat} (hc : am_code m pc = some (.if_icmp c off, 3)) (ht : am_tgt pc off = t) (hu : pc + 3 = u) (k1 : am_cnd c x y → am_wp d m (t, L, r, A) Q) (k2 : ¬ am_cnd c x y → am_wp d m (u, L, r, A) Q) : am_wp d m (pc, L, .int y :: .int x :: r, A) Q := by
  by_cases h : am_cnd c x y
  · exact wp_ifT hc ht h (k1 h)
  · exact wp_ifF hc hu h (k2 h)
theorem wp_izT {c : Jvm.ClassFile.Cond} {off : Int} {x : Int32} {t : Nat} (hc : am_code m pc = some (.ifCond c off, 3)) (ht : am_tgt pc off = t) (h : am_cnd c x 0) (k : am_wp d m (t, L, r, A) Q) : am_wp d m (pc, L, .int x :: r, A) Q :=
  wp_1 hc rfl (show some (am_br c x 0 (am_tgt pc off) (pc + 3), L, r, A) = some (t, L, r, A) by rw [am_br_pos h, ht]) k
theorem wp_izF {c : Jvm.ClassFile.Cond} {off : Int} {x : Int32} {t : Nat} (hc : am_code m pc = some (.ifCond c off, 3)) (ht : pc + 3 = t) (h : ¬ am_cnd c x 0) (k : am_wp d m (t, L, r, A) Q) : am_wp d m (pc, L, .int x :: r, A) Q :=
  wp_1 hc rfl (show some (am_br c x 0 (am_tgt pc off) (pc + 3), L, r, A) = some (t, L, r, A) by rw [am_br_neg h, ht]) k
theorem wp_iz {c : Jvm.ClassFile.Cond} {off : Int} {x : Int32} {t u : Nat} (hc : am_code m pc = some (.ifCond c off, 3)) (ht : am_tgt pc off = t) (hu : pc + 3 = u) (k1 : am_cnd c x 0 → am_wp d m (t, L, r, A) Q) (k2 : ¬ am_cnd c x 0 → am_wp d m (u, L, r, A) Q) : am_wp d m (pc, L, .int x :: r, A) Q := by
  by_cases h : am_cnd c x 0
  · exact wp_izT hc ht h (k1 h)
  · exact wp_izF hc hu h (k2 h)
theorem am_at_of {k a : Nat} {vs : List Value} (h : A[a]? = some (k, vs)) : am_at A a k = some vs := by
  unfold am_at
  rw [h]
  simp
theorem wp_gf {x k j a t : Nat} {vs : List Value} {v : Value} (hc : am_code m pc = some (.getfield x, 3)) (hf : am_fld (am_own m) x = some (k, j)) (hA : A[a]? = some (k, vs)) (hv : vs[j]? = some v) (ht : pc + 3 = t) (kk : am_wp d m (t, L, v :: r, A) Q) : am_wp d m (pc, L, .ref a :: r, A) Q := by
  refine wp_1 hc rfl ?_ kk
  show (am_getf m x (.ref a :: r) A).map _ = _
  unfold am_getf
  simp only [hf, Option.bind_some, am_at_of hA, hv, Option.map_some, ht]
theorem wp_pf {x k j a t : Nat} {vs : List Value} {v : Value} (hc : am_code m pc = some (.putfield x, 3)) (hf : am_fld (am_own m) x = some (k, j)) (hA : A[a]? = some (k, vs)) (hfit : fits (am_fty k j) v = true) (hj : decide (j < vs.length) = true) (ha : decide (45 ≤ a) = true) (ht : pc + 3 = t) (hA' : A.set a (k, vs.set j v) = A') (kk : am_wp d m (t, L, r, A') Q) : am_wp d m (pc, L, v :: .ref a :: r, A) Q := by
  refine wp_1 hc rfl ?_ kk
  show (am_putf m x (v :: .ref a :: r) A).map _ = _
  unfold am_putf
  have ha' : decide (am_S0 ≤ a) = true := ha
  simp only [hf, Option.bind_some, am_at_of hA, hfit, hj, ha', Bool.and_self, cond_true, Option.map_some, ht, hA']
theorem am_ix_nat {vs : List Value} {n : Nat} (hn : n < 2147483648) : am_ix vs (Int32.ofNat n) = vs[n]? := by
  unfold am_ix
  rw [if_neg (Int32.ofNat_not_neg (by omega)), Int32.toNatClampNeg_ofNat_of_lt (by omega)]
theorem wp_al {i : Instr} {tt : Nat → Bool} {k a n t : Nat} {vs : List Value} {v : Value} (hc : am_code m pc = some (i, 1)) (hi : (i = .iaload ∧ tt = fun k => k == 100) ∨ (i = .laload ∧ tt = fun k => k == 101) ∨ (i = .caload ∧ tt = fun k => k == 102) ∨ (i = .baload ∧ tt = fun k => k == 103 || k == 104) ∨ (i = .aaload ∧ tt = fun k => (am_cmp k).isSome)) (hk : tt k = true) (hA : A[a]? = some (k, vs)) (hn : n < 2147483648) (hv : vs[n]? = some v) (ht : pc + 1 = t) (kk : am_wp d m (t, L, v :: r, A) Q) : am_wp d m (pc, L, .int (Int32.ofNat n) :: .ref a :: r, A) Q := by
  have h1 : am_ald tt (.int (Int32.ofNat n) :: .ref a :: r) A = some (v :: r) := by
    unfold am_ald
    simp only [hA, Option.bind_some, hk, cond_true, am_ix_nat hn, hv, Option.map_some]
  rcases hi with ⟨rfl, rfl⟩ | ⟨rfl, rfl⟩ | ⟨rfl, rfl⟩ | ⟨rfl, rfl⟩ | ⟨rfl, rfl⟩ <;>
    (refine wp_1 hc rfl ?_ kk; simp only [am_step]; rw [h1, ← ht]; rfl)
theorem am_put_of {k a n : Nat} {vs : List Value} {v : Value} (hn : n < 2147483648) (hl : n < vs.length) (ha : decide (45 ≤ a) = true) : am_put k a vs (Int32.ofNat n) v r A = some (r, A.set a (k, vs.set n v)) := by
  unfold am_put
  have ha' : decide (am_S0 ≤ a) = true := ha
  rw [if_neg (Int32.ofNat_not_neg (by omega)), Int32.toNatClampNeg_ofNat_of_lt (by omega), ha']
  simp [hl]
/-- stores of ints, chars, booleans -/
theorem wp_as {i : Instr} {k a n t : Nat} {g : Int32 → Value} {vs : List Value} {x : Int32} (hc : am_code m pc = some (i, 1)) (hi : (i = .iastore ∧ k = 100 ∧ g = fun x => .int x) ∨ (i = .castore ∧ k = 102 ∧ g = fun x => narrow .char (.int x)) ∨ (i = .bastore ∧ k = 103 ∧ g = fun x => narrow .boolean (.int x))) (hA : A[a]? = some (k, vs)) (hn : n < 2147483648) (hl : n < vs.length) (ha : decide (45 ≤ a) = true) (ht : pc + 1 = t) (hA' : A.set a (k, vs.set n (g x)) = A') (kk : am_wp d m (t, L, r, A') Q) : am_wp d m (pc, L, .int x :: .int (Int32.ofNat n) :: .ref a :: r, A) Q := by
  have h1 : am_ast k g (.int x :: .int (Int32.ofNat n) :: .ref a :: r) A = some (r, A') := by
    unfold am_ast
    simp only [am_at_of hA, Option.bind_some, am_put_of hn hl ha, hA']
  rcases hi with ⟨rfl, rfl, rfl⟩ | ⟨rfl, rfl, rfl⟩ | ⟨rfl, rfl, rfl⟩ <;>
    (refine wp_1 hc rfl ?_ kk; simp only [am_step]; rw [h1, ← ht]; rfl)
theorem wp_ls {a n t : Nat} {vs : List Value} {x : Int64} (hc : am_code m pc = some (.lastore, 1)) (hA : A[a]? = some (101, vs)) (hn : n < 2147483648) (hl : n < vs.length) (ha : decide (45 ≤ a) = true) (ht : pc + 1 = t) (hA' : A.set a (101, vs.set n (.long x)) = A') (kk : am_wp d m (t, L, r, A') Q) : am_wp d m (pc, L, .long x :: .int (Int32.ofNat n) :: .ref a :: r, A) Q := by
  have h1 : am_lst (.long x :: .int (Int32.ofNat n) :: .ref a :: r) A = some (r, A') := by
    unfold am_lst
    simp only [am_at_of hA, Option.bind_some, am_put_of hn hl ha, hA']
  refine wp_1 hc rfl ?_ kk
  simp only [am_step]
  rw [h1, ← ht]
  rfl
theorem wp_rs {k q a n w t : Nat} {vs ws : List Value} (hc : am_code m pc = some (.aastore, 1)) (hA : A[a]? = some (k, vs)) (hq : am_cmp k = some q) (hw : A[w]? = some (q, ws)) (hn : n < 2147483648) (hl : n < vs.length) (ha : decide (45 ≤ a) = true) (ht : pc + 1 = t) (hA' : A.set a (k, vs.set n (.ref w)) = A') (kk : am_wp d m (t, L, r, A') Q) : am_wp d m (pc, L, .ref w :: .int (Int32.ofNat n) :: .ref a :: r, A) Q := by
  have h1 : am_rst (.ref w :: .int (Int32.ofNat n) :: .ref a :: r) A = some (r, A') := by
    unfold am_rst
    simp only [hA, Option.bind_some, hq, am_at_of hw, am_put_of hn hl ha, hA']
  refine wp_1 hc rfl ?_ kk
  simp only [am_step]
  rw [h1, ← ht]
  rfl
theorem wp_ln {k a t : Nat} {vs : List Value} (hc : am_code m pc = some (.arraylength, 1)) (hA : A[a]? = some (k, vs)) (h1 : decide (100 ≤ k) = true) (h2 : decide (k < 200) = true) (ht : pc + 1 = t) (kk : am_wp d m (t, L, .int (Int32.ofNat vs.length) :: r, A) Q) : am_wp d m (pc, L, .ref a :: r, A) Q := by
  have h3 : am_alen (.ref a :: r) A = some (.int (Int32.ofNat vs.length) :: r) := by
    unfold am_alen
    simp only [hA, Option.bind_some, h1, h2, Bool.and_self, cond_true]
  refine wp_1 hc rfl ?_ kk
  simp only [am_step]
  rw [h3, ← ht]
  rfl
/-- calls -/
theorem wp_cs {x y n len t : Nat} {as : List Value} {v : Option Value} (hc : am_code m pc = some (.invokestatic x, len)) (hs : am_sort m (.invokestatic x) = 2) (ha : am_cal m (.invokestatic x) S A = some (y, as, r)) (hd : 1 ≤ d) (hg : am_go (d - 1) y as A (.inl v, A')) (ht : pc + 3 = t) (kk : am_wp d m (t, L, v.toList ++ r, A') Q) : am_wp d m (pc, L, S, A) Q := by
  obtain ⟨d', rfl⟩ : ∃ d', d = d' + 1 := ⟨d - 1, by omega⟩
  subst ht
  obtain ⟨q, h1, h2⟩ := kk
  exact ⟨q, ev_cl hc hs ha hg h1, h2⟩
theorem wp_ci {x y n len t : Nat} {as : List Value} {v : Option Value} (hc : am_code m pc = some (.invokespecial x, len)) (hs : am_sort m (.invokespecial x) = 2) (ha : am_cal m (.invokespecial x) S A = some (y, as, r)) (hd : 1 ≤ d) (hg : am_go (d - 1) y as A (.inl v, A')) (ht : pc + 3 = t) (kk : am_wp d m (t, L, v.toList ++ r, A') Q) : am_wp d m (pc, L, S, A) Q := by
  obtain ⟨d', rfl⟩ : ∃ d', d = d' + 1 := ⟨d - 1, by omega⟩
  subst ht
  obtain ⟨q, h1, h2⟩ := kk
  exact ⟨q, ev_cl hc hs ha hg h1, h2⟩
theorem am_cal_v {x y n b : Nat} {as vs : List Value} (hm : am_mth (am_own m) x = some (y, n)) (hS : (decide (n ≤ S.length) && decide (am_cat (S.drop n) ≤ 8)) = true) (hr : (S.take n).reverse = .ref b :: as) (hen : decide ((am_en (.ref b :: as)).length ≤ am_max y) = true) (hA : A[b]? = some (am_own y, vs)) : am_cal m (.invokevirtual x) S A = some (y, .ref b :: as, S.drop n) := by
  unfold am_cal
  simp only [hm, Option.bind_some, hS, cond_true, hr, hen, am_at_of hA, Option.map_some]
theorem wp_cv {x y n len t b : Nat} {as vs : List Value} {v : Option Value} (hc : am_code m pc = some (.invokevirtual x, len)) (hm : am_mth (am_own m) x = some (y, n)) (hS : (decide (n ≤ S.length) && decide (am_cat (S.drop n) ≤ 8)) = true) (hr : (S.take n).reverse = .ref b :: as) (hen : decide ((am_en (.ref b :: as)).length ≤ am_max y) = true) (hA : A[b]? = some (am_own y, vs)) (hd : 1 ≤ d) (hg : am_go (d - 1) y (.ref b :: as) A (.inl v, A')) (ht : pc + 3 = t) (kk : am_wp d m (t, L, v.toList ++ S.drop n, A') Q) : am_wp d m (pc, L, S, A) Q := by
  obtain ⟨d', rfl⟩ : ∃ d', d = d' + 1 := ⟨d - 1, by omega⟩
  subst ht
  obtain ⟨q, h1, h2⟩ := kk
  exact ⟨q, ev_cl hc rfl (am_cal_v hm hS hr hen hA) hg h1, h2⟩
/-- Object's constructor -/
theorem wp_oi {x a k t : Nat} (hc : am_code m pc = some (.invokespecial x, 3)) (hm : am_mth (am_own m) x = some (1000, k)) (hd : 1 ≤ d) (hr : decide (am_cat r ≤ 8) = true) (ht : pc + 3 = t) (kk : am_wp d m (t, L, r, A) Q) : am_wp d m (pc, L, .ref a :: r, A) Q := by
  have hs : am_sort m (.invokespecial x) = 0 := by simp [am_sort, hm]
  refine wp_1 hc hs ?_ kk
  simp only [am_step, hm, Option.bind_some, am_bl, am_blt, hd, decide_true, hr, Bool.and_self, Option.map_some, ht, show decide ((1000 : Nat) < 1002) = true from rfl, cond_true]
end WP
/-! numbers that are counted -/
theorem i32_lt {a b : Nat} (ha : a < 2147483648) (hb : b < 2147483648) : Int32.ofNat a < Int32.ofNat b ↔ a < b := by
  rw [Int32.lt_iff_toInt_lt, Int32.toInt_ofNat_of_lt (by omega), Int32.toInt_ofNat_of_lt (by omega)]
  omega
theorem i32_le {a b : Nat} (ha : a < 2147483648) (hb : b < 2147483648) : Int32.ofNat a ≤ Int32.ofNat b ↔ a ≤ b := by
  rw [Int32.le_iff_toInt_le, Int32.toInt_ofNat_of_lt (by omega), Int32.toInt_ofNat_of_lt (by omega)]
  omega
theorem i32_eq {a b : Nat} (ha : a < 2147483648) (hb : b < 2147483648) : Int32.ofNat a = Int32.ofNat b ↔ a = b := by
  constructor
  · intro h
    have h1 := congrArg Int32.toInt h
    rw [Int32.toInt_ofNat_of_lt (by omega), Int32.toInt_ofNat_of_lt (by omega)] at h1
    omega
  · intro h
    rw [h]
theorem i32_add (a b : Nat) : Int32.ofNat a + Int32.ofNat b = Int32.ofNat (a + b) := (Int32.ofNat_add a b).symm
theorem i32_one (a : Nat) : Int32.ofNat a + 1 = Int32.ofNat (a + 1) := i32_add a 1
theorem i32_mul (a b : Nat) : Int32.ofNat a * Int32.ofNat b = Int32.ofNat (a * b) := (Int32.ofNat_mul a b).symm
theorem i32_sub {a b : Nat} (h : b ≤ a) : Int32.ofNat a - Int32.ofNat b = Int32.ofNat (a - b) := by
  have h1 := i32_add (a - b) b
  rw [Nat.sub_add_cancel h] at h1
  rw [← h1]
  exact Int32.add_sub_cancel _ _
theorem i32_neg1 {a : Nat} (ha : a < 2147483648) : Int32.ofNat a ≠ -1 := by
  intro h
  have h1 := congrArg Int32.toInt h
  rw [Int32.toInt_ofNat_of_lt (by omega)] at h1
  have h2 : (-1 : Int32).toInt = -1 := by decide
  omega
