/-! String.indexOf. -/
section MI3
variable {d m pc : Nat} {L : am_L} {r : List Value} {A : am_H} {Q : am_O × am_H → Prop}
theorem wp_mi3 {x y : Int32} {i k t : Nat} (hc : am_code m pc = some (.invokestatic i, 3)) (hm : am_mth (am_own m) i = some (1003, k)) (hd : 1 ≤ d) (hr : decide (am_cat r ≤ 8) = true) (ht : pc + 3 = t) (kk : am_wp d m (t, L, .int (if x < y then y else x) :: r, A) Q) : am_wp d m (pc, L, .int y :: .int x :: r, A) Q := by
  have hs : am_sort m (.invokestatic i) = 0 := by simp [am_sort, hm]
  refine wp_1 hc hs ?_ kk
  simp only [am_step, hm, Option.bind_some, am_bl, am_blt, hd, decide_true, hr, Bool.and_self, Option.map_some, ht, show decide (1002 ≤ (1003 : Nat)) = true from rfl, cond_true]
theorem wp_mi4 {x y : Int32} {i k t : Nat} (hc : am_code m pc = some (.invokestatic i, 3)) (hm : am_mth (am_own m) i = some (1004, k)) (hd : 1 ≤ d) (hr : decide (am_cat r ≤ 8) = true) (ht : pc + 3 = t) (kk : am_wp d m (t, L, .int (if y < x then y else x) :: r, A) Q) : am_wp d m (pc, L, .int y :: .int x :: r, A) Q := by
  have hs : am_sort m (.invokestatic i) = 0 := by simp [am_sort, hm]
  refine wp_1 hc hs ?_ kk
  simp only [am_step, hm, Option.bind_some, am_bl, am_blt, hd, decide_true, hr, Bool.and_self, Option.map_some, ht, show decide (1002 ≤ (1004 : Nat)) = true from rfl, cond_true]
end MI3
def js_ix (bs : List Nat) (c : Nat) : Nat → Nat → Option Nat
  | 0, _ => none
  | k + 1, j => if bs.getD j 0 = c then some j else js_ix bs c k (j + 1)
theorem i32_i2b {c : Nat} (h : c < 128) : (Int32.ofNat c).toInt8.toInt32 = Int32.ofNat c := by
  have h1 : ∀ x : Fin 128, (Int32.ofNat x.val).toInt8.toInt32 = Int32.ofNat x.val := by decide +kernel
  exact h1 ⟨c, h⟩
theorem js_io_l {d s v c : Nat} {bs : List Nat} {x : Int32} {A : am_H} (hc : c < 128) (h : sb_S A s v bs) : ∀ (k j : Nat), bs.length - j = k → j ≤ bs.length → am_wp d 78 (7, [some (.ref v), some (.int (Int32.ofNat c)), some (.int x), some (.int (Int32.ofNat bs.length)), some (.int (Int32.ofNat c)), some (.int (Int32.ofNat j))], [], A) (fun q => q = (.inl (some (.int (mg_bi (js_ix bs c k j)))), A)) := by
  have hh := h
  obtain ⟨hS, hV, hb, hL⟩ := h
  intro k
  induction k with
  | zero =>
    intro j h1 h2
    refine wp_st 2 (f' := (10, [some (.ref (v)), some (.int (Int32.ofNat c)), some (.int (x)), some (.int (Int32.ofNat (bs.length))), some (.int (Int32.ofNat c)), some (.int (Int32.ofNat j))], [.int (Int32.ofNat (bs.length)), .int (Int32.ofNat j)], A)) rfl ?_
    refine wp_ifT rfl rfl ((i32_le (a := bs.length) (b := j) (by omega) (by omega)).mpr (by omega)) ?_
    refine wp_st 1 (f' := (32, [some (.ref (v)), some (.int (Int32.ofNat c)), some (.int (x)), some (.int (Int32.ofNat (bs.length))), some (.int (Int32.ofNat c)), some (.int (Int32.ofNat j))], [.int ((-1))], A)) rfl ?_
    refine wp_rt rfl rfl rfl ?_
    rfl
  | succ k ih =>
    intro j h1 h2
    have hbj := hb j
    refine wp_st 2 (f' := (10, [some (.ref (v)), some (.int (Int32.ofNat c)), some (.int (x)), some (.int (Int32.ofNat (bs.length))), some (.int (Int32.ofNat c)), some (.int (Int32.ofNat j))], [.int (Int32.ofNat (bs.length)), .int (Int32.ofNat j)], A)) rfl ?_
    refine wp_ifF rfl rfl (fun q => absurd ((i32_le (a := bs.length) (b := j) (by omega) (by omega)).mp q) (by omega)) ?_
    refine wp_st 2 (f' := (16, [some (.ref (v)), some (.int (Int32.ofNat c)), some (.int (x)), some (.int (Int32.ofNat (bs.length))), some (.int (Int32.ofNat c)), some (.int (Int32.ofNat j))], [.int (Int32.ofNat j), .ref (v)], A)) rfl ?_
    refine wp_al rfl (Or.inr (Or.inr (Or.inr (Or.inl ⟨rfl, rfl⟩)))) rfl hV (by omega) (sb_gd 0 (by omega)) rfl ?_
    refine wp_st 1 (f' := (19, [some (.ref (v)), some (.int (Int32.ofNat c)), some (.int (x)), some (.int (Int32.ofNat (bs.length))), some (.int (Int32.ofNat c)), some (.int (Int32.ofNat j))], [.int (Int32.ofNat c), .int (Int32.ofNat (bs.getD j 0))], A)) rfl ?_
    refine wp_if rfl rfl rfl (fun (h1 : (Int32.ofNat (bs.getD j 0)) ≠ (Int32.ofNat c)) => ?_) (fun (h1 : ¬ ((Int32.ofNat (bs.getD j 0)) ≠ (Int32.ofNat c))) => ?_)
    · skip
      rw [ne_eq, i32_eq (by omega) (by omega)] at h1
      refine wp_st 1 (f' := (28, [some (.ref (v)), some (.int (Int32.ofNat c)), some (.int (x)), some (.int (Int32.ofNat (bs.length))), some (.int (Int32.ofNat c)), some (.int ((Int32.ofNat j) + (Int32.ofNat 1)))], [], A)) rfl ?_
      rw [i32_add (j) (1)]
      refine wp_st 1 (f' := (7, [some (.ref (v)), some (.int (Int32.ofNat c)), some (.int (x)), some (.int (Int32.ofNat (bs.length))), some (.int (Int32.ofNat c)), some (.int (Int32.ofNat (j + 1)))], [], A)) rfl ?_
      have h9 := ih (j + 1) (by omega) (by omega)
      rw [js_ix, if_neg h1]
      exact h9
    · skip
      rw [ne_eq, i32_eq (by omega) (by omega)] at h1
      refine wp_st 1 (f' := (24, [some (.ref (v)), some (.int (Int32.ofNat c)), some (.int (x)), some (.int (Int32.ofNat (bs.length))), some (.int (Int32.ofNat c)), some (.int (Int32.ofNat j))], [.int (Int32.ofNat j)], A)) rfl ?_
      refine wp_rt rfl rfl rfl ?_
      rw [js_ix, if_pos (Decidable.not_not.mp h1)]
      rfl
theorem js_io {d s v c : Nat} {bs : List Nat} {A : am_H} (hc : c < 128) (h : sb_S A s v bs) : am_go d 78 [.ref v, .int (Int32.ofNat c), .int (Int32.ofNat 0), .int (Int32.ofNat bs.length)] A (.inl (some (.int (mg_bi (js_ix bs c bs.length 0)))), A) := by
  have hh := h
  obtain ⟨hS, hV, hb, hL⟩ := h
  refine wp_go ?_
  refine wp_st 2 (f' := (2, [some (.ref (v)), some (.int (Int32.ofNat c)), some (.int (Int32.ofNat 0)), some (.int (Int32.ofNat (bs.length))), none, none], [.int ((Int32.ofNat c).toInt8.toInt32)], A)) rfl ?_
  rw [i32_i2b hc]
  refine wp_st 3 (f' := (7, [some (.ref (v)), some (.int (Int32.ofNat c)), some (.int (Int32.ofNat 0)), some (.int (Int32.ofNat (bs.length))), some (.int (Int32.ofNat c)), some (.int (Int32.ofNat 0))], [], A)) rfl ?_
  exact js_io_l hc hh _ 0 rfl (by omega)
theorem js_ce {d c : Nat} {A : am_H} (hc : c < 128) : am_go d 77 [.int (Int32.ofNat c)] A (.inl (some (.int 1)), A) := by
  refine wp_go ?_
  refine wp_st 1 (f' := (1, [some (.int (Int32.ofNat c))], [.int (Int32.ofNat c)], A)) rfl ?_
  refine wp_izF rfl rfl (Int32.ofNat_not_neg (by omega)) ?_
  refine wp_st 2 (f' := (8, [some (.int (Int32.ofNat c))], [.int (Int32.ofNat 255), .int (Int32.ofNat c)], A)) rfl ?_
  refine wp_ifF rfl rfl (fun q => absurd ((i32_lt (a := 255) (b := c) (by omega) (by omega)).mp q) (by omega)) ?_
  refine wp_st 2 (f' := (16, [some (.int (Int32.ofNat c))], [.int (Int32.ofNat 1)], A)) rfl ?_
  refine wp_rt rfl rfl rfl ?_
  rfl
theorem js_i4 {d s v c : Nat} {bs : List Nat} {A : am_H} (hd : 1 ≤ d) (hc : c < 128) (hl : 0 < bs.length) (h : sb_S A s v bs) : am_go d 76 [.ref v, .int (Int32.ofNat c), .int (Int32.ofNat 0), .int (Int32.ofNat bs.length)] A (.inl (some (.int (mg_bi (js_ix bs c bs.length 0)))), A) := by
  have hh := h
  obtain ⟨hS, hV, hb, hL⟩ := h
  refine wp_go ?_
  refine wp_st 1 (f' := (1, [some (.ref (v)), some (.int (Int32.ofNat c)), some (.int (Int32.ofNat 0)), some (.int (Int32.ofNat (bs.length)))], [.int (Int32.ofNat c)], A)) rfl ?_
  refine wp_cs (n := 0) (A' := A) (v := some (.int (Int32.ofNat 1))) rfl rfl rfl (by omega) (js_ce hc) rfl ?_
  show am_wp d 76 (4, [some (.ref (v)), some (.int (Int32.ofNat c)), some (.int (Int32.ofNat 0)), some (.int (Int32.ofNat (bs.length)))], [.int (Int32.ofNat 1)], A) _
  refine wp_izT rfl rfl (fun q => absurd ((i32_eq (a := 1) (b := 0) (by omega) (by omega)).mp q) (by omega)) ?_
  refine wp_st 2 (f' := (11, [some (.ref (v)), some (.int (Int32.ofNat c)), some (.int (Int32.ofNat 0)), some (.int (Int32.ofNat (bs.length)))], [.int (Int32.ofNat 0), .int (Int32.ofNat 0)], A)) rfl ?_
  refine wp_mi3 rfl rfl (by omega) rfl rfl ?_
  rw [show (if Int32.ofNat 0 < Int32.ofNat 0 then Int32.ofNat 0 else Int32.ofNat 0) = Int32.ofNat 0 from by decide]
  refine wp_st 3 (f' := (17, [some (.ref (v)), some (.int (Int32.ofNat c)), some (.int (Int32.ofNat 0)), some (.int (Int32.ofNat (bs.length)))], [.ref (v), .int (Int32.ofNat (bs.length))], A)) rfl ?_
  refine wp_ln rfl hV rfl rfl rfl ?_
  rw [show (bs.map sb_c).length = bs.length from by simp]
  refine wp_mi4 rfl rfl (by omega) rfl rfl ?_
  rw [show (if Int32.ofNat bs.length < Int32.ofNat bs.length then Int32.ofNat bs.length else Int32.ofNat bs.length) = Int32.ofNat bs.length from by simp]
  refine wp_st 3 (f' := (24, [some (.ref (v)), some (.int (Int32.ofNat c)), some (.int (Int32.ofNat 0)), some (.int (Int32.ofNat (bs.length)))], [.int (Int32.ofNat (bs.length)), .int (Int32.ofNat 0)], A)) rfl ?_
  refine wp_ifT rfl rfl ((i32_lt (a := 0) (b := bs.length) (by omega) (by omega)).mpr (by omega)) ?_
  refine wp_st 4 (f' := (33, [some (.ref (v)), some (.int (Int32.ofNat c)), some (.int (Int32.ofNat 0)), some (.int (Int32.ofNat (bs.length)))], [.int (Int32.ofNat (bs.length)), .int (Int32.ofNat 0), .int (Int32.ofNat c), .ref (v)], A)) rfl ?_
  refine wp_cs (n := 0) (A' := A) (v := some (.int (mg_bi (js_ix bs c bs.length 0)))) rfl rfl rfl (by omega) (js_io hc hh) rfl ?_
  show am_wp d 76 (36, [some (.ref (v)), some (.int (Int32.ofNat c)), some (.int (Int32.ofNat 0)), some (.int (Int32.ofNat (bs.length)))], [.int (mg_bi (js_ix bs c bs.length 0))], A) _
  refine wp_rt rfl rfl rfl ?_
  rfl
theorem js_i3 {d s v c : Nat} {bs : List Nat} {A : am_H} (hd : 2 ≤ d) (hc : c < 128) (hl : 0 < bs.length) (h : sb_S A s v bs) : am_go d 75 [.ref s, .int (Int32.ofNat c), .int (Int32.ofNat 0)] A (.inl (some (.int (mg_bi (js_ix bs c bs.length 0)))), A) := by
  have hh := h
  obtain ⟨hS, hV, hb, hL⟩ := h
  refine wp_go ?_
  refine wp_st 1 (f' := (1, [some (.ref (s)), some (.int (Int32.ofNat c)), some (.int (Int32.ofNat 0))], [.ref (s)], A)) rfl ?_
  refine wp_cv (A' := A) (v := some (.int (Int32.ofNat 1))) rfl rfl rfl rfl rfl hS (by omega) (js_latin hh) rfl ?_
  show am_wp d 75 (4, [some (.ref (s)), some (.int (Int32.ofNat c)), some (.int (Int32.ofNat 0))], [.int (Int32.ofNat 1)], A) _
  refine wp_izF rfl rfl (fun q => absurd ((i32_eq (a := 1) (b := 0) (by omega) (by omega)).mp q) (by omega)) ?_
  refine wp_st 1 (f' := (8, [some (.ref (s)), some (.int (Int32.ofNat c)), some (.int (Int32.ofNat 0))], [.ref (s)], A)) rfl ?_
  refine wp_gf rfl rfl hS rfl rfl ?_
  refine wp_st 3 (f' := (14, [some (.ref (s)), some (.int (Int32.ofNat c)), some (.int (Int32.ofNat 0))], [.ref (s), .int (Int32.ofNat 0), .int (Int32.ofNat c), .ref (v)], A)) rfl ?_
  refine wp_cv (A' := A) (v := some (.int (Int32.ofNat (bs.length)))) rfl rfl rfl rfl rfl hS (by omega) (js_len (by omega) hh) rfl ?_
  show am_wp d 75 (17, [some (.ref (s)), some (.int (Int32.ofNat c)), some (.int (Int32.ofNat 0))], [.int (Int32.ofNat (bs.length)), .int (Int32.ofNat 0), .int (Int32.ofNat c), .ref (v)], A) _
  refine wp_cs (n := 0) (A' := A) (v := some (.int (mg_bi (js_ix bs c bs.length 0)))) rfl rfl rfl (by omega) (js_i4 (by omega) hc hl hh) rfl ?_
  show am_wp d 75 (20, [some (.ref (s)), some (.int (Int32.ofNat c)), some (.int (Int32.ofNat 0))], [.int (mg_bi (js_ix bs c bs.length 0))], A) _
  refine wp_st 1 (f' := (36, [some (.ref (s)), some (.int (Int32.ofNat c)), some (.int (Int32.ofNat 0))], [.int (mg_bi (js_ix bs c bs.length 0))], A)) rfl ?_
  refine wp_rt rfl rfl rfl ?_
  rfl
theorem js_i2 {d s v c : Nat} {bs : List Nat} {A : am_H} (hd : 3 ≤ d) (hc : c < 128) (hl : 0 < bs.length) (h : sb_S A s v bs) : am_go d 74 [.ref s, .int (Int32.ofNat c)] A (.inl (some (.int (mg_bi (js_ix bs c bs.length 0)))), A) := by
  have hh := h
  obtain ⟨hS, hV, hb, hL⟩ := h
  refine wp_go ?_
  refine wp_st 3 (f' := (3, [some (.ref (s)), some (.int (Int32.ofNat c))], [.int (Int32.ofNat 0), .int (Int32.ofNat c), .ref (s)], A)) rfl ?_
  refine wp_cv (A' := A) (v := some (.int (mg_bi (js_ix bs c bs.length 0)))) rfl rfl rfl rfl rfl hS (by omega) (js_i3 (by omega) hc hl hh) rfl ?_
  show am_wp d 74 (6, [some (.ref (s)), some (.int (Int32.ofNat c))], [.int (mg_bi (js_ix bs c bs.length 0))], A) _
  refine wp_rt rfl rfl rfl ?_
  rfl
theorem ru_ix_eq (c : Nat) : js_ix ru_WI c 6 0 = ru_ix c := by
  unfold ru_ix
  simp only [js_ix, ru_WI, List.getD_cons_zero, List.getD_cons_succ, Nat.reduceAdd]
  simp only [eq_comm (b := c)]
