/-! New objects, exceptions. -/
section EX
variable {d m pc : Nat} {L : am_L} {S r : List Value} {A A' : am_H} {Q : am_O × am_H → Prop}
theorem wp_nw {x k t : Nat} (hc : am_code m pc = some (.new x, 3)) (hk : am_cls (am_own m) x = some k) (ht : pc + 3 = t) (kk : am_wp d m (t, L, .ref A.length :: S, A ++ [(k, am_def k)]) Q) : am_wp d m (pc, L, S, A) Q := by
  refine wp_1 hc rfl ?_ kk
  simp only [am_step, hk, Option.map_some, ht]
theorem wp_ti {x a s k j t : Nat} {vs : List Value} (hc : am_code m pc = some (.invokespecial x, 3)) (hm : am_mth (am_own m) x = some (1001, k)) (hA : A[a]? = some (j, vs)) (h1 : 200 ≤ j) (h2 : j < 204) (ha : 45 ≤ a) (hd : 6 ≤ d) (hr : decide (am_cat r ≤ 8) = true) (ht : pc + 3 = t) (kk : am_wp d m (t, L, r, A.set a (j + 10, vs)) Q) : am_wp d m (pc, L, .ref s :: .ref a :: r, A) Q := by
  have hs : am_sort m (.invokespecial x) = 0 := by simp [am_sort, hm]
  have h45 : decide (am_S0 ≤ a) = true := decide_eq_true ha
  refine wp_1 hc hs ?_ kk
  simp only [am_step, hm, Option.bind_some, am_bl, am_blt, hA, decide_eq_true hd, decide_eq_true h1, decide_eq_true h2, h45, hr, Bool.and_self, Option.map_some, ht, show decide ((1001 : Nat) < 1002) = true from rfl, cond_true]
theorem wp_tw {a k : Nat} {vs : List Value} (hc : am_code m pc = some (.athrow, 1)) (hA : A[a]? = some (k, vs)) (h1 : 210 ≤ k) (h2 : k < 220) (h3 : (am_hnd m).isEmpty = true) (q : Q (.inr a, A)) : am_wp d m (pc, L, .ref a :: r, A) Q := by
  have hk : am_knd A a = k := by unfold am_knd; rw [hA]
  exact ⟨_, ev_th hc rfl (by rw [hk]; exact h1) (by rw [hk]; exact h2) h3, q⟩
theorem wp_cx {x y n len b a h' : Nat} {as vs : List Value} (hc : am_code m pc = some (.invokevirtual x, len)) (hm : am_mth (am_own m) x = some (y, n)) (hS : (decide (n ≤ S.length) && decide (am_cat (S.drop n) ≤ 8)) = true) (hr : (S.take n).reverse = .ref b :: as) (hen : decide ((am_en (.ref b :: as)).length ≤ am_max y) = true) (hA : A[b]? = some (am_own y, vs)) (hd : 1 ≤ d) (hg : am_go (d - 1) y (.ref b :: as) A (.inr a, A')) (hf : am_fnd (am_hnd m) pc (am_knd A' a) = some h') (kk : am_wp d m (h', L, [.ref a], A') Q) : am_wp d m (pc, L, S, A) Q := by
  obtain ⟨d', rfl⟩ : ∃ d', d = d' + 1 := ⟨d - 1, by omega⟩
  obtain ⟨q, h1, h2⟩ := kk
  exact ⟨q, ev_cx hc rfl (am_cal_v hm hS hr hen hA) hg hf h1, h2⟩
end EX
theorem ex_25 {d a s j : Nat} {vs : List Value} {A : am_H} (hd : 6 ≤ d) (hA : A[a]? = some (j, vs)) (h1 : 200 ≤ j) (h2 : j < 204) (ha : 45 ≤ a) : am_go d 25 [.ref a, .ref s] A (.inl none, A.set a (j + 10, vs)) := by
  refine wp_go ?_
  refine wp_st 2 (f' := (2, [some (.ref a), some (.ref s)], [.ref s, .ref a], A)) rfl ?_
  refine wp_ti rfl rfl hA h1 h2 ha hd rfl rfl ?_
  exact wp_rt rfl rfl rfl rfl
theorem ex_24 {d a s j : Nat} {vs : List Value} {A : am_H} (hd : 7 ≤ d) (hA : A[a]? = some (j, vs)) (h1 : 200 ≤ j) (h2 : j < 204) (ha : 45 ≤ a) : am_go d 24 [.ref a, .ref s] A (.inl none, A.set a (j + 10, vs)) := by
  refine wp_go ?_
  refine wp_st 2 (f' := (2, [some (.ref a), some (.ref s)], [.ref s, .ref a], A)) rfl ?_
  refine wp_ci (n := 0) (v := none) rfl rfl rfl (by omega) (ex_25 (s := s) (by omega) hA h1 h2 ha) rfl ?_
  exact wp_rt rfl rfl rfl rfl
theorem ex_0 {d a s j : Nat} {vs : List Value} {A : am_H} (hd : 8 ≤ d) (hA : A[a]? = some (j, vs)) (h1 : 200 ≤ j) (h2 : j < 204) (ha : 45 ≤ a) : am_go d 23 [.ref a, .ref s] A (.inl none, A.set a (j + 10, vs)) := by
  refine wp_go ?_
  refine wp_st 2 (f' := (2, [some (.ref a), some (.ref s)], [.ref s, .ref a], A)) rfl ?_
  refine wp_ci (n := 0) (v := none) rfl rfl rfl (by omega) (ex_24 (s := s) (by omega) hA h1 h2 ha) rfl ?_
  exact wp_rt rfl rfl rfl rfl
theorem ex_1 {d a s j : Nat} {vs : List Value} {A : am_H} (hd : 8 ≤ d) (hA : A[a]? = some (j, vs)) (h1 : 200 ≤ j) (h2 : j < 204) (ha : 45 ≤ a) : am_go d 88 [.ref a, .ref s] A (.inl none, A.set a (j + 10, vs)) := by
  refine wp_go ?_
  refine wp_st 2 (f' := (2, [some (.ref a), some (.ref s)], [.ref s, .ref a], A)) rfl ?_
  refine wp_ci (n := 0) (v := none) rfl rfl rfl (by omega) (ex_24 (s := s) (by omega) hA h1 h2 ha) rfl ?_
  exact wp_rt rfl rfl rfl rfl
theorem ex_3 {d a s j : Nat} {vs : List Value} {A : am_H} (hd : 8 ≤ d) (hA : A[a]? = some (j, vs)) (h1 : 200 ≤ j) (h2 : j < 204) (ha : 45 ≤ a) : am_go d 114 [.ref a, .ref s] A (.inl none, A.set a (j + 10, vs)) := by
  refine wp_go ?_
  refine wp_st 2 (f' := (2, [some (.ref a), some (.ref s)], [.ref s, .ref a], A)) rfl ?_
  refine wp_ci (n := 0) (v := none) rfl rfl rfl (by omega) (ex_24 (s := s) (by omega) hA h1 h2 ha) rfl ?_
  exact wp_rt rfl rfl rfl rfl
theorem ex_2 {d a s j : Nat} {vs : List Value} {A : am_H} (hd : 8 ≤ d) (hA : A[a]? = some (j, vs)) (h1 : 200 ≤ j) (h2 : j < 204) (ha : 45 ≤ a) : am_go d 115 [.ref a, .ref s] A (.inl none, A.set a (j + 10, vs)) := by
  refine wp_go ?_
  refine wp_st 2 (f' := (2, [some (.ref a), some (.ref s)], [.ref s, .ref a], A)) rfl ?_
  refine wp_ci (n := 0) (v := none) rfl rfl rfl (by omega) (ex_24 (s := s) (by omega) hA h1 h2 ha) rfl ?_
  exact wp_rt rfl rfl rfl rfl
/-- an exception of the kind j, ready to be thrown, is made at the heap's end -/
def ex_hp (A : am_H) (j : Nat) : am_H := A ++ [(j + 10, [.null, .null, .null, .null, .null, .null])]
theorem sb_app_last {A : am_H} {c : am_C} : (A ++ [c])[A.length]? = some c := by simp
theorem sb_app_set {A : am_H} {c c' : am_C} : (A ++ [c]).set A.length c' = A ++ [c'] := by simp
/-- new, dup, ldc, the constructor, throw -/
theorem wp_thr {d m pc x i z s y q : Nat} {L : am_L} {A : am_H} {Q : am_O × am_H → Prop} (h45 : 45 ≤ A.length) (hd : 9 ≤ d) (hc1 : am_code m pc = some (.new x, 3)) (hk : am_cls (am_own m) x = some (q + 200)) (hq : q < 4) (hdf : am_def (q + 200) = [.null, .null, .null, .null, .null, .null]) (hc2 : am_code m (pc + 3) = some (.dup, 1)) (hc3 : am_code m (pc + 4) = some (.ldc i, 2)) (hcon : am_con (am_own m) i = some (.ref s)) (hc4 : am_code m (pc + 6) = some (.invokespecial z, 3)) (hz : am_mth (am_own m) z = some (y, 2)) (hy : y < 1000) (hmx : 2 ≤ am_max y) (hg : ∀ (a j : Nat) (vs : List Value) (B : am_H), B[a]? = some (j, vs) → 200 ≤ j → j < 204 → 45 ≤ a → am_go (d - 1) y [.ref a, .ref s] B (.inl none, B.set a (j + 10, vs))) (hc5 : am_code m (pc + 9) = some (.athrow, 1)) (h3 : (am_hnd m).isEmpty = true) (kk : Q (.inr A.length, ex_hp A (q + 200))) : am_wp d m (pc, L, [], A) Q := by
  refine wp_nw hc1 hk rfl ?_
  refine wp_1 hc2 rfl (show _ = some (pc + 4, L, [.ref A.length, .ref A.length], A ++ [(q + 200, am_def (q + 200))]) from rfl) ?_
  refine wp_1 hc3 rfl (show (am_con (am_own m) i).map _ = some (pc + 6, L, [.ref s, .ref A.length, .ref A.length], A ++ [(q + 200, am_def (q + 200))]) by rw [hcon]; rfl) ?_
  have hs : am_sort m (.invokespecial z) = 2 := by simp [am_sort, hz, hy]
  have hcal : am_cal m (.invokespecial z) [.ref s, .ref A.length, .ref A.length] (A ++ [(q + 200, am_def (q + 200))]) = some (y, [.ref A.length, .ref s], [.ref A.length]) := by
    have h2 : decide ((am_en [.ref A.length, .ref s]).length ≤ am_max y) = true := decide_eq_true hmx
    have e1 : (List.take 2 [(.ref s : Value), .ref A.length, .ref A.length]).reverse = [.ref A.length, .ref s] := rfl
    have e2 : List.drop 2 [(.ref s : Value), .ref A.length, .ref A.length] = [.ref A.length] := rfl
    have e3 : (decide (2 ≤ [(.ref s : Value), .ref A.length, .ref A.length].length) && decide (am_cat [(.ref A.length : Value)] ≤ 8)) = true := rfl
    unfold am_cal
    simp only [hz, Option.bind_some, e1, e2, e3, h2, cond_true]
  have hg' := hg A.length (q + 200) _ (A ++ [(q + 200, am_def (q + 200))]) sb_app_last (by omega) (by omega) h45
  rw [sb_app_set] at hg'
  refine wp_ci (n := 0) (v := none) hc4 hs hcal (by omega) hg' rfl ?_
  show am_wp d m (pc + 9, L, [.ref A.length], _) Q
  refine wp_tw hc5 sb_app_last (by omega) (by omega) h3 ?_
  unfold ex_hp at kk
  rw [hdf]
  exact kk
