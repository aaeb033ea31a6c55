/-! Rules for what makes new cells: the heap is a part that stays, and the cells behind it. -/
section WQ
variable {d m pc : Nat} {L : am_L} {r : List Value} {A l l' : am_H} {Q : am_O × am_H → Prop}
theorem wq_at {i a : Nat} {c : am_C} (ha : A.length + i = a) (hl : l[i]? = some c) : (A ++ l)[a]? = some c := by
  rw [← ha, List.getElem?_append_right (by omega), Nat.add_sub_cancel_left]
  exact hl
theorem wq_set {i a : Nat} {c : am_C} (ha : A.length + i = a) (hl : l.set i c = l') : (A ++ l).set a c = A ++ l' := by
  rw [← ha, List.set_append, if_neg (by omega), Nat.add_sub_cancel_left, hl]
theorem wq_na {ty : ArrayType} {cnt a t kd : Nat} {v : Value} (hc : am_code m pc = some (.newarray ty, 2)) (hs : am_sort m (.newarray ty) = 0) (hk : am_atk ty = kd) (hv : defaultValue (newarray.typeOf ty) = v) (hcnt : cnt ≤ 65536) (ha : A.length + l.length = a) (ht : pc + 2 = t) (hl : l ++ [(kd, List.replicate cnt v)] = l') (kk : am_wp d m (t, L, .ref a :: r, A ++ l') Q) : am_wp d m (pc, L, .int (Int32.ofNat cnt) :: r, A ++ l) Q := by
  subst ht
  subst hl
  have e : am_newa (am_atk ty) (defaultValue (newarray.typeOf ty)) (.int (Int32.ofNat cnt) :: r) (A ++ l) = some (.ref a :: r, A ++ (l ++ [(kd, List.replicate cnt v)])) := by
    unfold am_newa
    dsimp only
    rw [if_neg (Int32.ofNat_not_neg (by omega)), Int32.toNatClampNeg_ofNat_of_lt (by omega), decide_eq_true hcnt, hk, hv, List.length_append, ha, List.append_assoc]
    rfl
  exact wp_1 hc hs (show Option.map (fun q : List Value × am_H => (pc + 2, L, q.1, q.2)) (am_newa (am_atk ty) (defaultValue (newarray.typeOf ty)) (.int (Int32.ofNat cnt) :: r) (A ++ l)) = _ from by rw [e]; rfl) kk
theorem wq_an {x cnt a t kd : Nat} (hc : am_code m pc = some (.anewarray x, 3)) (hs : am_sort m (.anewarray x) = 0) (hk : am_ark (am_own m) x = some kd) (hcnt : cnt ≤ 65536) (ha : A.length + l.length = a) (ht : pc + 3 = t) (hl : l ++ [(kd, List.replicate cnt .null)] = l') (kk : am_wp d m (t, L, .ref a :: r, A ++ l') Q) : am_wp d m (pc, L, .int (Int32.ofNat cnt) :: r, A ++ l) Q := by
  subst ht
  subst hl
  have e : am_newa kd .null (.int (Int32.ofNat cnt) :: r) (A ++ l) = some (.ref a :: r, A ++ (l ++ [(kd, List.replicate cnt .null)])) := by
    unfold am_newa
    dsimp only
    rw [if_neg (Int32.ofNat_not_neg (by omega)), Int32.toNatClampNeg_ofNat_of_lt (by omega), decide_eq_true hcnt, List.length_append, ha, List.append_assoc]
    rfl
  exact wp_1 hc hs (show Option.bind (am_ark (am_own m) x) (fun k => Option.map (fun q : List Value × am_H => (pc + 3, L, q.1, q.2)) (am_newa k .null (.int (Int32.ofNat cnt) :: r) (A ++ l))) = _ from by rw [hk]; show Option.map _ (am_newa kd .null (.int (Int32.ofNat cnt) :: r) (A ++ l)) = _; rw [e]; rfl) kk
theorem wq_nw {x a t k : Nat} {vs : List Value} (hc : am_code m pc = some (.new x, 3)) (hk : am_cls (am_own m) x = some k) (hv : am_def k = vs) (ha : A.length + l.length = a) (ht : pc + 3 = t) (hl : l ++ [(k, vs)] = l') (kk : am_wp d m (t, L, .ref a :: r, A ++ l') Q) : am_wp d m (pc, L, r, A ++ l) Q := by
  subst hl
  subst hv
  refine wp_nw hc hk ht ?_
  rw [List.length_append, ha, List.append_assoc]
  exact kk
theorem wq_pf {x k j i a t : Nat} {vs : List Value} {v : Value} (hc : am_code m pc = some (.putfield x, 3)) (hf : am_fld (am_own m) x = some (k, j)) (ha : A.length + i = a) (hl : l[i]? = some (k, vs)) (hfit : fits (am_fty k j) v = true) (hj : decide (j < vs.length) = true) (h45 : 45 ≤ a) (ht : pc + 3 = t) (hs : l.set i (k, vs.set j v) = l') (kk : am_wp d m (t, L, r, A ++ l') Q) : am_wp d m (pc, L, v :: .ref a :: r, A ++ l) Q :=
  wp_pf (A' := A ++ l') hc hf (wq_at ha hl) hfit hj (decide_eq_true h45) ht (wq_set ha hs) kk
theorem wq_rs {k q i iw a n w t : Nat} {vs ws : List Value} (hc : am_code m pc = some (.aastore, 1)) (ha : A.length + i = a) (hl : l[i]? = some (k, vs)) (hq : am_cmp k = some q) (hwa : A.length + iw = w) (hw : l[iw]? = some (q, ws)) (hn : n < 2147483648) (hnl : n < vs.length) (h45 : 45 ≤ a) (ht : pc + 1 = t) (hs : l.set i (k, vs.set n (.ref w)) = l') (kk : am_wp d m (t, L, r, A ++ l') Q) : am_wp d m (pc, L, .ref w :: .int (Int32.ofNat n) :: .ref a :: r, A ++ l) Q :=
  wp_rs (A' := A ++ l') hc (wq_at ha hl) hq (wq_at hwa hw) hn hnl (decide_eq_true h45) ht (wq_set ha hs) kk
theorem wq_ct {x y a k t : Nat} {vs : List Value} {l0 B : am_H} (hc : am_code m pc = some (.invokespecial x, 3)) (hs : am_sort m (.invokespecial x) = 2) (hcal : am_cal m (.invokespecial x) (.ref a :: r) (A ++ l) = some (y, [.ref a], r)) (hd : 1 ≤ d) (hl : l0 ++ [(k, vs)] = l) (hg : am_go (d - 1) y [.ref a] ((A ++ l0) ++ [(k, vs)]) (.inl none, (A ++ l0) ++ B)) (ht : pc + 3 = t) (hl' : l0 ++ B = l') (kk : am_wp d m (t, L, r, A ++ l') Q) : am_wp d m (pc, L, .ref a :: r, A ++ l) Q := by
  subst hl
  subst hl'
  rw [List.append_assoc, List.append_assoc] at hg
  exact wp_ci (n := 0) (A' := A ++ (l0 ++ B)) (v := none) hc hs hcal hd hg ht kk
end WQ
