/-! Runs of the small machine: more steps allowed change nothing; what a run is made of. -/
theorem am_run_eq (n d m pc : Nat) (L : am_L) (S : List Value) (A : am_H) : am_run (n + 1) d m (pc, L, S, A) = (match am_code m pc with
    | none => none
    | some (i, len) => match am_sort m i with
      | 0 => (match am_step d m i len pc L S A with
        | some f => am_run n d m f
        | none => none)
      | 1 => (am_ret m i S).map fun v => (.inl v, A)
      | 2 => (match am_cal m i S A with
        | some (y, as, r) => (match d with
          | 0 => none
          | d' + 1 => (match am_run n d' y (0, am_ent y as, [], A) with
            | some (.inl v, A') => am_run n d m (pc + 3, L, v.toList ++ r, A')
            | some (.inr a, A') => (match am_fnd (am_hnd m) pc (am_knd A' a) with
              | some h => am_run n d m (h, L, [.ref a], A')
              | none => bif (am_hnd m).isEmpty then some (.inr a, A') else none)
            | none => none))
        | none => none)
      | _ => (match S with
        | .ref a :: _ => bif decide (210 ≤ am_knd A a) && (decide (am_knd A a < 220) && (am_hnd m).isEmpty) then some (.inr a, A) else none
        | _ => none)) := rfl
/-- the cases of a run of one step more -/
theorem am_run_inv {n d m pc : Nat} {L : am_L} {S : List Value} {A : am_H} {z : am_O × am_H} (h : am_run (n + 1) d m (pc, L, S, A) = some z) :
    ∃ i len, am_code m pc = some (i, len) ∧
      ((am_sort m i = 0 ∧ ∃ f, am_step d m i len pc L S A = some f ∧ am_run n d m f = some z) ∨
       (am_sort m i = 1 ∧ ∃ v, am_ret m i S = some v ∧ z = (.inl v, A)) ∨
       (am_sort m i = 2 ∧ ∃ y as r d' q, am_cal m i S A = some (y, as, r) ∧ d = d' + 1 ∧ am_run n d' y (0, am_ent y as, [], A) = some q ∧
          ((∃ v, q.1 = .inl v ∧ am_run n d m (pc + 3, L, v.toList ++ r, q.2) = some z) ∨
           (∃ a, q.1 = .inr a ∧ ((∃ h, am_fnd (am_hnd m) pc (am_knd q.2 a) = some h ∧ am_run n d m (h, L, [.ref a], q.2) = some z) ∨ ((am_hnd m).isEmpty = true ∧ z = (.inr a, q.2)))))) ∨
       (3 ≤ am_sort m i ∧ ∃ a r, S = .ref a :: r ∧ 210 ≤ am_knd A a ∧ am_knd A a < 220 ∧ (am_hnd m).isEmpty = true ∧ z = (.inr a, A))) := by
  rw [am_run_eq] at h
  cases hc : am_code m pc with
  | none => simp [hc] at h
  | some q =>
    obtain ⟨i, len⟩ := q
    refine ⟨i, len, rfl, ?_⟩
    simp only [hc] at h
    rcases hs : am_sort m i with _ | _ | _ | k
    · left
      simp only [hs] at h
      refine ⟨rfl, ?_⟩
      split at h
      · next f hf => exact ⟨f, hf, h⟩
      · cases h
    · right; left
      simp only [hs] at h
      obtain ⟨v, hv, rfl⟩ := Option.map_eq_some_iff.mp h
      exact ⟨rfl, v, hv, rfl⟩
    · right; right; left
      simp only [hs] at h
      refine ⟨rfl, ?_⟩
      split at h
      · next y as r hcal =>
        cases d with
        | zero => cases h
        | succ d' =>
          simp only at h
          split at h
          · next v A' hr => exact ⟨y, as, r, d', _, hcal, rfl, hr, Or.inl ⟨v, rfl, h⟩⟩
          · next a A' hr =>
            refine ⟨y, as, r, d', _, hcal, rfl, hr, Or.inr ⟨a, rfl, ?_⟩⟩
            split at h
            · next k hk => exact Or.inl ⟨k, hk, h⟩
            · next hk =>
              cases he : (am_hnd m).isEmpty with
              | false => simp [he] at h
              | true => simp only [he, cond_true, Option.some.injEq] at h; exact Or.inr ⟨rfl, h.symm⟩
          · cases h
      · cases h
    · right; right; right
      simp only [hs] at h
      refine ⟨by omega, ?_⟩
      split at h
      · next a r =>
        by_cases hc : (decide (210 ≤ am_knd A a) && (decide (am_knd A a < 220) && (am_hnd m).isEmpty)) = true
        · rw [hc] at h
          simp only [cond_true, Option.some.injEq] at h
          simp only [Bool.and_eq_true, decide_eq_true_eq] at hc
          exact ⟨a, r, rfl, hc.1, hc.2.1, hc.2.2, h.symm⟩
        · rw [Bool.not_eq_true] at hc
          rw [hc] at h
          cases h
      · cases h
theorem am_run_mk {n d m pc : Nat} {L : am_L} {S : List Value} {A : am_H} {z : am_O × am_H} {i : Instr} {len : Nat} (hc : am_code m pc = some (i, len)) (h :
      ((am_sort m i = 0 ∧ ∃ f, am_step d m i len pc L S A = some f ∧ am_run n d m f = some z) ∨
       (am_sort m i = 1 ∧ ∃ v, am_ret m i S = some v ∧ z = (.inl v, A)) ∨
       (am_sort m i = 2 ∧ ∃ y as r d' q, am_cal m i S A = some (y, as, r) ∧ d = d' + 1 ∧ am_run n d' y (0, am_ent y as, [], A) = some q ∧
          ((∃ v, q.1 = .inl v ∧ am_run n d m (pc + 3, L, v.toList ++ r, q.2) = some z) ∨
           (∃ a, q.1 = .inr a ∧ ((∃ h, am_fnd (am_hnd m) pc (am_knd q.2 a) = some h ∧ am_run n d m (h, L, [.ref a], q.2) = some z) ∨ ((am_hnd m).isEmpty = true ∧ z = (.inr a, q.2)))))) ∨
       (3 ≤ am_sort m i ∧ ∃ a r, S = .ref a :: r ∧ 210 ≤ am_knd A a ∧ am_knd A a < 220 ∧ (am_hnd m).isEmpty = true ∧ z = (.inr a, A)))) : am_run (n + 1) d m (pc, L, S, A) = some z := by
  rw [am_run_eq]
  simp only [hc]
  rcases h with ⟨hs, f, hf, hr⟩ | ⟨hs, v, hv, rfl⟩ | ⟨hs, y, as, r, d', ⟨o, A'⟩, hcal, rfl, hr, h⟩ | ⟨hs, a, r, rfl, h1, h2, h3, rfl⟩
  · simp only [hs, hf, hr]
  · simp only [hs, hv, Option.map_some]
  · simp only [hs, hcal, hr]
    rcases h with ⟨v, rfl, h⟩ | ⟨a, rfl, ⟨k, hk, h⟩ | ⟨hk, rfl⟩⟩
    · exact h
    · simp only [hk]; exact h
    · have hz : am_hnd m = [] := List.isEmpty_iff.mp hk
      simp only [hz, am_fnd, List.isEmpty_nil, cond_true]
  · obtain ⟨k, hk⟩ : ∃ k, am_sort m i = k + 3 := ⟨am_sort m i - 3, by omega⟩
    simp only [hk, h1, h2, h3, decide_true, Bool.and_self, cond_true]
theorem am_mono {n d m : Nat} {f : am_F} {z : am_O × am_H} (h : am_run n d m f = some z) : am_run (n + 1) d m f = some z := by
  induction n generalizing d m f z with
  | zero => cases h
  | succ n ih =>
    obtain ⟨pc, L, S, A⟩ := f
    obtain ⟨i, len, hc, hh⟩ := am_run_inv h
    refine am_run_mk hc ?_
    rcases hh with ⟨hs, f, hf, hr⟩ | h1 | ⟨hs, y, as, r, d', q, hcal, hd, hr, h1⟩ | h1
    · exact Or.inl ⟨hs, f, hf, ih hr⟩
    · exact Or.inr (Or.inl h1)
    · refine Or.inr (Or.inr (Or.inl ⟨hs, y, as, r, d', q, hcal, hd, ih hr, ?_⟩))
      rcases h1 with ⟨v, e, h⟩ | ⟨a, e, ⟨k, hk, h⟩ | h⟩
      · exact Or.inl ⟨v, e, ih h⟩
      · exact Or.inr ⟨a, e, Or.inl ⟨k, hk, ih h⟩⟩
      · exact Or.inr ⟨a, e, Or.inr h⟩
    · exact Or.inr (Or.inr (Or.inr h1))
theorem am_more {n k d m : Nat} {f : am_F} {z : am_O × am_H} (h : am_run n d m f = some z) (hk : n ≤ k) : am_run k d m f = some z := by
  obtain ⟨j, rfl⟩ := Nat.exists_eq_add_of_le hk
  clear hk
  induction j with
  | zero => exact h
  | succ j ih => exact am_mono ih
/-- the frame f comes to the end z -/
def am_ev (d m : Nat) (f : am_F) (z : am_O × am_H) : Prop := ∃ n, am_run n d m f = some z
/-- the method m, called with these arguments, comes to the end z -/
def am_go (d m : Nat) (as : List Value) (A : am_H) (z : am_O × am_H) : Prop := am_ev d m (0, am_ent m as, [], A) z
noncomputable def am_nx (d m : Nat) (f : am_F) : Option am_F := match am_code m f.1 with
  | some (i, len) => (match am_sort m i with
    | 0 => am_step d m i len f.1 f.2.1 f.2.2.1 f.2.2.2
    | _ => none)
  | none => none
theorem ev_nx {d m : Nat} {f f' : am_F} {z : am_O × am_H} (h : am_nx d m f = some f') (k : am_ev d m f' z) : am_ev d m f z := by
  obtain ⟨n, hn⟩ := k
  obtain ⟨pc, L, S, A⟩ := f
  refine ⟨n + 1, ?_⟩
  unfold am_nx at h
  split at h
  · next i len hc =>
    split at h
    · next hs => exact am_run_mk hc (Or.inl ⟨hs, f', h, hn⟩)
    · cases h
  · cases h
theorem ev_rt {d m pc : Nat} {L : am_L} {S : List Value} {A : am_H} {i : Instr} {len : Nat} {v : Option Value} (hc : am_code m pc = some (i, len)) (hs : am_sort m i = 1) (h : am_ret m i S = some v) : am_ev d m (pc, L, S, A) (.inl v, A) :=
  ⟨1, am_run_mk hc (Or.inr (Or.inl ⟨hs, v, h, rfl⟩))⟩
theorem ev_th {d m pc : Nat} {L : am_L} {r : List Value} {A : am_H} {i : Instr} {len a : Nat} (hc : am_code m pc = some (i, len)) (hs : am_sort m i = 3) (h1 : 210 ≤ am_knd A a) (h2 : am_knd A a < 220) (h3 : (am_hnd m).isEmpty = true) : am_ev d m (pc, L, .ref a :: r, A) (.inr a, A) :=
  ⟨1, am_run_mk hc (Or.inr (Or.inr (Or.inr ⟨by omega, a, r, rfl, h1, h2, h3, rfl⟩)))⟩
theorem ev_cl {d m pc : Nat} {L : am_L} {S : List Value} {A A' : am_H} {i : Instr} {len y : Nat} {as r : List Value} {v : Option Value} {z : am_O × am_H} (hc : am_code m pc = some (i, len)) (hs : am_sort m i = 2) (h : am_cal m i S A = some (y, as, r))
    (hg : am_go d y as A (.inl v, A')) (k : am_ev (d + 1) m (pc + 3, L, v.toList ++ r, A') z) : am_ev (d + 1) m (pc, L, S, A) z := by
  obtain ⟨n1, h1⟩ := hg
  obtain ⟨n2, h2⟩ := k
  refine ⟨max n1 n2 + 1, am_run_mk hc (Or.inr (Or.inr (Or.inl ⟨hs, y, as, r, d, _, h, rfl, am_more h1 (Nat.le_max_left ..), Or.inl ⟨v, rfl, am_more h2 (Nat.le_max_right ..)⟩⟩)))⟩
theorem ev_cx {d m pc : Nat} {L : am_L} {S : List Value} {A A' : am_H} {i : Instr} {len y a h' : Nat} {as r : List Value} {z : am_O × am_H} (hc : am_code m pc = some (i, len)) (hs : am_sort m i = 2) (h : am_cal m i S A = some (y, as, r))
    (hg : am_go d y as A (.inr a, A')) (hf : am_fnd (am_hnd m) pc (am_knd A' a) = some h') (k : am_ev (d + 1) m (h', L, [.ref a], A') z) : am_ev (d + 1) m (pc, L, S, A) z := by
  obtain ⟨n1, h1⟩ := hg
  obtain ⟨n2, h2⟩ := k
  refine ⟨max n1 n2 + 1, am_run_mk hc (Or.inr (Or.inr (Or.inl ⟨hs, y, as, r, d, _, h, rfl, am_more h1 (Nat.le_max_left ..), Or.inr ⟨a, rfl, Or.inl ⟨h', hf, am_more h2 (Nat.le_max_right ..)⟩⟩⟩)))⟩
theorem ev_ct {d m pc : Nat} {L : am_L} {S : List Value} {A A' : am_H} {i : Instr} {len y a : Nat} {as r : List Value} (hc : am_code m pc = some (i, len)) (hs : am_sort m i = 2) (h : am_cal m i S A = some (y, as, r))
    (hg : am_go d y as A (.inr a, A')) (hf : (am_hnd m).isEmpty = true) : am_ev (d + 1) m (pc, L, S, A) (.inr a, A') := by
  obtain ⟨n1, h1⟩ := hg
  exact ⟨n1 + 1, am_run_mk hc (Or.inr (Or.inr (Or.inl ⟨hs, y, as, r, d, _, h, rfl, h1, Or.inr ⟨a, rfl, Or.inr ⟨hf, rfl⟩⟩⟩)))⟩
/-! the heap only grows -/
theorem am_sl_app (A B : am_H) : am_sl (A ++ B) = am_sl A + am_sl B := by simp [am_sl]
theorem am_sl_set {c c' : am_C} : ∀ {A : am_H} {a : Nat}, A[a]? = some c → c'.2.length = c.2.length → am_sl (A.set a c') = am_sl A
  | [], _, h, _ => by cases h
  | x :: t, 0, h, e => by
    simp only [List.getElem?_cons_zero, Option.some.injEq] at h
    subst h
    simp [am_sl, e]
  | x :: t, a + 1, h, e => by
    have h2 : t[a]? = some c := by simpa using h
    have h3 := am_sl_set h2 e
    simp only [am_sl, List.set_cons_succ, List.map_cons, List.sum_cons] at h3 ⊢
    omega
/-- one heap is as large as another, at least -/
def am_gr (A B : am_H) : Prop := A.length ≤ B.length ∧ am_sl A ≤ am_sl B
theorem am_gr.refl (A : am_H) : am_gr A A := ⟨Nat.le_refl _, Nat.le_refl _⟩
theorem am_gr.trans {A B C : am_H} (h : am_gr A B) (k : am_gr B C) : am_gr A C := ⟨Nat.le_trans h.1 k.1, Nat.le_trans h.2 k.2⟩
theorem am_gr_app (A B : am_H) : am_gr A (A ++ B) := ⟨by simp, by rw [am_sl_app]; omega⟩
theorem am_gr_set {A : am_H} {a : Nat} {c c' : am_C} (h : A[a]? = some c) (e : c'.2.length = c.2.length) : am_gr A (A.set a c') := ⟨by simp, by rw [am_sl_set h e]; exact Nat.le_refl _⟩
theorem am_at_get {A : am_H} {a k : Nat} {vs : List Value} (h : am_at A a k = some vs) : A[a]? = some (k, vs) := by
  unfold am_at at h
  split at h
  · next c hc =>
    cases hk : c.1 == k with
    | false => simp [hk] at h
    | true =>
      simp [hk] at h
      rw [hc, ← h, ← (beq_iff_eq.mp hk)]
  · cases h
theorem am_put_gr {k a : Nat} {vs r : List Value} {i : Int32} {v : Value} {A : am_H} {q : List Value × am_H} (hA : A[a]? = some (k, vs)) (h : am_put k a vs i v r A = some q) : am_gr A q.2 := by
  unfold am_put at h
  split at h
  · cases h
  · cases hc : (decide (i.toNatClampNeg < vs.length) && decide (am_S0 ≤ a)) with
    | false => simp [hc] at h
    | true =>
      simp only [hc, cond_true, Option.some.injEq] at h
      subst h
      exact am_gr_set hA (by simp)
theorem am_blt_gr {d z : Nat} {S : List Value} {A : am_H} {q : List Value × am_H} (h : am_blt d z S A = some q) : am_gr A q.2 := by
  unfold am_blt at h
  split at h
  · split at h
    · next r =>
      cases hc : (decide (1 ≤ d) && decide (am_cat r ≤ 8)) with
      | false => simp [hc] at h
      | true => simp only [hc, cond_true, Option.some.injEq] at h; subst h; exact am_gr.refl A
    · cases h
  · split at h
    · next b a r =>
      obtain ⟨c, h1, h2⟩ := Option.bind_eq_some_iff.mp h
      cases hc : (decide (6 ≤ d) && (decide (am_cat r ≤ 8) && (decide (200 ≤ c.1) && (decide (c.1 < 204) && decide (am_S0 ≤ a))))) with
      | false => simp [hc] at h2
      | true => simp only [hc, cond_true, Option.some.injEq] at h2; subst h2; exact am_gr_set h1 rfl
    · cases h
  all_goals first
    | (split at h
       · next y x r =>
         cases hc : (decide (1 ≤ d) && decide (am_cat r ≤ 8)) with
         | false => simp [hc] at h
         | true => simp only [hc, cond_true, Option.some.injEq] at h; subst h; exact am_gr.refl A
       · cases h)
    | cases h
theorem am_bl_inv {b : Bool} {d z : Nat} {S : List Value} {A : am_H} {q : List Value × am_H} (h : am_bl b d z S A = some q) : b = true ∧ am_blt d z S A = some q := by
  unfold am_bl at h
  cases b with
  | false => cases h
  | true => exact ⟨rfl, h⟩
theorem am_newa_gr {k : Nat} {v : Value} {S : List Value} {A : am_H} {q : List Value × am_H} (h : am_newa k v S A = some q) : am_gr A q.2 := by
  unfold am_newa at h
  split at h
  · next n r =>
    split at h
    · cases h
    · cases hc : decide (n.toNatClampNeg ≤ 65536) with
      | false => simp [hc] at h
      | true => simp only [hc, cond_true, Option.some.injEq] at h; subst h; exact am_gr_app ..
  · cases h
theorem am_step_gr {d m : Nat} {i : Instr} {len pc : Nat} {L : am_L} {S : List Value} {A : am_H} {f : am_F} (h : am_step d m i len pc L S A = some f) : am_gr A f.2.2.2 := by
  unfold am_step at h
  split at h
  case h_2 x =>
    obtain ⟨q, h1, rfl⟩ := Option.map_eq_some_iff.mp h
    unfold am_putf at h1
    split at h1
    · next v a r =>
      obtain ⟨z, h2, h3⟩ := Option.bind_eq_some_iff.mp h1
      obtain ⟨vs, h4, h5⟩ := Option.bind_eq_some_iff.mp h3
      cases hc : (fits (am_fty z.1 z.2) v && (decide (z.2 < vs.length) && decide (am_S0 ≤ a))) with
      | false => simp [hc] at h5
      | true => simp only [hc, cond_true, Option.some.injEq] at h5; subst h5; exact am_gr_set (am_at_get h4) (by simp)
    · cases h1
  all_goals first
    | (obtain ⟨q, h1, rfl⟩ := Option.map_eq_some_iff.mp h; first | exact am_gr.refl _ | exact am_gr_app _ _ | exact am_newa_gr h1)
    | (obtain ⟨k, -, h2⟩ := Option.bind_eq_some_iff.mp h; obtain ⟨q, h1, rfl⟩ := Option.map_eq_some_iff.mp h2; first | exact am_newa_gr h1 | exact am_blt_gr (am_bl_inv h1).2)
    | (obtain ⟨q, h1, rfl⟩ := Option.map_eq_some_iff.mp h
       unfold am_ast at h1
       split at h1
       · obtain ⟨vs, h4, h5⟩ := Option.bind_eq_some_iff.mp h1
         exact am_put_gr (am_at_get h4) h5
       · cases h1)
    | (obtain ⟨q, h1, rfl⟩ := Option.map_eq_some_iff.mp h
       unfold am_lst at h1
       split at h1
       · obtain ⟨vs, h4, h5⟩ := Option.bind_eq_some_iff.mp h1
         exact am_put_gr (am_at_get h4) h5
       · cases h1)
    | (obtain ⟨q, h1, rfl⟩ := Option.map_eq_some_iff.mp h
       unfold am_rst at h1
       split at h1
       · obtain ⟨c, h4, h5⟩ := Option.bind_eq_some_iff.mp h1
         obtain ⟨_, _, h6⟩ := Option.bind_eq_some_iff.mp h5
         obtain ⟨_, _, h7⟩ := Option.bind_eq_some_iff.mp h6
         exact am_put_gr h4 h7
       · cases h1)
theorem am_run_gr {n d m : Nat} {f : am_F} {z : am_O × am_H} (h : am_run n d m f = some z) : am_gr f.2.2.2 z.2 := by
  induction n generalizing d m f z with
  | zero => cases h
  | succ n ih =>
    obtain ⟨pc, L, S, A⟩ := f
    obtain ⟨i, len, hc, hh⟩ := am_run_inv h
    rcases hh with ⟨hs, f, hf, hr⟩ | ⟨-, v, -, rfl⟩ | ⟨hs, y, as, r, d', q, hcal, hd, hr, h1⟩ | ⟨-, a, r, -, -, -, -, rfl⟩
    · exact (am_step_gr hf).trans (ih hr)
    · exact am_gr.refl A
    · have g := ih hr
      rcases h1 with ⟨v, e, h⟩ | ⟨a, e, ⟨k, hk, h⟩ | ⟨-, rfl⟩⟩
      · exact g.trans (ih h)
      · exact g.trans (ih h)
      · exact g
    · exact am_gr.refl A
/-! stores leave the sizes -/
theorem am_put_same {k a : Nat} {vs r S' : List Value} {i : Int32} {v : Value} {A A' : am_H} (hA : A[a]? = some (k, vs)) (h : am_put k a vs i v r A = some (S', A')) : A'.length = A.length ∧ am_sl A' = am_sl A := by
  unfold am_put at h
  split at h
  · cases h
  · cases hc : (decide (i.toNatClampNeg < vs.length) && decide (am_S0 ≤ a)) with
    | false => simp [hc] at h
    | true =>
      simp only [hc, cond_true, Option.some.injEq, Prod.mk.injEq] at h
      obtain ⟨-, rfl⟩ := h
      exact ⟨by simp, am_sl_set hA (by simp)⟩
theorem am_ast_same {k : Nat} {f : Int32 → Value} {S S' : List Value} {A A' : am_H} (h : am_ast k f S A = some (S', A')) : A'.length = A.length ∧ am_sl A' = am_sl A := by
  unfold am_ast at h
  split at h
  · obtain ⟨vs, h4, h5⟩ := Option.bind_eq_some_iff.mp h
    exact am_put_same (am_at_get h4) h5
  · cases h
theorem am_lst_same {S S' : List Value} {A A' : am_H} (h : am_lst S A = some (S', A')) : A'.length = A.length ∧ am_sl A' = am_sl A := by
  unfold am_lst at h
  split at h
  · obtain ⟨vs, h4, h5⟩ := Option.bind_eq_some_iff.mp h
    exact am_put_same (am_at_get h4) h5
  · cases h
theorem am_rst_same {S S' : List Value} {A A' : am_H} (h : am_rst S A = some (S', A')) : A'.length = A.length ∧ am_sl A' = am_sl A := by
  unfold am_rst at h
  split at h
  · obtain ⟨c, h4, h5⟩ := Option.bind_eq_some_iff.mp h
    obtain ⟨_, _, h6⟩ := Option.bind_eq_some_iff.mp h5
    obtain ⟨_, _, h7⟩ := Option.bind_eq_some_iff.mp h6
    exact am_put_same h4 h7
  · cases h
theorem am_blt_same {d z : Nat} {S S' : List Value} {A A' : am_H} (h : am_blt d z S A = some (S', A')) : A'.length = A.length ∧ am_sl A' = am_sl A := by
  unfold am_blt at h
  split at h
  case h_2 =>
    split at h
    · next b a r =>
      obtain ⟨c, h1, h2⟩ := Option.bind_eq_some_iff.mp h
      cases hc : (decide (6 ≤ d) && (decide (am_cat r ≤ 8) && (decide (200 ≤ c.1) && (decide (c.1 < 204) && decide (am_S0 ≤ a))))) with
      | false => simp [hc] at h2
      | true =>
        simp only [hc, cond_true, Option.some.injEq, Prod.mk.injEq] at h2
        obtain ⟨-, rfl⟩ := h2
        exact ⟨by simp, am_sl_set h1 rfl⟩
    · cases h
  all_goals first
    | cases h
    | (split at h
       · next r =>
         cases hc : (decide (1 ≤ d) && decide (am_cat r ≤ 8)) with
         | false => simp [hc] at h
         | true => simp only [hc, cond_true, Option.some.injEq, Prod.mk.injEq] at h; obtain ⟨-, rfl⟩ := h; exact ⟨rfl, rfl⟩
       · cases h)
