/-! The reference's readRule: states. -/
def rs_su (j i : Nat) : Prop := rs_sc j i ∨ ((j = 30 ∨ j = 31) ∧ 16 ≤ i)
def rs_Y (s t : rf_S) : Prop := ∀ j i, ¬ rs_su j i → t j i = s j i
theorem rs_Y.refl (s : rf_S) : rs_Y s s := fun _ _ _ => rfl
theorem rs_Y.trans {s t u : rf_S} (h : rs_Y s t) (k : rs_Y t u) : rs_Y s u := fun j i q => (k j i q).trans (h j i q)
theorem rs_X.Y {s t : rf_S} (h : rs_X s t) : rs_Y s t := fun j i q => h j i (fun e => q (Or.inl e))
theorem rs_Y.u {s t : rf_S} {j i : Nat} {v : Value} (h : rs_Y s t) (hs : rs_su j i) : rs_Y s (rf_u t j i v) := fun j' i' q => by
  rw [rf_u_ne (by
    by_cases hj : j' = j
    · exact Or.inr (fun e => q (by rw [hj, e]; exact hs))
    · exact Or.inl hj)]
  exact h j' i' q
theorem rs_Y.tx {s t : rf_S} {cs : List Nat} {n : Nat} (h : rs_Y s t) (hx : rf_tx s cs n) : rf_tx t cs n := by
  refine ⟨?_, fun i hi => ?_, hx.2.2⟩
  · rw [h 3 0 (by unfold rs_su rs_sc; omega)]
    exact hx.1
  · rw [h 2 i (by unfold rs_su rs_sc; omega)]
    exact hx.2.1 i hi
/-- how reading a rule ends -/
def rq_U (A : am_H) (b : Nat) (s : rf_S) (n : Nat) (x : ru_R) (q : am_O × am_H) : Prop := match x with
  | .ok y => q.1 = .inl none ∧ ∃ t r g, rf q.2 b (rf_c t y.1 (-1) r g) ∧ rs_S t y.2 ∧ rs_Y s t ∧ sb_fr A q.2 b (b + 38)
  | .error e => q.1 = .inl none ∧ ∃ t p r g, rf q.2 b (rf_c t p (Int32.ofNat e) r g) ∧ p ≤ n + 20 ∧ rs_Y s t ∧ sb_fr A q.2 b (b + 38)
theorem rq_U_ok {A B : am_H} {b n a g : Nat} {s t : rf_S} {r : Int64} {S : rg} (h1 : rf B b (rf_c t a (-1) r g)) (h2 : rs_S t S) (h3 : rs_Y s t) (h4 : sb_fr A B b (b + 38)) : rq_U A b s n (.ok (a, S)) (.inl none, B) := ⟨rfl, t, r, g, h1, h2, h3, h4⟩
theorem rq_U_er {A B : am_H} {b n e p g : Nat} {s t : rf_S} {r : Int64} (h1 : rf B b (rf_c t p (Int32.ofNat e) r g)) (h4 : p ≤ n + 20) (h5 : rs_Y s t) (h6 : sb_fr A B b (b + 38)) : rq_U A b s n (.error e) (.inl none, B) := ⟨rfl, t, p, r, g, h1, h4, h5, h6⟩
theorem rq_U.tr {A B : am_H} {b n : Nat} {s t : rf_S} {X : ru_R} {q : am_O × am_H} (h1 : rs_Y s t) (h2 : sb_fr A B b (b + 38)) (h : rq_U B b t n X q) : rq_U A b s n X q := by
  cases X with
  | ok y =>
    obtain ⟨a, t', r, g, b1, b2, b3, b4⟩ := h
    exact ⟨a, t', r, g, b1, b2, h1.trans b3, h2.trans b4⟩
  | error e =>
    obtain ⟨a, t', p, r, g, b1, b3, b5, b6⟩ := h
    exact ⟨a, t', p, r, g, b1, b3, h1.trans b5, h2.trans b6⟩
/-- from behind a relation on -/
def ru_ct (cs : List Nat) (n k a : Nat) (S : rg) : ru_R :=
  if sb_re 97 122 cs n a = a then .ok (a, S)
  else if rd_is cs rd_WO a (sb_re 97 122 cs n a) = true then ru_cond cs n k true (sb_re 97 122 cs n a) S
  else if rd_is cs rd_WA a (sb_re 97 122 cs n a) = true then ru_cond cs n k false (sb_re 97 122 cs n a) S
  else .error a
theorem ru_cond_ct (cs : List Nat) (n k a : Nat) (og : Bool) (S : rg) : ru_cond cs n (k + 1) og a S = match ru_rel cs n og a S with
    | .error e => .error e
    | .ok (a1, S1) => ru_ct cs n k a1 S1 := rfl
def ru_cl (c f : Nat) (x : ru_R) : ru_R := match x with
  | .error e => .error e
  | .ok (a4, S4) => .ok (a4, rg_close S4 c f)
theorem ru_rngs_fe {cs : List Nat} {n : Nat} : ∀ k a S a' S', ru_rngs cs n k a S = .ok (a', S') → rg_f S' = rg_f S ∧ rg_e S' = rg_e S
  | 0, a, S, a', S', h => by cases h
  | k + 1, a, S, a', S', h => by
    rw [ru_rngs] at h
    rcases hr : ru_rg cs n a with e | ⟨a9, l, h9⟩
    · rw [ru_rg_er hr] at h; cases h
    · rw [ru_rg_ok hr] at h
      dsimp only at h
      split at h
      · have e := ru_rngs_fe k _ _ _ _ h
        exact e
      · cases h; exact ⟨rfl, rfl⟩
theorem ru_rel2_fe {cs : List Nat} {n o m a a' : Nat} {og : Bool} {S S' : rg} (h : ru_rel2 cs n og o m a S = .ok (a', S')) : rg_f S' = rg_f S ∧ rg_e S' = rg_e S := by
  unfold ru_rel2 at h
  repeat' split at h
  all_goals first | (cases h; done) | (have e := ru_rngs_fe _ _ _ _ _ h; exact e)
theorem ru_rel_fe {cs : List Nat} {n a a' : Nat} {og : Bool} {S S' : rg} (h : ru_rel cs n og a S = .ok (a', S')) : rg_f S' = rg_f S ∧ rg_e S' = rg_e S := by
  unfold ru_rel at h
  repeat' split at h
  all_goals first | (cases h; done) | exact ru_rel2_fe h
theorem rg_hr_fe {S S' : rg} {c : Nat} (h : rg_f S' = rg_f S ∧ rg_e S' = rg_e S) : rg_hr S' c = rg_hr S c := by
  unfold rg_hr
  rw [h.1, h.2]
theorem rs_S.at30 {s : rf_S} {S : rg} {c : Nat} {v : Value} (h : rs_S s S) (hc : rg_hr S c = false) : rs_S (rf_u s 30 (16 + c) v) S := by
  obtain ⟨a1, a2, ⟨a3, a4⟩, a5, a6⟩ := h
  have hk : ∀ j i, j ≠ 30 → rf_u s 30 (16 + c) v j i = s j i := fun j i q => rf_u_ne (Or.inl q)
  refine ⟨by rw [hk _ _ (by omega)]; exact a1, by rw [hk _ _ (by omega)]; exact a2, ⟨fun i hi => ?_, fun i hi => ?_⟩, fun c' hc' => ?_, a6⟩
  · rw [hk _ _ (by omega), hk _ _ (by omega), hk _ _ (by omega), hk _ _ (by omega), hk _ _ (by omega), hk _ _ (by omega)]; exact a3 i hi
  · rw [hk _ _ (by omega), hk _ _ (by omega)]; exact a4 i hi
  · by_cases e : c' = c
    · subst e
      exact ⟨fun q => by rw [hc] at q; exact Bool.noConfusion q, fun _ => by rw [hk _ _ (by omega)]; exact (a5 c' hc').2 hc⟩
    · have hne : ∀ j, rf_u s 30 (16 + c) v j (16 + c') = s j (16 + c') := fun j => rf_u_ne (Or.inr (by omega))
      rw [hne, hne]; exact a5 c' hc'
theorem rs_S.close {s : rf_S} {S : rg} {c f : Nat} (h : rs_S s S) (h30 : s 30 (16 + c) = .int (Int32.ofNat (96 + f))) (hf : f < rg_R S) : rs_S (rf_u s 31 (16 + c) (.int (Int32.ofNat (rg_R S - f)))) (rg_close S c f) := by
  obtain ⟨a1, a2, ⟨a3, a4⟩, a5, a6, a7, a8⟩ := h
  have hk : ∀ j i, j ≠ 31 → rf_u s 31 (16 + c) (.int (Int32.ofNat (rg_R S - f))) j i = s j i := fun j i q => rf_u_ne (Or.inl q)
  refine ⟨by rw [hk _ _ (by omega)]; exact a1, by rw [hk _ _ (by omega)]; exact a2, ⟨fun i hi => ?_, fun i hi => ?_⟩, fun c' hc' => ?_, a6, a7, fun c' hc' => ?_⟩
  · rw [hk _ _ (by omega), hk _ _ (by omega), hk _ _ (by omega), hk _ _ (by omega), hk _ _ (by omega), hk _ _ (by omega)]; exact a3 i hi
  · rw [hk _ _ (by omega), hk _ _ (by omega)]; exact a4 i hi
  · have e1 : rg_f (rg_close S c f) c' = up_ (rg_f S) c f c' := rfl
    have e2 : rg_e (rg_close S c f) c' = up_ (rg_e S) c (rg_R S) c' := rfl
    have e3 : rg_hr (rg_close S c f) c' = if up_ (rg_f S) c f c' < up_ (rg_e S) c (rg_R S) c' then true else false := rfl
    rw [e1, e2, e3]
    by_cases e : c' = c
    · subst e
      rw [up_eq, up_eq, hk 30 _ (by omega), rf_u_eq, if_pos hf]
      exact ⟨fun _ => ⟨h30, rfl⟩, fun q => Bool.noConfusion q⟩
    · have hne : ∀ j, rf_u s 31 (16 + c) (.int (Int32.ofNat (rg_R S - f))) j (16 + c') = s j (16 + c') := fun j => rf_u_ne (Or.inr (by omega))
      rw [up_ne e, up_ne e, hne, hne]; exact a5 c' hc'
  · have e2 : rg_e (rg_close S c f) c' = up_ (rg_e S) c (rg_R S) c' := rfl
    rw [e2]
    by_cases e : c' = c
    · subst e
      rw [up_eq]
      exact Nat.le_refl _
    · rw [up_ne e]
      exact a8 c' hc'
theorem sb_lt_t {lo hi : Nat} {cs : List Nat} {n a : Nat} (hh : hi < 128) (h : ¬ sb_re lo hi cs n a = a) : sb_rng lo hi (Int32.ofNat (sb_lk cs n a)) = true := by
  have h1 : lo ≤ sb_lk cs n a ∧ sb_lk cs n a ≤ hi := Decidable.byContradiction (fun q => h (sb_re_self q))
  exact sb_rng_t h1.1 h1.2 (by omega)
theorem sb_lt_f {lo hi : Nat} {cs : List Nat} {n a : Nat} (h0 : 0 < lo) (hh : hi < 128) (hl : lo < 128) (h : sb_re lo hi cs n a = a) (h1 : sb_lk cs n a < 128) : sb_rng lo hi (Int32.ofNat (sb_lk cs n a)) = false := by
  have h2 := sb_lk_stop (lo := lo) (hi := hi) (cs := cs) (n := n) (a := a) h0
  rw [h] at h2
  exact sb_rng_f h2 (by omega) (by omega) (by omega)
theorem ru_cat_n {cs : List Nat} {n a : Nat} {S : rg} (h : 4 < sb_re 97 122 cs n a - a ∨ ru_fc S (sb_pk cs (sb_re 97 122 cs n a - a) a 0) 5 0 = none) : ru_cat cs n a S = .error a := by
  unfold ru_cat
  rcases h with h | h
  · rw [if_pos h]
  · split
    · rfl
    · rw [h]
theorem ru_cat_0 {cs : List Nat} {n a : Nat} {S : rg} (h : sb_re 97 122 cs n a = a) : ru_cat cs n a S = .error a := by
  refine ru_cat_n (Or.inr ?_)
  rw [h, Nat.sub_self, show sb_pk cs 0 a 0 = Int64.ofNat 0 from rfl, ru_fc_n (by omega)]
  simp
theorem ru_cat_y {cs : List Nat} {n a c : Nat} {S : rg} (h : sb_re 97 122 cs n a - a ≤ 4 ∧ c < 5 ∧ ru_fc S (sb_pk cs (sb_re 97 122 cs n a - a) a 0) 5 0 = if rg_hr S c = false then some c else none) (hq : rg_hr S c = false) : ru_cat cs n a S = .ok (sb_re 97 122 cs n a, c) := by
  unfold ru_cat
  rw [if_neg (by omega), h.2.2, if_pos hq]
theorem ru_cat_x {cs : List Nat} {n a c : Nat} {S : rg} (h : sb_re 97 122 cs n a - a ≤ 4 ∧ c < 5 ∧ ru_fc S (sb_pk cs (sb_re 97 122 cs n a - a) a 0) 5 0 = if rg_hr S c = false then some c else none) (hq : ¬ rg_hr S c = false) : ru_cat cs n a S = .error a := ru_cat_n (Or.inr (by rw [h.2.2, if_neg hq]))
