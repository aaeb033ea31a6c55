/-! The class's rules reader as functions. -/
/-- firsts, ends; operands, moduli, negated, opening, first ranges, range ends, how many relations; lows, highs, how many ranges -/
abbrev rg : Type := (Nat → Nat) × (Nat → Nat) × (Nat → Nat) × (Nat → Nat) × (Nat → Bool) × (Nat → Bool) × (Nat → Nat) × (Nat → Nat) × Nat × (Nat → Nat) × (Nat → Nat) × Nat
def rg_f (S : rg) : Nat → Nat := S.1
def rg_e (S : rg) : Nat → Nat := S.2.1
def rg_o (S : rg) : Nat → Nat := S.2.2.1
def rg_m (S : rg) : Nat → Nat := S.2.2.2.1
def rg_n (S : rg) : Nat → Bool := S.2.2.2.2.1
def rg_g (S : rg) : Nat → Bool := S.2.2.2.2.2.1
def rg_a (S : rg) : Nat → Nat := S.2.2.2.2.2.2.1
def rg_b (S : rg) : Nat → Nat := S.2.2.2.2.2.2.2.1
def rg_R (S : rg) : Nat := S.2.2.2.2.2.2.2.2.1
def rg_l (S : rg) : Nat → Nat := S.2.2.2.2.2.2.2.2.2.1
def rg_h (S : rg) : Nat → Nat := S.2.2.2.2.2.2.2.2.2.2.1
def rg_G (S : rg) : Nat := S.2.2.2.2.2.2.2.2.2.2.2
def rg_addr (S : rg) (o m : Nat) (ng og : Bool) : rg := (rg_f S, rg_e S, up_ (rg_o S) (rg_R S) o, up_ (rg_m S) (rg_R S) m, up_ (rg_n S) (rg_R S) ng, up_ (rg_g S) (rg_R S) og, up_ (rg_a S) (rg_R S) (rg_G S), up_ (rg_b S) (rg_R S) (rg_G S), rg_R S + 1, rg_l S, rg_h S, rg_G S)
def rg_addg (S : rg) (l h : Nat) : rg := (rg_f S, rg_e S, rg_o S, rg_m S, rg_n S, rg_g S, rg_a S, up_ (rg_b S) (rg_R S - 1) (rg_G S + 1), rg_R S, up_ (rg_l S) (rg_G S) l, up_ (rg_h S) (rg_G S) h, rg_G S + 1)
def rg_close (S : rg) (c f : Nat) : rg := (up_ (rg_f S) c f, up_ (rg_e S) c (rg_R S), rg_o S, rg_m S, rg_n S, rg_g S, rg_a S, rg_b S, rg_R S, rg_l S, rg_h S, rg_G S)
def rg_clr (S : rg) : rg := (fun _ => 0, fun _ => 0, rg_o S, rg_m S, rg_n S, rg_g S, rg_a S, rg_b S, 0, rg_l S, rg_h S, 0)
def rg_hr (S : rg) (c : Nat) : Bool := if rg_f S c < rg_e S c then true else false
abbrev ru_R : Type := Except Nat (Nat × rg)
def rd_WO : List Nat := [111, 114]
def rd_WA : List Nat := [97, 110, 100]
def ru_ix (c : Nat) : Option Nat := if c = 110 then some 0 else if c = 105 then some 1 else if c = 118 then some 2 else if c = 119 then some 3 else if c = 102 then some 4 else if c = 116 then some 5 else none
def ru_CW : List Int64 := [2053468783, 7302757, 7632751, 6710647, 1835101817, 478694368626]
def ru_fc (S : rg) (x : Int64) : Nat → Nat → Option Nat
  | 0, _ => none
  | k + 1, c => if ru_CW.getD c 0 = x ∧ rg_hr S c = false then some c else ru_fc S x k (c + 1)
section RU
variable (cs : List Nat) (n : Nat)
def ru_range (a : Nat) (S : rg) : ru_R :=
  match rd_num cs n 4 (rd_sk cs n a) with
  | .error e => .error e
  | .ok (a2, l) =>
    if sb_lk cs n (rd_sk cs n a2) = 46 then
      (if sb_lk cs n (rd_sk cs n a2 + 1) = 46 then
        (match rd_num cs n 4 (rd_sk cs n (rd_sk cs n a2 + 1 + 1)) with
        | .error e => .error e
        | .ok (a6, h) => if h < l then .error (rd_sk cs n (rd_sk cs n a2 + 1 + 1)) else .ok (rd_sk cs n a6, rg_addg S l h))
      else .error (rd_sk cs n a2 + 1))
    else .ok (rd_sk cs n a2, rg_addg S l l)
def ru_mod (a : Nat) : Except Nat (Nat × Nat) :=
  match rd_num cs n 4 (rd_sk cs n a) with
  | .error e => .error e
  | .ok (a2, v) => if v = 0 then .error (rd_sk cs n a) else .ok (rd_sk cs n a2, v)
def ru_opnd (a : Nat) : Except Nat (Nat × Nat) :=
  if sb_re 97 122 cs n a - a = 1 then (match ru_ix (sb_lk cs n a) with
    | none => .error a
    | some o => .ok (sb_re 97 122 cs n a, o))
  else .error a
def ru_rngs : Nat → Nat → rg → ru_R
  | 0, a, _ => .error a
  | k + 1, a, S => match ru_range cs n a S with
    | .error e => .error e
    | .ok (a1, S1) => if sb_lk cs n a1 = 44 then ru_rngs k (a1 + 1) S1 else .ok (a1, S1)
/-- from behind the modulus on -/
def ru_rel2 (og : Bool) (o m a : Nat) (S : rg) : ru_R :=
  if sb_lk cs n a = 33 then
    (if sb_lk cs n (a + 1) = 61 then ru_rngs cs n 60 (a + 1 + 1) (rg_addr S o m true og) else .error (a + 1))
  else (if sb_lk cs n a = 61 then ru_rngs cs n 60 (a + 1) (rg_addr S o m false og) else .error a)
def ru_rel (og : Bool) (a : Nat) (S : rg) : ru_R :=
  match ru_opnd cs n (rd_sk cs n a) with
  | .error e => .error e
  | .ok (a2, o) =>
    if sb_lk cs n (rd_sk cs n a2) = 37 then (match ru_mod cs n (rd_sk cs n a2 + 1) with
      | .error e => .error e
      | .ok (a4, m) => ru_rel2 cs n og o m a4 S)
    else ru_rel2 cs n og o 0 (rd_sk cs n a2) S
def ru_cond : Nat → Bool → Nat → rg → ru_R
  | 0, _, a, _ => .error a
  | k + 1, og, a, S => match ru_rel cs n og a S with
    | .error e => .error e
    | .ok (a1, S1) =>
      if sb_re 97 122 cs n a1 = a1 then .ok (a1, S1)
      else if rd_is cs rd_WO a1 (sb_re 97 122 cs n a1) = true then ru_cond k true (sb_re 97 122 cs n a1) S1
      else if rd_is cs rd_WA a1 (sb_re 97 122 cs n a1) = true then ru_cond k false (sb_re 97 122 cs n a1) S1
      else .error a1
def ru_cat (a : Nat) (S : rg) : Except Nat (Nat × Nat) :=
  if 4 < sb_re 97 122 cs n a - a then .error a
  else match ru_fc S (sb_pk cs (sb_re 97 122 cs n a - a) a 0) 5 0 with
    | none => .error a
    | some c => .ok (sb_re 97 122 cs n a, c)
def ru_rule (a : Nat) (S : rg) : ru_R :=
  match ru_cat cs n (rd_sk cs n a) S with
  | .error e => .error e
  | .ok (a2, c) =>
    if sb_lk cs n (rd_sk cs n a2) = 58 then (match ru_cond cs n 120 true (rd_sk cs n a2 + 1) S with
      | .error e => .error e
      | .ok (a4, S4) => .ok (a4, rg_close S4 c (rg_R S)))
    else .error (rd_sk cs n a2)
def ru_loop : Nat → Nat → rg → ru_R
  | 0, a, S => .ok (a, S)
  | k + 1, a, S => match ru_rule cs n a S with
    | .error e => .error e
    | .ok (a1, S1) => if n ≤ a1 then .ok (a1, S1) else if sb_lk cs n a1 = 59 then ru_loop k (a1 + 1) S1 else .error a1
def ru_all (S : rg) : ru_R := if n ≤ rd_sk cs n 0 then .ok (rd_sk cs n 0, S) else ru_loop cs n 120 (rd_sk cs n 0) S
end RU
theorem ru_ix_lt {c o : Nat} (h : ru_ix c = some o) : o < 6 := by
  unfold ru_ix at h
  repeat' split at h
  all_goals first | (cases h; done) | (cases h; omega)
theorem ru_fc_lt {S : rg} {x : Int64} : ∀ {k c i}, ru_fc S x k c = some i → c ≤ i ∧ i < c + k ∧ ru_CW.getD i 0 = x ∧ rg_hr S i = false
  | 0, c, i, h => by cases h
  | k + 1, c, i, h => by
    rw [ru_fc] at h
    split at h
    · next q => cases h; exact ⟨Nat.le_refl _, by omega, q⟩
    · obtain ⟨h1, h2, h3⟩ := ru_fc_lt h
      exact ⟨by omega, by omega, h3⟩
def ru_le (n a : Nat) (S : rg) (a' : Nat) (S' : rg) : Prop := a ≤ a' ∧ a' ≤ n ∧ rg_R S ≤ rg_R S' ∧ rg_G S ≤ rg_G S' ∧ 3 * rg_R S' + a ≤ 3 * rg_R S + a' ∧ 2 * rg_G S' + a ≤ 2 * rg_G S + a'
theorem rg_addg_R (S : rg) (l h : Nat) : rg_R (rg_addg S l h) = rg_R S := rfl
theorem rg_addg_G (S : rg) (l h : Nat) : rg_G (rg_addg S l h) = rg_G S + 1 := rfl
theorem rg_addr_R (S : rg) (o m : Nat) (ng og : Bool) : rg_R (rg_addr S o m ng og) = rg_R S + 1 := rfl
theorem rg_addr_G (S : rg) (o m : Nat) (ng og : Bool) : rg_G (rg_addr S o m ng og) = rg_G S := rfl
theorem ru_range_le {cs : List Nat} {n a a' : Nat} {S S' : rg} (h : a ≤ n) (hr : ru_range cs n a S = .ok (a', S')) : a < a' ∧ a' ≤ n ∧ rg_R S' = rg_R S ∧ rg_G S' = rg_G S + 1 := by
  have h1 := rd_sk_le (cs := cs) (n := n) (a := a) h
  unfold ru_range at hr
  split at hr
  · cases hr
  next a2 l hl =>
  have h2 := rd_num_le (by omega) hl
  have h3 := rd_sk_le (cs := cs) (n := n) (a := a2) (by omega)
  split at hr
  · next h5 =>
    split at hr
    · next h6 =>
      have h7 : rd_sk cs n a2 + 1 < n := sb_lk_pos (cs := cs) (by omega)
      have h8 := rd_sk_le (cs := cs) (n := n) (a := rd_sk cs n a2 + 1 + 1) (by omega)
      split at hr
      · cases hr
      next a6 hh hh2 =>
      have h9 := rd_num_le (by omega) hh2
      have h10 := rd_sk_le (cs := cs) (n := n) (a := a6) (by omega)
      split at hr
      · cases hr
      cases hr
      exact ⟨by omega, by omega, rfl, rfl⟩
    · cases hr
  · cases hr
    exact ⟨by omega, by omega, rfl, rfl⟩
theorem ru_mod_le {cs : List Nat} {n a a' v : Nat} (h : a ≤ n) (hr : ru_mod cs n a = .ok (a', v)) : a < a' ∧ a' ≤ n ∧ v < 10000 ∧ 0 < v := by
  have h1 := rd_sk_le (cs := cs) (n := n) (a := a) h
  unfold ru_mod at hr
  split at hr
  · cases hr
  next a2 l hl =>
  have h2 := rd_num_le (by omega) hl
  have h4 := rd_num_v (by omega) (by omega) hl
  have h3 := rd_sk_le (cs := cs) (n := n) (a := a2) (by omega)
  split at hr
  · cases hr
  cases hr
  omega
theorem ru_opnd_le {cs : List Nat} {n a a' o : Nat} (h : a ≤ n) (hr : ru_opnd cs n a = .ok (a', o)) : a < a' ∧ a' ≤ n ∧ o < 6 ∧ a' = a + 1 := by
  have h1 := sb_re_le (lo := 97) (hi := 122) (cs := cs) (n := n) (a := a)
  have h2 := h1.2.1 h
  unfold ru_opnd at hr
  split at hr
  · split at hr
    · cases hr
    next o' ho =>
    have h3 := ru_ix_lt ho
    cases hr
    omega
  · cases hr
theorem ru_rngs_le {cs : List Nat} {n : Nat} : ∀ k a S a' S', a ≤ n → ru_rngs cs n k a S = .ok (a', S') → a < a' ∧ a' ≤ n ∧ rg_R S' = rg_R S ∧ rg_G S < rg_G S' ∧ 2 * rg_G S' + a ≤ 2 * rg_G S + a' + 1
  | 0, a, S, a', S', h, hr => by cases hr
  | k + 1, a, S, a', S', h, hr => by
    rw [ru_rngs] at hr
    split at hr
    · cases hr
    next a1 S1 h1 =>
    have h2 := ru_range_le h h1
    split at hr
    · next h3 =>
      have h4 : a1 < n := sb_lk_pos (cs := cs) (by omega)
      have h5 := ru_rngs_le k (a1 + 1) S1 a' S' (by omega) hr
      omega
    · cases hr
      omega
theorem ru_rel2_le {cs : List Nat} {n o m a a' : Nat} {og : Bool} {S S' : rg} (h : a ≤ n) (hr : ru_rel2 cs n og o m a S = .ok (a', S')) : a + 2 ≤ a' ∧ a' ≤ n ∧ rg_R S' = rg_R S + 1 ∧ rg_G S < rg_G S' ∧ 2 * rg_G S' + a ≤ 2 * rg_G S + a' := by
  unfold ru_rel2 at hr
  split at hr
  · split at hr
    · next h1 h2 =>
      have h3 : a + 1 < n := sb_lk_pos (cs := cs) (by omega)
      have h4 := ru_rngs_le _ _ _ _ _ (by omega) hr
      rw [rg_addr_R, rg_addr_G] at h4
      omega
    · cases hr
  · split at hr
    · next h1 h2 =>
      have h3 : a < n := sb_lk_pos (cs := cs) (by omega)
      have h4 := ru_rngs_le _ _ _ _ _ (by omega) hr
      rw [rg_addr_R, rg_addr_G] at h4
      omega
    · cases hr
theorem ru_rel_le {cs : List Nat} {n a a' : Nat} {og : Bool} {S S' : rg} (h : a ≤ n) (hr : ru_rel cs n og a S = .ok (a', S')) : ru_le n a S a' S' ∧ rg_R S' = rg_R S + 1 ∧ a < a' := by
  have h1 := rd_sk_le (cs := cs) (n := n) (a := a) h
  unfold ru_rel at hr
  split at hr
  · cases hr
  next a2 o ho =>
  have h2 := ru_opnd_le (by omega) ho
  have h3 := rd_sk_le (cs := cs) (n := n) (a := a2) (by omega)
  unfold ru_le
  split at hr
  · next h4 =>
    have h5 : rd_sk cs n a2 < n := sb_lk_pos (cs := cs) (by omega)
    split at hr
    · cases hr
    next a4 m hm =>
    have h6 := ru_mod_le (by omega) hm
    have h7 := ru_rel2_le (by omega) hr
    omega
  · have h7 := ru_rel2_le (by omega) hr
    omega
theorem ru_cond_le {cs : List Nat} {n : Nat} : ∀ k og a S a' S', a ≤ n → ru_cond cs n k og a S = .ok (a', S') → ru_le n a S a' S' ∧ rg_R S < rg_R S' ∧ a < a'
  | 0, og, a, S, a', S', h, hr => by cases hr
  | k + 1, og, a, S, a', S', h, hr => by
    rw [ru_cond] at hr
    split at hr
    · cases hr
    next a1 S1 h1 =>
    have h2 := ru_rel_le h h1
    unfold ru_le at h2 ⊢
    have h3 := sb_re_le (lo := 97) (hi := 122) (cs := cs) (n := n) (a := a1)
    have h4 := h3.2.1 (by omega)
    split at hr
    · cases hr
      omega
    split at hr
    · have h5 := ru_cond_le k _ _ _ _ _ (by omega) hr
      unfold ru_le at h5
      omega
    split at hr
    · have h5 := ru_cond_le k _ _ _ _ _ (by omega) hr
      unfold ru_le at h5
      omega
    cases hr
theorem ru_cat_le {cs : List Nat} {n a a' c : Nat} {S : rg} (h : a ≤ n) (hr : ru_cat cs n a S = .ok (a', c)) : a ≤ a' ∧ a' ≤ n ∧ c < 5 ∧ a' = sb_re 97 122 cs n a := by
  have h1 := sb_re_le (lo := 97) (hi := 122) (cs := cs) (n := n) (a := a)
  have h2 := h1.2.1 h
  unfold ru_cat at hr
  split at hr
  · cases hr
  split at hr
  · cases hr
  next c' hc =>
  have h3 := ru_fc_lt hc
  cases hr
  exact ⟨by omega, by omega, by omega, rfl⟩
theorem ru_rule_le {cs : List Nat} {n a a' : Nat} {S S' : rg} (h : a ≤ n) (hr : ru_rule cs n a S = .ok (a', S')) : ru_le n a S a' S' ∧ a < a' := by
  have h1 := rd_sk_le (cs := cs) (n := n) (a := a) h
  unfold ru_rule at hr
  split at hr
  · cases hr
  next a2 c hc =>
  have h2 := ru_cat_le (by omega) hc
  have h3 := rd_sk_le (cs := cs) (n := n) (a := a2) (by omega)
  split at hr
  · next h4 =>
    have h5 : rd_sk cs n a2 < n := sb_lk_pos (cs := cs) (by omega)
    split at hr
    · cases hr
    next a4 S4 h6 =>
    have h7 := ru_cond_le _ _ _ _ _ _ (by omega) h6
    cases hr
    unfold ru_le at h7 ⊢
    rw [show rg_R (rg_close S4 c (rg_R S)) = rg_R S4 from rfl, show rg_G (rg_close S4 c (rg_R S)) = rg_G S4 from rfl]
    omega
  · cases hr
