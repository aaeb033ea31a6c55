/-! The class's message reader as functions: texts as lists, messages as tuples of functions. -/
def sb_lk (cs : List Nat) (n k : Nat) : Nat := if k < n then cs.getD k 0 else 0
theorem sb_end_stop (lo hi : Nat) (cs : List Nat) (n : Nat) : ∀ k e, sb_end lo hi cs n k e < e + k → ¬ (lo ≤ cs.getD (sb_end lo hi cs n k e) 0 ∧ cs.getD (sb_end lo hi cs n k e) 0 ≤ hi)
  | 0, e, h => by unfold sb_end at h; omega
  | k + 1, e, h => by
    unfold sb_end at h ⊢
    split
    · next q =>
      rw [if_pos q] at h
      exact sb_end_stop lo hi cs n k (e + 1) (by omega)
    · next q => exact q
theorem sb_re_stop {lo hi : Nat} {cs : List Nat} {n a : Nat} (ha : a ≤ n) (h : sb_re lo hi cs n a < n) : ¬ (lo ≤ cs.getD (sb_re lo hi cs n a) 0 ∧ cs.getD (sb_re lo hi cs n a) 0 ≤ hi) := sb_end_stop lo hi cs n (n - a) a (by unfold sb_re at h; omega)
/-- a place behind the end of the row reads as no character of it -/
theorem sb_lk_stop {lo hi : Nat} {cs : List Nat} {n a : Nat} (h0 : 0 < lo) : ¬ (lo ≤ sb_lk cs n (sb_re lo hi cs n a) ∧ sb_lk cs n (sb_re lo hi cs n a) ≤ hi) := by
  unfold sb_lk
  split
  · next h =>
    by_cases ha : a ≤ n
    · exact sb_re_stop ha h
    · have := (sb_re_le (lo := lo) (hi := hi) (cs := cs) (n := n) (a := a)).2.2 (by omega)
      omega
  · omega
theorem sb_lk_in {lo hi : Nat} {cs : List Nat} {n a j : Nat} (h1 : a ≤ j) (h2 : j < sb_re lo hi cs n a) : j < n ∧ sb_lk cs n j = cs.getD j 0 ∧ lo ≤ cs.getD j 0 ∧ cs.getD j 0 ≤ hi := by
  have h3 := sb_re_le (lo := lo) (hi := hi) (cs := cs) (n := n) (a := a)
  have h4 : j < n := by
    by_cases ha : a ≤ n
    · have := h3.2.1 ha
      omega
    · have := h3.2.2 (by omega)
      omega
  exact ⟨h4, by unfold sb_lk; rw [if_pos h4], sb_re_in h1 h2⟩
def up_ {α : Type} (f : Nat → α) (i : Nat) (v : α) : Nat → α := fun j => if j = i then v else f j
theorem up_eq {α : Type} (f : Nat → α) (i : Nat) (v : α) : up_ f i v i = v := by simp [up_]
theorem up_ne {α : Type} {f : Nat → α} {i j : Nat} {v : α} (h : j ≠ i) : up_ f i v j = f j := by simp [up_, h]
/-- kinds, contents, offsets, nexts, how many parts; owners, selectors, starts, ends, how many branches -/
abbrev mg : Type := (Nat → Nat) × (Nat → Int32) × (Nat → Nat) × (Nat → Nat) × Nat × (Nat → Nat) × (Nat → Int64) × (Nat → Nat) × (Nat → Nat) × Nat
def mg_k (M : mg) : Nat → Nat := M.1
def mg_c (M : mg) : Nat → Int32 := M.2.1
def mg_o (M : mg) : Nat → Nat := M.2.2.1
def mg_x (M : mg) : Nat → Nat := M.2.2.2.1
def mg_P (M : mg) : Nat := M.2.2.2.2.1
def mg_w (M : mg) : Nat → Nat := M.2.2.2.2.2.1
def mg_s (M : mg) : Nat → Int64 := M.2.2.2.2.2.2.1
def mg_a (M : mg) : Nat → Nat := M.2.2.2.2.2.2.2.1
def mg_e (M : mg) : Nat → Nat := M.2.2.2.2.2.2.2.2.1
def mg_B (M : mg) : Nat := M.2.2.2.2.2.2.2.2.2
def mg_add (M : mg) (k : Nat) (x : Int32) : mg := (up_ (mg_k M) (mg_P M) k, up_ (mg_c M) (mg_P M) x, up_ (mg_o M) (mg_P M) 0, up_ (mg_x M) (mg_P M) (mg_P M + 1), mg_P M + 1, mg_w M, mg_s M, mg_a M, mg_e M, mg_B M)
def mg_addb (M : mg) (o : Nat) (s : Int64) : mg := (mg_k M, mg_c M, mg_o M, mg_x M, mg_P M, up_ (mg_w M) (mg_B M) o, up_ (mg_s M) (mg_B M) s, up_ (mg_a M) (mg_B M) (mg_P M), up_ (mg_e M) (mg_B M) (mg_P M), mg_B M + 1)
def mg_clb (M : mg) (j : Nat) : mg := (mg_k M, mg_c M, mg_o M, mg_x M, mg_P M, mg_w M, mg_s M, mg_a M, up_ (mg_e M) j (mg_P M), mg_B M)
def mg_cla (M : mg) (i : Nat) : mg := (mg_k M, mg_c M, mg_o M, up_ (mg_x M) i (mg_P M), mg_P M, mg_w M, mg_s M, mg_a M, mg_e M, mg_B M)
def mg_off (M : mg) (i v : Nat) : mg := (mg_k M, mg_c M, up_ (mg_o M) i v, mg_x M, mg_P M, mg_w M, mg_s M, mg_a M, mg_e M, mg_B M)
def mg_clr (M : mg) : mg := (mg_k M, mg_c M, mg_o M, mg_x M, 0, mg_w M, mg_s M, mg_a M, mg_e M, 0)
/-- the first branch from j on with this owner and this selector -/
def mg_bw (M : mg) (o : Nat) (s : Int64) : Nat → Nat → Option Nat
  | 0, _ => none
  | k + 1, j => if mg_w M j = o ∧ mg_s M j = s then some j else mg_bw M o s k (j + 1)
def sb_OTH : Int64 := 478694368626
abbrev rd_R : Type := Except Nat (Nat × mg)
section RD
variable (cs : List Nat) (n : Nat)
def rd_sk (a : Nat) : Nat := sb_re 32 32 cs n a
def rd_quote : Nat → Nat → mg → Nat × mg
  | 0, a, M => (a, M)
  | k + 1, a, M => if n ≤ a then (a, M) else if sb_lk cs n a = 39 then (if sb_lk cs n (a + 1) = 39 then rd_quote k (a + 2) (mg_add M 0 (Int32.ofNat 39)) else (a + 1, M)) else rd_quote k (a + 1) (mg_add M 0 (Int32.ofNat (sb_lk cs n a)))
/-- from the apostrophe on -/
def rd_apos (dbl signs : Bool) (a : Nat) (M : mg) : Nat × mg :=
  if sb_lk cs n (a + 1) = 39 then (a + 2, mg_add M 0 (Int32.ofNat 39))
  else if dbl = true ∨ sb_lk cs n (a + 1) = 123 ∨ sb_lk cs n (a + 1) = 125 ∨ (sb_lk cs n (a + 1) = 35 ∧ signs = true) then rd_quote cs n 120 (a + 1) M
  else (a + 1, mg_add M 0 (Int32.ofNat 39))
def rd_name (a : Nat) : Except Nat (Nat × Int32) :=
  if sb_re 97 122 cs n a = a then .error a
  else if 4 < sb_re 97 122 cs n a - a then .error (a + 4)
  else .ok (sb_re 97 122 cs n a, (sb_pk cs (sb_re 97 122 cs n a - a) a 0).toInt32)
def rd_is (w : List Nat) (a e : Nat) : Bool := if e - a = w.length then sb_eqw cs w a w.length 0 else false
def rd_W3 : List Nat := [110, 117, 109, 98, 101, 114]
def rd_W4 : List Nat := [104, 101, 120]
def rd_W5 : List Nat := [117, 112, 112, 101, 114]
def rd_W6 : List Nat := [115, 101, 108, 101, 99, 116]
def rd_W7 : List Nat := [112, 108, 117, 114, 97, 108]
def rd_W8 : List Nat := [115, 101, 108, 101, 99, 116, 111, 114, 100, 105, 110, 97, 108]
def rd_W9 : List Nat := [111, 102, 102, 115, 101, 116]
/-- the kind of a type's word, 0 when it is none -/
def rd_kind (a e : Nat) : Nat :=
  if rd_is cs rd_W3 a e = true then 3 else if rd_is cs rd_W4 a e = true then 4 else if rd_is cs rd_W5 a e = true then 5
  else if rd_is cs rd_W6 a e = true then 6 else if rd_is cs rd_W7 a e = true then 7 else if rd_is cs rd_W8 a e = true then 8 else 0
def rd_num (mo a : Nat) : Except Nat (Nat × Nat) :=
  if sb_re 48 57 cs n a = a then .error a
  else if mo < sb_re 48 57 cs n a - a then .error (a + mo)
  else .ok (sb_re 48 57 cs n a, sb_num cs (sb_re 48 57 cs n a - a) a 0)
def rd_off (i a : Nat) (M : mg) : rd_R :=
  if rd_is cs rd_W9 a (sb_re 97 122 cs n a) = true ∧ sb_lk cs n (sb_re 97 122 cs n a) = 58 then
    match rd_num cs n 2 (sb_re 97 122 cs n a + 1) with
    | .error e => .error e
    | .ok (a', v) => .ok (a', mg_off M i v)
  else .ok (a, M)
def rd_ex (v : Nat) : Int64 := -1 - Int64.ofNat v
def rd_sel (nums : Bool) (a : Nat) : Except Nat (Nat × Int64) :=
  if nums = true ∧ sb_lk cs n a = 61 then
    match rd_num cs n 4 (a + 1) with
    | .error e => .error e
    | .ok (a', v) => .ok (a', rd_ex v)
  else if sb_re 97 122 cs n a = a then .error a
  else if 6 < sb_re 97 122 cs n a - a then .error (a + 6)
  else .ok (sb_re 97 122 cs n a, sb_pk cs (sb_re 97 122 cs n a - a) a 0)
/-- inner: how the text of a branch is read; none at the deepest level -/
def rd_branch (inner : Option (Bool → Nat → mg → rd_R)) (i : Nat) (nu : Bool) (a : Nat) (M : mg) : rd_R :=
  match rd_sel cs n nu a with
  | .error e => .error e
  | .ok (a1, se) =>
    if sb_lk cs n (rd_sk cs n a1) ≠ 123 then .error (rd_sk cs n a1)
    else match inner with
      | none => .error (rd_sk cs n a1)
      | some f => match f nu (rd_sk cs n a1 + 1) (mg_addb M i se) with
        | .error e => .error e
        | .ok (a3, M3) => if sb_lk cs n a3 = 125 then .ok (rd_sk cs n (a3 + 1), mg_clb M3 (mg_B M)) else .error a3
def rd_fin (i a : Nat) (M : mg) : rd_R :=
  if mg_bw M i sb_OTH (mg_B M) 0 = none then .error a else if sb_lk cs n a = 125 then .ok (a + 1, mg_cla M i) else .error a
def rd_brs (inner : Option (Bool → Nat → mg → rd_R)) (i k : Nat) : Nat → Nat → mg → rd_R
  | 0, a, M => rd_fin cs n i a M
  | f + 1, a, M => if sb_lk cs n a = 125 then rd_fin cs n i a M else match rd_branch cs n inner i (decide (k ≠ 6)) a M with
    | .error e => .error e
    | .ok (a', M') => rd_brs inner i k f a' M'
/-- from behind the second comma on -/
def rd_rest (inner : Option (Bool → Nat → mg → rd_R)) (i k a : Nat) (M : mg) : rd_R :=
  if k = 6 then rd_brs cs n inner i k 40 (rd_sk cs n (rd_sk cs n a)) M
  else match rd_off cs n i (rd_sk cs n a) M with
    | .error e => .error e
    | .ok (a', M') => rd_brs cs n inner i k 40 (rd_sk cs n a') M'
/-- from behind the comma on: the type -/
def rd_typed (inner : Option (Bool → Nat → mg → rd_R)) (x : Int32) (a : Nat) (M : mg) : rd_R :=
  if rd_kind cs a (sb_re 97 122 cs n a) = 0 then .error a
  else if rd_kind cs a (sb_re 97 122 cs n a) < 6 then
    (if sb_lk cs n (rd_sk cs n (sb_re 97 122 cs n a)) = 125 then .ok (rd_sk cs n (sb_re 97 122 cs n a) + 1, mg_add M (rd_kind cs a (sb_re 97 122 cs n a)) x) else .error (rd_sk cs n (sb_re 97 122 cs n a)))
  else if sb_lk cs n (rd_sk cs n (sb_re 97 122 cs n a)) = 44 then rd_rest cs n inner (mg_P M) (rd_kind cs a (sb_re 97 122 cs n a)) (rd_sk cs n (sb_re 97 122 cs n a) + 1) (mg_add M (rd_kind cs a (sb_re 97 122 cs n a)) x)
  else .error (rd_sk cs n (sb_re 97 122 cs n a))
/-- from behind the { on -/
def rd_arg (inner : Option (Bool → Nat → mg → rd_R)) (a : Nat) (M : mg) : rd_R :=
  match rd_name cs n (rd_sk cs n a) with
  | .error e => .error e
  | .ok (a2, x) =>
    if sb_lk cs n (rd_sk cs n a2) = 125 then .ok (rd_sk cs n a2 + 1, mg_add M 2 x)
    else if sb_lk cs n (rd_sk cs n a2) = 44 then rd_typed cs n inner x (rd_sk cs n (rd_sk cs n a2 + 1)) M
    else .error (rd_sk cs n a2)
def rd_loop (dbl : Bool) (inner : Option (Bool → Nat → mg → rd_R)) (top signs : Bool) : Nat → Nat → mg → rd_R
  | 0, a, M => .ok (a, M)
  | f + 1, a, M =>
    if n ≤ a ∨ (sb_lk cs n a = 125 ∧ top = false) then .ok (a, M)
    else if sb_lk cs n a = 39 then rd_loop dbl inner top signs f (rd_apos cs n dbl signs a M).1 (rd_apos cs n dbl signs a M).2
    else if sb_lk cs n a = 123 then (match rd_arg cs n inner (a + 1) M with
      | .error e => .error e
      | .ok (a', M') => rd_loop dbl inner top signs f a' M')
    else rd_loop dbl inner top signs f (a + 1) (mg_add M (if sb_lk cs n a = 35 ∧ signs = true then 1 else 0) (Int32.ofNat (sb_lk cs n a)))
/-- D levels are left below -/
def rd_msg (dbl : Bool) : Nat → Bool → Bool → Nat → mg → rd_R
  | 0 => fun top signs a M => rd_loop cs n dbl none top signs 120 a M
  | D + 1 => fun top signs a M => rd_loop cs n dbl (some (rd_msg dbl D false)) top signs 120 a M
end RD
/-! what reading takes and makes: parts no more than characters, branches no more than a third -/
def rd_le (n a : Nat) (M : mg) (a' : Nat) (M' : mg) : Prop := a ≤ a' ∧ a' ≤ n ∧ mg_P M ≤ mg_P M' ∧ mg_B M ≤ mg_B M' ∧ mg_P M' + a ≤ mg_P M + a' ∧ 3 * mg_B M' + a ≤ 3 * mg_B M + a'
theorem mg_add_P (M : mg) (k : Nat) (x : Int32) : mg_P (mg_add M k x) = mg_P M + 1 := rfl
theorem mg_add_B (M : mg) (k : Nat) (x : Int32) : mg_B (mg_add M k x) = mg_B M := rfl
theorem sb_lk_pos {cs : List Nat} {n a : Nat} (h : sb_lk cs n a ≠ 0) : a < n := by
  unfold sb_lk at h
  split at h
  · assumption
  · exact absurd rfl h
theorem rd_quote_le (cs : List Nat) (n : Nat) : ∀ k a M, a ≤ n → rd_le n a M (rd_quote cs n k a M).1 (rd_quote cs n k a M).2
  | 0, a, M, h => ⟨Nat.le_refl _, h, Nat.le_refl _, Nat.le_refl _, Nat.le_refl _, Nat.le_refl _⟩
  | k + 1, a, M, h => by
    rw [rd_quote]
    by_cases h1 : n ≤ a
    · rw [if_pos h1]
      exact ⟨Nat.le_refl _, h, Nat.le_refl _, Nat.le_refl _, Nat.le_refl _, Nat.le_refl _⟩
    rw [if_neg h1]
    by_cases h2 : sb_lk cs n a = 39
    · rw [if_pos h2]
      by_cases h3 : sb_lk cs n (a + 1) = 39
      · rw [if_pos h3]
        have h4 : a + 1 < n := sb_lk_pos (cs := cs) (by omega)
        obtain ⟨q1, q2, q3, q4, q5, q6⟩ := rd_quote_le cs n k (a + 2) (mg_add M 0 (Int32.ofNat 39)) (by omega)
        rw [mg_add_P] at q3 q5
        rw [mg_add_B] at q4 q6
        exact ⟨by omega, q2, by omega, q4, by omega, by omega⟩
      · rw [if_neg h3]
        exact ⟨by dsimp only; omega, by dsimp only; omega, Nat.le_refl _, Nat.le_refl _, by dsimp only; omega, by dsimp only; omega⟩
    · rw [if_neg h2]
      obtain ⟨q1, q2, q3, q4, q5, q6⟩ := rd_quote_le cs n k (a + 1) (mg_add M 0 (Int32.ofNat (sb_lk cs n a))) (by omega)
      rw [mg_add_P] at q3 q5
      rw [mg_add_B] at q4 q6
      exact ⟨by omega, q2, by omega, q4, by omega, by omega⟩
theorem rd_apos_le {cs : List Nat} {n a : Nat} {M : mg} {dbl signs : Bool} (h : a < n) : rd_le n a M (rd_apos cs n dbl signs a M).1 (rd_apos cs n dbl signs a M).2 ∧ a < (rd_apos cs n dbl signs a M).1 := by
  unfold rd_apos
  by_cases h1 : sb_lk cs n (a + 1) = 39
  · rw [if_pos h1]
    have h4 : a + 1 < n := sb_lk_pos (cs := cs) (by omega)
    exact ⟨⟨by dsimp only; omega, by dsimp only; omega, by rw [mg_add_P]; omega, Nat.le_refl _, by rw [mg_add_P]; dsimp only; omega, by rw [mg_add_B]; dsimp only; omega⟩, by dsimp only; omega⟩
  rw [if_neg h1]
  split
  · obtain ⟨q1, q2, q3, q4, q5, q6⟩ := rd_quote_le cs n 120 (a + 1) M (by omega)
    exact ⟨⟨by omega, q2, q3, q4, by omega, by omega⟩, by omega⟩
  · exact ⟨⟨by dsimp only; omega, by dsimp only; omega, by rw [mg_add_P]; omega, Nat.le_refl _, by rw [mg_add_P]; dsimp only; omega, by rw [mg_add_B]; dsimp only; omega⟩, by dsimp only; omega⟩
theorem rd_sk_le {cs : List Nat} {n a : Nat} (h : a ≤ n) : a ≤ rd_sk cs n a ∧ rd_sk cs n a ≤ n := by
  have h1 := sb_re_le (lo := 32) (hi := 32) (cs := cs) (n := n) (a := a)
  exact ⟨h1.1, h1.2.1 h⟩
theorem rd_num_le {cs : List Nat} {n mo a a' v : Nat} (h : a ≤ n) (hr : rd_num cs n mo a = .ok (a', v)) : a < a' ∧ a' ≤ n ∧ a' - a ≤ mo ∧ a' = sb_re 48 57 cs n a ∧ v = sb_num cs (a' - a) a 0 := by
  have h1 := sb_re_le (lo := 48) (hi := 57) (cs := cs) (n := n) (a := a)
  have h2 := h1.2.1 h
  unfold rd_num at hr
  split at hr
  · cases hr
  split at hr
  · cases hr
  cases hr
  exact ⟨by omega, h2, by omega, rfl, rfl⟩
theorem rd_sel_le {cs : List Nat} {n a a' : Nat} {nu : Bool} {se : Int64} (h : a ≤ n) (hr : rd_sel cs n nu a = .ok (a', se)) : a < a' ∧ a' ≤ n := by
  have h1 := sb_re_le (lo := 97) (hi := 122) (cs := cs) (n := n) (a := a)
  have h2 := h1.2.1 h
  unfold rd_sel at hr
  split at hr
  · next hc =>
    have h3 : a < n := sb_lk_pos (cs := cs) (by omega)
    split at hr
    · cases hr
    · next a1 v hv =>
      cases hr
      have := rd_num_le (by omega) hv
      omega
  split at hr
  · cases hr
  split at hr
  · cases hr
  cases hr
  omega
theorem rd_name_le {cs : List Nat} {n a a' : Nat} {x : Int32} (h : a ≤ n) (hr : rd_name cs n a = .ok (a', x)) : a < a' ∧ a' ≤ n ∧ a' - a ≤ 4 ∧ a' = sb_re 97 122 cs n a ∧ x = (sb_pk cs (a' - a) a 0).toInt32 := by
  have h1 := sb_re_le (lo := 97) (hi := 122) (cs := cs) (n := n) (a := a)
  have h2 := h1.2.1 h
  unfold rd_name at hr
  split at hr
  · cases hr
  split at hr
  · cases hr
  cases hr
  exact ⟨by omega, h2, by omega, rfl, rfl⟩
theorem rd_off_le {cs : List Nat} {n i a a' : Nat} {M M' : mg} (h : a ≤ n) (hr : rd_off cs n i a M = .ok (a', M')) : rd_le n a M a' M' := by
  have h1 := sb_re_le (lo := 97) (hi := 122) (cs := cs) (n := n) (a := a)
  have h2 := h1.2.1 h
  unfold rd_off at hr
  split at hr
  · next hc =>
    have h3 : sb_re 97 122 cs n a < n := sb_lk_pos (cs := cs) (by omega)
    split at hr
    · cases hr
    · next a1 v hv =>
      cases hr
      have := rd_num_le (by omega) hv
      exact ⟨by omega, by omega, Nat.le_refl _, Nat.le_refl _, by show mg_P M + a ≤ _; omega, by show 3 * mg_B M + a ≤ _; omega⟩
  · cases hr
    exact ⟨Nat.le_refl _, h, Nat.le_refl _, Nat.le_refl _, Nat.le_refl _, Nat.le_refl _⟩
/-- what a reader of inner texts must keep -/
def rd_inn (n : Nat) (inner : Option (Bool → Nat → mg → rd_R)) : Prop := ∀ f, inner = some f → ∀ sg a M a' M', a ≤ n → f sg a M = .ok (a', M') → rd_le n a M a' M'
theorem rd_branch_le {cs : List Nat} {n i a a' : Nat} {nu : Bool} {M M' : mg} {inner : Option (Bool → Nat → mg → rd_R)} (hi : rd_inn n inner) (h : a ≤ n) (hr : rd_branch cs n inner i nu a M = .ok (a', M')) : rd_le n a M a' M' ∧ a < a' := by
  unfold rd_branch at hr
  split at hr
  · cases hr
  next a1 se hs =>
  have h1 := rd_sel_le h hs
  have h2 := rd_sk_le (cs := cs) (n := n) (a := a1) (by omega)
  split at hr
  · cases hr
  next h3 =>
  have h4 : rd_sk cs n a1 < n := sb_lk_pos (cs := cs) (by omega)
  split at hr
  · cases hr
  next f =>
  split at hr
  · cases hr
  next a3 M3 hf =>
  obtain ⟨q1, q2, q3, q4, q5, q6⟩ := hi f rfl _ _ _ _ _ (by omega) hf
  split at hr
  · next h5 =>
    have h6 : a3 < n := sb_lk_pos (cs := cs) (by omega)
    have h7 := rd_sk_le (cs := cs) (n := n) (a := a3 + 1) (by omega)
    cases hr
    have e1 : mg_P (mg_addb M i se) = mg_P M := rfl
    have e2 : mg_B (mg_addb M i se) = mg_B M + 1 := rfl
    have e3 : mg_P (mg_clb M3 (mg_B M)) = mg_P M3 := rfl
    have e4 : mg_B (mg_clb M3 (mg_B M)) = mg_B M3 := rfl
    unfold rd_le
    rw [e3, e4]
    omega
  · cases hr
theorem rd_fin_le {cs : List Nat} {n i a a' : Nat} {M M' : mg} (hr : rd_fin cs n i a M = .ok (a', M')) : rd_le n a M a' M' ∧ a < a' := by
  unfold rd_fin at hr
  split at hr
  · cases hr
  split at hr
  · next h1 =>
    have h2 : a < n := sb_lk_pos (cs := cs) (by omega)
    cases hr
    have e3 : mg_P (mg_cla M i) = mg_P M := rfl
    have e4 : mg_B (mg_cla M i) = mg_B M := rfl
    unfold rd_le
    rw [e3, e4]
    omega
  · cases hr
theorem rd_brs_le {cs : List Nat} {n i k : Nat} {inner : Option (Bool → Nat → mg → rd_R)} (hi : rd_inn n inner) : ∀ f a M a' M', a ≤ n → rd_brs cs n inner i k f a M = .ok (a', M') → rd_le n a M a' M' ∧ a < a'
  | 0, a, M, a', M', h, hr => rd_fin_le hr
  | f + 1, a, M, a', M', h, hr => by
    rw [rd_brs] at hr
    split at hr
    · exact rd_fin_le hr
    split at hr
    · cases hr
    next a1 M1 hb =>
    have h1 := rd_branch_le hi h hb
    unfold rd_le at h1
    have h2 := rd_brs_le hi f a1 M1 a' M' (by omega) hr
    unfold rd_le at h2 ⊢
    omega
theorem rd_rest_le {cs : List Nat} {n i k a a' : Nat} {M M' : mg} {inner : Option (Bool → Nat → mg → rd_R)} (hi : rd_inn n inner) (h : a ≤ n) (hr : rd_rest cs n inner i k a M = .ok (a', M')) : rd_le n a M a' M' ∧ a < a' := by
  unfold rd_rest at hr
  have h1 := rd_sk_le (cs := cs) (n := n) (a := a) h
  split at hr
  · have h2 := rd_sk_le (cs := cs) (n := n) (a := rd_sk cs n a) (by omega)
    have h3 := rd_brs_le hi _ _ _ _ _ (by omega) hr
    unfold rd_le at h3 ⊢
    omega
  split at hr
  · cases hr
  next a1 M1 ho =>
  have h2 := rd_off_le (by omega) ho
  unfold rd_le at h2
  have h4 := rd_sk_le (cs := cs) (n := n) (a := a1) (by omega)
  have h3 := rd_brs_le hi _ _ _ _ _ (by omega) hr
  unfold rd_le at h3 ⊢
  omega
theorem rd_typed_le {cs : List Nat} {n a a' : Nat} {x : Int32} {M M' : mg} {inner : Option (Bool → Nat → mg → rd_R)} (hi : rd_inn n inner) (h : a ≤ n) (hr : rd_typed cs n inner x a M = .ok (a', M')) : rd_le n a M a' M' ∧ a < a' := by
  have h1 := sb_re_le (lo := 97) (hi := 122) (cs := cs) (n := n) (a := a)
  have h2 := h1.2.1 h
  have h3 := rd_sk_le (cs := cs) (n := n) (a := sb_re 97 122 cs n a) h2
  unfold rd_typed at hr
  split at hr
  · cases hr
  split at hr
  · split at hr
    · next h5 =>
      have h6 : rd_sk cs n (sb_re 97 122 cs n a) < n := sb_lk_pos (cs := cs) (by omega)
      cases hr
      unfold rd_le
      rw [mg_add_P, mg_add_B]
      omega
    · cases hr
  split at hr
  · next h5 =>
    have h6 : rd_sk cs n (sb_re 97 122 cs n a) < n := sb_lk_pos (cs := cs) (by omega)
    have h7 := rd_rest_le hi (by omega) hr
    unfold rd_le at h7 ⊢
    rw [mg_add_P, mg_add_B] at h7
    omega
  · cases hr
theorem rd_arg_le {cs : List Nat} {n a a' : Nat} {M M' : mg} {inner : Option (Bool → Nat → mg → rd_R)} (hi : rd_inn n inner) (h : a ≤ n) (hr : rd_arg cs n inner a M = .ok (a', M')) : rd_le n a M a' M' ∧ a < a' := by
  have h1 := rd_sk_le (cs := cs) (n := n) (a := a) h
  unfold rd_arg at hr
  split at hr
  · cases hr
  next a2 x hnm =>
  have h2 := rd_name_le (by omega) hnm
  have h3 := rd_sk_le (cs := cs) (n := n) (a := a2) (by omega)
  split at hr
  · next h5 =>
    have h6 : rd_sk cs n a2 < n := sb_lk_pos (cs := cs) (by omega)
    cases hr
    unfold rd_le
    rw [mg_add_P, mg_add_B]
    omega
  split at hr
  · next h5 =>
    have h6 : rd_sk cs n a2 < n := sb_lk_pos (cs := cs) (by omega)
    have h7 := rd_sk_le (cs := cs) (n := n) (a := rd_sk cs n a2 + 1) (by omega)
    have h8 := rd_typed_le hi (by omega) hr
    unfold rd_le at h8 ⊢
    omega
  · cases hr
theorem rd_loop_le {cs : List Nat} {n : Nat} {dbl top signs : Bool} {inner : Option (Bool → Nat → mg → rd_R)} (hi : rd_inn n inner) : ∀ f a M a' M', a ≤ n → rd_loop cs n dbl inner top signs f a M = .ok (a', M') → rd_le n a M a' M'
  | 0, a, M, a', M', h, hr => by
    cases hr
    exact ⟨Nat.le_refl _, h, Nat.le_refl _, Nat.le_refl _, Nat.le_refl _, Nat.le_refl _⟩
  | f + 1, a, M, a', M', h, hr => by
    rw [rd_loop] at hr
    split at hr
    · cases hr
      exact ⟨Nat.le_refl _, h, Nat.le_refl _, Nat.le_refl _, Nat.le_refl _, Nat.le_refl _⟩
    next h1 =>
    split at hr
    · have h2 := rd_apos_le (cs := cs) (M := M) (dbl := dbl) (signs := signs) (show a < n by omega)
      unfold rd_le at h2
      have h3 := rd_loop_le hi f _ _ a' M' h2.1.2.1 hr
      unfold rd_le at h3 ⊢
      omega
    split at hr
    · split at hr
      · cases hr
      next a1 M1 ha =>
      have h2 := rd_arg_le hi (by omega) ha
      unfold rd_le at h2
      have h3 := rd_loop_le hi f _ _ a' M' (by omega) hr
      unfold rd_le at h3 ⊢
      omega
    · have h3 := rd_loop_le hi f _ _ a' M' (by omega) hr
      unfold rd_le at h3 ⊢
      rw [mg_add_P, mg_add_B] at h3
      omega
theorem rd_msg_le {cs : List Nat} {n : Nat} {dbl : Bool} : ∀ D top signs a M a' M', a ≤ n → rd_msg cs n dbl D top signs a M = .ok (a', M') → rd_le n a M a' M'
  | 0, top, signs, a, M, a', M', h, hr => rd_loop_le (fun f hf => by cases hf) 120 a M a' M' h hr
  | D + 1, top, signs, a, M, a', M', h, hr => rd_loop_le (fun f hf sg a M a' M' h hr => by cases hf; exact rd_msg_le D false sg a M a' M' h hr) 120 a M a' M' h hr
