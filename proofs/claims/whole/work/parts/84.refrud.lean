/-! The reference reads rules: what the cursor's words mean. -/
theorem rf_w_n {e x : Nat} (h : e < 2147483648) : rf_w (Int32.ofNat e) x = Int32.ofNat e := by
  unfold rf_w
  rw [if_neg (Int32.ofNat_not_neg h)]
theorem rf_w_m (x : Nat) : rf_w (-1) x = Int32.ofNat x := by
  unfold rf_w
  rw [if_pos (by decide)]
theorem rf_wl_n {e g many k : Nat} (h : e < 2147483648) : rf_wl (Int32.ofNat e) g many k = Int32.ofNat e := by
  unfold rf_wl rf_wi
  split
  · exact rf_w_n h
  split
  · exact rf_w_n h
  · rfl
theorem rf_dig_ok {cs : List Nat} {n p a v : Nat} (hp : p ≤ n) (h : rd_num cs n 4 p = .ok (a, v)) : sb_re 48 57 cs n p = a ∧ rf_wl (-1) p 4 (sb_re 48 57 cs n p - p) = -1 ∧ rf_nr cs p (sb_re 48 57 cs n p - p) = Int64.ofNat v := by
  obtain ⟨h1, h2, h3, h4, h5⟩ := rd_num_le hp h
  rw [← h4]
  refine ⟨rfl, ?_, ?_⟩
  · unfold rf_wl rf_wi
    rw [if_neg (by omega), if_neg (by omega)]
  · unfold rf_nr
    rw [show min (a - p) 4 = a - p by omega, h5]
theorem rf_dig_er {cs : List Nat} {n p e : Nat} (h : rd_num cs n 4 p = .error e) : rf_wl (-1) p 4 (sb_re 48 57 cs n p - p) = Int32.ofNat e := by
  have h1 := sb_re_le (lo := 48) (hi := 57) (cs := cs) (n := n) (a := p)
  unfold rd_num at h
  unfold rf_wl rf_wi
  split at h
  · next q =>
    cases h
    rw [if_pos (by omega)]
    exact rf_w_m p
  split at h
  · next q1 q2 =>
    cases h
    rw [if_neg (by omega), if_pos q2]
    exact rf_w_m (p + 4)
  · cases h
/-- a row of letters, as many as there are -/
theorem rf_let_ok {cs : List Nat} {n p : Nat} (hn : n ≤ 120) (hp : p ≤ n) (h : ¬ sb_re 97 122 cs n p = p) : rf_wl (-1) p 120 (sb_re 97 122 cs n p - p) = -1 := by
  have h1 := sb_re_le (lo := 97) (hi := 122) (cs := cs) (n := n) (a := p)
  have h2 := h1.2.1 hp
  unfold rf_wl rf_wi
  rw [if_neg (by omega), if_neg (by omega)]
theorem rf_let_er {cs : List Nat} {n p : Nat} (h : sb_re 97 122 cs n p = p) : rf_wl (-1) p 120 (sb_re 97 122 cs n p - p) = Int32.ofNat p := by
  unfold rf_wl
  rw [if_pos (by omega)]
  exact rf_w_m p
/-- a range without the rules that it goes into -/
def ru_rg (cs : List Nat) (n a : Nat) : Except Nat (Nat × Nat × Nat) :=
  match rd_num cs n 4 (rd_sk cs n a) with
  | .error e => .error e
  | .ok (a2, l) =>
    if sb_lk cs n (rd_sk cs n a2) = 46 then
      (if sb_lk cs n (rd_sk cs n a2 + 1) = 46 then
        (match rd_num cs n 4 (rd_sk cs n (rd_sk cs n a2 + 1 + 1)) with
        | .error e => .error e
        | .ok (a6, h) => if h < l then .error (rd_sk cs n (rd_sk cs n a2 + 1 + 1)) else .ok (rd_sk cs n a6, l, h))
      else .error (rd_sk cs n a2 + 1))
    else .ok (rd_sk cs n a2, l, l)
theorem ru_rg_ok {cs : List Nat} {n a a' l h : Nat} {S : rg} (hr : ru_rg cs n a = .ok (a', l, h)) : ru_range cs n a S = .ok (a', rg_addg S l h) := by
  unfold ru_rg at hr
  unfold ru_range
  split at hr
  · cases hr
  next a2 l' h1 =>
  rw [h1]
  dsimp only
  split at hr
  · next h2 =>
    rw [if_pos h2]
    split at hr
    · next h3 =>
      rw [if_pos h3]
      split at hr
      · cases hr
      next a6 h' h4 =>
      rw [h4]
      dsimp only
      split at hr
      · cases hr
      next h5 =>
      rw [if_neg h5]
      cases hr
      rfl
    · cases hr
  · next h2 =>
    rw [if_neg h2]
    cases hr
    rfl
theorem ru_rg_er {cs : List Nat} {n a e : Nat} {S : rg} (hr : ru_rg cs n a = .error e) : ru_range cs n a S = .error e := by
  unfold ru_rg at hr
  unfold ru_range
  split at hr
  · next e' h1 => cases hr; rw [h1]
  next a2 l' h1 =>
  rw [h1]
  dsimp only
  split at hr
  · next h2 =>
    rw [if_pos h2]
    split at hr
    · next h3 =>
      rw [if_pos h3]
      split at hr
      · next e' h4 => cases hr; rw [h4]
      next a6 h' h4 =>
      rw [h4]
      dsimp only
      split at hr
      · next h5 => cases hr; rw [if_pos h5]
      · cases hr
    · next h3 => cases hr; rw [if_neg h3]
  · cases hr
/-- one range more behind the G that there are -/
def rr_E (s t : rf_S) (G : Nat) : Prop := t 41 0 = .int (Int32.ofNat (G + 1)) ∧ ∀ j i, ¬ (j = 41 ∧ i = 0) → ¬ (j = 38 ∧ i = 128 + G) → ¬ (j = 39 ∧ i = 128 + G) → t j i = s j i
def rr_G (s t : rf_S) (G l h : Nat) : Prop := rr_E s t G ∧ t 38 (128 + G) = .int (Int32.ofNat l) ∧ t 39 (128 + G) = .int (Int32.ofNat h)
def rq_Rg (A : am_H) (b : Nat) (s : rf_S) (n G : Nat) (x : Except Nat (Nat × Nat × Nat)) (q : am_O × am_H) : Prop := match x with
  | .ok y => q.1 = .inl none ∧ ∃ t r g, rf q.2 b (rf_c t y.1 (-1) r g) ∧ rr_G s t G y.2.1 y.2.2 ∧ sb_fr A q.2 b (b + 38)
  | .error e => q.1 = .inl none ∧ ∃ t p r g, rf q.2 b (rf_c t p (Int32.ofNat e) r g) ∧ rr_E s t G ∧ p ≤ n + 9 ∧ sb_fr A q.2 b (b + 38)
theorem rq_Rg_ok {A B : am_H} {b n G a l h g : Nat} {s t : rf_S} {r : Int64} (h1 : rf B b (rf_c t a (-1) r g)) (h2 : rr_G s t G l h) (h3 : sb_fr A B b (b + 38)) : rq_Rg A b s n G (.ok (a, l, h)) (.inl none, B) := ⟨rfl, t, r, g, h1, h2, h3⟩
theorem rq_Rg_er {A B : am_H} {b n G e p g : Nat} {s t : rf_S} {r : Int64} (h1 : rf B b (rf_c t p (Int32.ofNat e) r g)) (h2 : rr_E s t G) (hp : p ≤ n + 9) (h3 : sb_fr A B b (b + 38)) : rq_Rg A b s n G (.error e) (.inl none, B) := ⟨rfl, t, p, r, g, h1, h2, hp, h3⟩
theorem rd_sk_gt {cs : List Nat} {n a : Nat} : a ≤ rd_sk cs n a ∧ (n ≤ a → rd_sk cs n a = a) ∧ (a ≤ n → rd_sk cs n a ≤ n) := by
  have h1 := sb_re_le (lo := 32) (hi := 32) (cs := cs) (n := n) (a := a)
  exact ⟨h1.1, h1.2.2, h1.2.1⟩
theorem sb_re_self {lo hi : Nat} {cs : List Nat} {n a : Nat} (h : ¬ (lo ≤ sb_lk cs n a ∧ sb_lk cs n a ≤ hi)) : sb_re lo hi cs n a = a := by
  unfold sb_re
  rcases hk : n - a with _ | k
  · rfl
  · rw [sb_end, if_neg]
    unfold sb_lk at h
    rw [if_pos (by omega)] at h
    exact h
theorem rd_sk_sk (cs : List Nat) (n a : Nat) : rd_sk cs n (rd_sk cs n a) = rd_sk cs n a := sb_re_self (sb_lk_stop (by omega))
