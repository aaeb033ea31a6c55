/-! The reference's scratch rows hold the class's rules. -/
/-- all of a row are letters -/
def sb_ltr (cs : List Nat) (p k : Nat) : Prop := ∀ j, p ≤ j → j < p + k → 97 ≤ cs.getD j 0 ∧ cs.getD j 0 ≤ 122
theorem sb_ltr_re (cs : List Nat) (n p : Nat) : sb_ltr cs p (sb_re 97 122 cs n p - p) := by
  intro j h1 h2
  exact sb_re_in (n := n) h1 (by have := (sb_re_le (lo := 97) (hi := 122) (cs := cs) (n := n) (a := p)).1; omega)
def rs_R (s : rf_S) (S : rg) (bR bG : Nat) : Prop := (∀ i, i < rg_R S → s 32 (bR + i) = .int (Int32.ofNat (rg_o S i)) ∧ s 33 (bR + i) = .int (Int32.ofNat (rg_m S i)) ∧ s 34 (bR + i) = .int (sb_i (rg_n S i)) ∧ s 35 (bR + i) = .int (sb_i (!rg_g S i)) ∧ s 36 (bR + i) = .int (Int32.ofNat (bG + rg_a S i)) ∧ s 37 (bR + i) = .int (Int32.ofNat (rg_b S i - rg_a S i))) ∧ ∀ i, i < rg_G S → s 38 (bG + i) = .int (Int32.ofNat (rg_l S i)) ∧ s 39 (bG + i) = .int (Int32.ofNat (rg_h S i))
def rs_C (s : rf_S) (S : rg) : Prop := ∀ c, c < 5 → (rg_hr S c = true → s 30 (16 + c) = .int (Int32.ofNat (96 + rg_f S c)) ∧ s 31 (16 + c) = .int (Int32.ofNat (rg_e S c - rg_f S c))) ∧ (rg_hr S c = false → s 31 (16 + c) = .int (Int32.ofNat 0))
/-- the rules as they are read: numbers in their bounds, ranges and relations in their order -/
def rg_rd (S : rg) : Prop := (∀ i, i < rg_R S → rg_a S i ≤ rg_b S i ∧ rg_b S i ≤ rg_G S) ∧ (0 < rg_R S → rg_b S (rg_R S - 1) = rg_G S) ∧ (∀ c, c < 5 → rg_e S c ≤ rg_R S)
def rs_S (s : rf_S) (S : rg) : Prop := s 40 0 = .int (Int32.ofNat (rg_R S)) ∧ s 41 0 = .int (Int32.ofNat (rg_G S)) ∧ rs_R s S 96 128 ∧ rs_C s S ∧ rg_rd S
/-- what reading relations may change besides the cursor -/
def rs_sc (j i : Nat) : Prop := j = 40 ∨ j = 41 ∨ (32 ≤ j ∧ j ≤ 37 ∧ 96 ≤ i) ∨ ((j = 38 ∨ j = 39) ∧ 128 ≤ i)
def rs_X (s t : rf_S) : Prop := ∀ j i, ¬ rs_sc j i → t j i = s j i
theorem rs_X.refl (s : rf_S) : rs_X s s := fun _ _ _ => rfl
theorem rs_X.trans {s t u : rf_S} (h : rs_X s t) (k : rs_X t u) : rs_X s u := fun j i q => (k j i q).trans (h j i q)
theorem rs_X.u {s t : rf_S} {j i : Nat} {v : Value} (h : rs_X s t) (hs : rs_sc j i) : rs_X s (rf_u t j i v) := fun j' i' q => by
  rw [rf_u_ne (by
    by_cases hj : j' = j
    · exact Or.inr (fun e => q (by rw [hj, e]; exact hs))
    · exact Or.inl hj)]
  exact h j' i' q
theorem rs_X.tx {s t : rf_S} {cs : List Nat} {n : Nat} (h : rs_X s t) (hx : rf_tx s cs n) : rf_tx t cs n := by
  refine ⟨?_, fun i hi => ?_, hx.2.2⟩
  · rw [h 3 0 (by unfold rs_sc; omega)]
    exact hx.1
  · rw [h 2 i (by unfold rs_sc; omega)]
    exact hx.2.1 i hi
theorem rr_E.X {s t : rf_S} {G : Nat} (h : rr_E s t G) : rs_X s t := fun j i q => h.2 j i (fun e => q (by unfold rs_sc; omega)) (fun e => q (by unfold rs_sc; omega)) (fun e => q (by unfold rs_sc; omega))
/-- one relation more -/
theorem rs_S.addr {s t : rf_S} {S : rg} {o m : Nat} {ng og : Bool} (h : rs_S s S) (h40 : t 40 0 = .int (Int32.ofNat (rg_R S + 1))) (h32 : t 32 (96 + rg_R S) = .int (Int32.ofNat o)) (h33 : t 33 (96 + rg_R S) = .int (Int32.ofNat m)) (h34 : t 34 (96 + rg_R S) = .int (sb_i ng)) (h35 : t 35 (96 + rg_R S) = .int (sb_i (!og))) (h36 : t 36 (96 + rg_R S) = .int (Int32.ofNat (128 + rg_G S))) (h37 : t 37 (96 + rg_R S) = .int (Int32.ofNat 0)) (hk : ∀ j i, ¬ (j = 40 ∧ i = 0) → ¬ (32 ≤ j ∧ j ≤ 37 ∧ i = 96 + rg_R S) → t j i = s j i) : rs_S t (rg_addr S o m ng og) := by
  obtain ⟨a1, a2, ⟨a3, a4⟩, a5, a6, a7, a8⟩ := h
  refine ⟨h40, by rw [hk _ _ (by omega) (by omega)]; exact a2, ⟨fun i hi => ?_, fun i hi => ?_⟩, fun c hc => ?_, ?_, ?_, ?_⟩
  · rw [rg_addr_R] at hi
    show t 32 (96 + i) = .int (Int32.ofNat (up_ (rg_o S) (rg_R S) o i)) ∧ t 33 (96 + i) = .int (Int32.ofNat (up_ (rg_m S) (rg_R S) m i)) ∧ t 34 (96 + i) = .int (sb_i (up_ (rg_n S) (rg_R S) ng i)) ∧ t 35 (96 + i) = .int (sb_i (!up_ (rg_g S) (rg_R S) og i)) ∧ t 36 (96 + i) = .int (Int32.ofNat (128 + up_ (rg_a S) (rg_R S) (rg_G S) i)) ∧ t 37 (96 + i) = .int (Int32.ofNat (up_ (rg_b S) (rg_R S) (rg_G S) i - up_ (rg_a S) (rg_R S) (rg_G S) i))
    by_cases hi2 : i = rg_R S
    · subst hi2
      simp only [up_eq, Nat.sub_self]
      exact ⟨h32, h33, h34, h35, h36, h37⟩
    · simp only [up_ne hi2]
      have hq := a3 i (by omega)
      refine ⟨?_, ?_, ?_, ?_, ?_, ?_⟩
      · rw [hk _ _ (by omega) (by omega)]; exact hq.1
      · rw [hk _ _ (by omega) (by omega)]; exact hq.2.1
      · rw [hk _ _ (by omega) (by omega)]; exact hq.2.2.1
      · rw [hk _ _ (by omega) (by omega)]; exact hq.2.2.2.1
      · rw [hk _ _ (by omega) (by omega)]; exact hq.2.2.2.2.1
      · rw [hk _ _ (by omega) (by omega)]; exact hq.2.2.2.2.2
  · have hq := a4 i hi
    exact ⟨by rw [hk _ _ (by omega) (by omega)]; exact hq.1, by rw [hk _ _ (by omega) (by omega)]; exact hq.2⟩
  · have hq := a5 c hc
    refine ⟨fun e => ?_, fun e => ?_⟩
    · have := hq.1 e
      exact ⟨by rw [hk _ _ (by omega) (by omega)]; exact this.1, by rw [hk _ _ (by omega) (by omega)]; exact this.2⟩
    · rw [hk _ _ (by omega) (by omega)]; exact hq.2 e
  · intro i hi
    rw [rg_addr_R] at hi
    show up_ (rg_a S) (rg_R S) (rg_G S) i ≤ up_ (rg_b S) (rg_R S) (rg_G S) i ∧ up_ (rg_b S) (rg_R S) (rg_G S) i ≤ rg_G S
    by_cases hi2 : i = rg_R S
    · subst hi2
      simp only [up_eq]
      exact ⟨Nat.le_refl _, Nat.le_refl _⟩
    · simp only [up_ne hi2]
      exact a6 i (by omega)
  · intro _
    show up_ (rg_b S) (rg_R S) (rg_G S) (rg_R S + 1 - 1) = rg_G S
    rw [Nat.add_sub_cancel, up_eq]
  · intro c hc
    show rg_e S c ≤ rg_R S + 1
    have := a8 c hc
    omega
/-- one range more for the latest relation -/
theorem rs_S.addg {s t : rf_S} {S : rg} {l h9 : Nat} (h : rs_S s S) (hR : 0 < rg_R S) (hg : rr_G s t (rg_G S) l h9) : rs_S (rf_u t 37 (96 + (rg_R S - 1)) (.int (Int32.ofNat (rg_b S (rg_R S - 1) - rg_a S (rg_R S - 1) + 1)))) (rg_addg S l h9) := by
  obtain ⟨a1, a2, ⟨a3, a4⟩, a5, a6, a7, a8⟩ := h
  obtain ⟨⟨g1, g2⟩, g3, g4⟩ := hg
  have hb := a7 hR
  have hab := a6 (rg_R S - 1) (by omega)
  refine ⟨?_, ?_, ⟨fun i hi => ?_, fun i hi => ?_⟩, fun c hc => ?_, ?_, ?_, ?_⟩
  · rw [rf_u_ne (Or.inl (by omega)), g2 _ _ (by omega) (by omega) (by omega)]; exact a1
  · rw [rf_u_ne (Or.inl (by omega))]; exact g1
  · rw [rg_addg_R] at hi
    have hq := a3 i hi
    show _ ∧ _ ∧ _ ∧ _ ∧ _ ∧ rf_u t 37 (96 + (rg_R S - 1)) (.int (Int32.ofNat (rg_b S (rg_R S - 1) - rg_a S (rg_R S - 1) + 1))) 37 (96 + i) = .int (Int32.ofNat (up_ (rg_b S) (rg_R S - 1) (rg_G S + 1) i - rg_a S i))
    refine ⟨?_, ?_, ?_, ?_, ?_, ?_⟩
    · rw [rf_u_ne (Or.inl (by omega)), g2 _ _ (by omega) (by omega) (by omega)]; exact hq.1
    · rw [rf_u_ne (Or.inl (by omega)), g2 _ _ (by omega) (by omega) (by omega)]; exact hq.2.1
    · rw [rf_u_ne (Or.inl (by omega)), g2 _ _ (by omega) (by omega) (by omega)]; exact hq.2.2.1
    · rw [rf_u_ne (Or.inl (by omega)), g2 _ _ (by omega) (by omega) (by omega)]; exact hq.2.2.2.1
    · rw [rf_u_ne (Or.inl (by omega)), g2 _ _ (by omega) (by omega) (by omega)]; exact hq.2.2.2.2.1
    · by_cases hi2 : i = rg_R S - 1
      · subst hi2
        rw [rf_u_eq, up_eq, hb]
        congr 2
        omega
      · rw [rf_u_ne (Or.inr (by omega)), g2 _ _ (by omega) (by omega) (by omega), up_ne hi2]; exact hq.2.2.2.2.2
  · rw [rg_addg_G] at hi
    show rf_u t 37 _ _ 38 (128 + i) = .int (Int32.ofNat (up_ (rg_l S) (rg_G S) l i)) ∧ rf_u t 37 _ _ 39 (128 + i) = .int (Int32.ofNat (up_ (rg_h S) (rg_G S) h9 i))
    by_cases hi2 : i = rg_G S
    · subst hi2
      simp only [up_eq]
      exact ⟨by rw [rf_u_ne (Or.inl (by omega))]; exact g3, by rw [rf_u_ne (Or.inl (by omega))]; exact g4⟩
    · have hq := a4 i (by omega)
      simp only [up_ne hi2]
      exact ⟨by rw [rf_u_ne (Or.inl (by omega)), g2 _ _ (by omega) (by omega) (by omega)]; exact hq.1, by rw [rf_u_ne (Or.inl (by omega)), g2 _ _ (by omega) (by omega) (by omega)]; exact hq.2⟩
  · have hq := a5 c hc
    refine ⟨fun e => ?_, fun e => ?_⟩
    · have := hq.1 e
      exact ⟨by rw [rf_u_ne (Or.inl (by omega)), g2 _ _ (by omega) (by omega) (by omega)]; exact this.1, by rw [rf_u_ne (Or.inl (by omega)), g2 _ _ (by omega) (by omega) (by omega)]; exact this.2⟩
    · rw [rf_u_ne (Or.inl (by omega)), g2 _ _ (by omega) (by omega) (by omega)]; exact hq.2 e
  · intro i hi
    rw [rg_addg_R] at hi
    show rg_a S i ≤ up_ (rg_b S) (rg_R S - 1) (rg_G S + 1) i ∧ up_ (rg_b S) (rg_R S - 1) (rg_G S + 1) i ≤ rg_G S + 1
    have hq := a6 i hi
    by_cases hi2 : i = rg_R S - 1
    · subst hi2
      rw [up_eq]
      omega
    · rw [up_ne hi2]
      omega
  · intro _
    show up_ (rg_b S) (rg_R S - 1) (rg_G S + 1) (rg_R S - 1) = rg_G S + 1
    rw [up_eq]
  · exact a8
/-- a row of letters as the reference takes it for an operand -/
theorem rf_rw_1 {cs : List Nat} {p : Nat} : rf_rw cs p 1 = Int64.ofNat (cs.getD p 0 - 96) := by
  unfold rf_rw
  rw [if_pos (by omega), rf_b32_s]
  simp [rf_b32]
theorem rf_b32_ge {cs : List Nat} {p : Nat} : ∀ {k : Nat}, sb_ltr cs p k → (1 ≤ k → 1 ≤ rf_b32 cs k p 0) ∧ (2 ≤ k → 33 ≤ rf_b32 cs k p 0) ∧ rf_b32 cs k p 0 < 32 ^ k
  | 0, _ => ⟨by omega, by omega, by simp [rf_b32]⟩
  | k + 1, h => by
    have h1 := h (p + k) (by omega) (by omega)
    have h2 := rf_b32_ge (k := k) (fun j a b => h j a (by omega))
    rw [rf_b32_s, Nat.pow_succ]
    exact ⟨by omega, by omega, by omega⟩
theorem rf_rw_2 {cs : List Nat} {p k : Nat} (h : sb_ltr cs p k) (h1 : 2 ≤ k) (h2 : k ≤ 12) : ∃ N, rf_rw cs p k = Int64.ofNat N ∧ 33 ≤ N ∧ N < 9223372036854775808 := by
  have h3 := rf_b32_ge h
  have h4 : 32 ^ k ≤ 32 ^ 12 := Nat.pow_le_pow_right (by omega) h2
  exact ⟨rf_b32 cs k p 0, by unfold rf_rw; rw [if_pos h2], h3.2.1 h1, by omega⟩
/-- how reading a relation or a rule ends -/
def rq_Q (A : am_H) (b : Nat) (s : rf_S) (n : Nat) (x : ru_R) (q : am_O × am_H) : Prop := match x with
  | .ok y => q.1 = .inl none ∧ ∃ t r g, rf q.2 b (rf_c t y.1 (-1) r g) ∧ rs_S t y.2 ∧ rs_X s t ∧ sb_fr A q.2 b (b + 38)
  | .error e => q.1 = .inl none ∧ ∃ t p r g k, rf q.2 b (rf_c t p (Int32.ofNat e) r g) ∧ t 40 0 = .int (Int32.ofNat k) ∧ k ≤ 41 ∧ p ≤ n + 20 ∧ rs_X s t ∧ sb_fr A q.2 b (b + 38)
theorem rq_Q_ok {A B : am_H} {b n a g : Nat} {s t : rf_S} {r : Int64} {S : rg} (h1 : rf B b (rf_c t a (-1) r g)) (h2 : rs_S t S) (h3 : rs_X s t) (h4 : sb_fr A B b (b + 38)) : rq_Q A b s n (.ok (a, S)) (.inl none, B) := ⟨rfl, t, r, g, h1, h2, h3, h4⟩
theorem rq_Q_er {A B : am_H} {b n e p g k : Nat} {s t : rf_S} {r : Int64} (h1 : rf B b (rf_c t p (Int32.ofNat e) r g)) (h2 : t 40 0 = .int (Int32.ofNat k)) (h3 : k ≤ 41) (h4 : p ≤ n + 20) (h5 : rs_X s t) (h6 : sb_fr A B b (b + 38)) : rq_Q A b s n (.error e) (.inl none, B) := ⟨rfl, t, p, r, g, k, h1, h2, h3, h4, h5, h6⟩
theorem rq_Q.tr {A B : am_H} {b n : Nat} {s t : rf_S} {X : ru_R} {q : am_O × am_H} (h1 : rs_X s t) (h2 : sb_fr A B b (b + 38)) (h : rq_Q B b t n X q) : rq_Q A b s n X q := by
  cases X with
  | ok y =>
    obtain ⟨a, t', r, g, b1, b2, b3, b4⟩ := h
    exact ⟨a, t', r, g, b1, b2, h1.trans b3, h2.trans b4⟩
  | error e =>
    obtain ⟨a, t', p, r, g, k, b1, b2, b3, b4, b5, b6⟩ := h
    exact ⟨a, t', p, r, g, k, b1, b2, b3, b4, h1.trans b5, h2.trans b6⟩
