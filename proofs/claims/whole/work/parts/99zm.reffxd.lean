/-! Writing: what one argument does. -/
/-- a part's text, or the branch that is taken -/
def wr_ab (M : mg) (vf : wr_v) (S0 S1 : rg) (i : Nat) : Except Nat (List Nat ⊕ (Option Nat × Int × Nat)) := match vf (mg_c M i) with
  | none => .error 1
  | some x =>
    if mg_k M i = 6 then .ok (.inr (wr_selb M i x, 0, 0))
    else match x with
      | .inl p => if mg_k M i = 2 ∨ mg_k M i = 5 then .ok (.inl (sb_pt (Int64.ofNat p) (decide (mg_k M i = 5)) 4)) else .error 2
      | .inr (z, k) =>
        if mg_k M i = 4 then (if k = 0 then .ok (.inl (wr_hex z)) else .error 2)
        else if mg_k M i = 7 ∨ mg_k M i = 8 then .ok (.inr (wr_plub M S0 S1 i z k, wr_rest M i z k, k))
        else .ok (.inl (wr_dg z k (decide (mg_k M i = 3))))
def wr_do (M : mg) (inner : wr_i) (w : List Nat) (x : Except Nat (List Nat ⊕ (Option Nat × Int × Nat))) : wr_R := match x with
  | .error c => .error c
  | .ok (.inl l) => wr_put w l
  | .ok (.inr y) => wr_br M inner y.1 y.2.1 y.2.2 w
theorem wr_val_ab (M : mg) (vf : wr_v) (S0 S1 : rg) (inner : wr_i) (i : Nat) (w : List Nat) : wr_val M vf S0 S1 inner i w = wr_do M inner w (wr_ab M vf S0 S1 i) := by
  unfold wr_val wr_ab
  rcases vf (mg_c M i) with _ | x
  · rfl
  · dsimp only
    by_cases h6 : mg_k M i = 6
    · rw [if_pos h6, if_pos h6]; rfl
    · rw [if_neg h6, if_neg h6]
      rcases x with p | ⟨z, k⟩
      · dsimp only
        by_cases h : mg_k M i = 2 ∨ mg_k M i = 5
        · rw [if_pos h, if_pos h]; rfl
        · rw [if_neg h, if_neg h]; rfl
      · dsimp only
        by_cases h4 : mg_k M i = 4
        · rw [if_pos h4, if_pos h4]
          by_cases hk : k = 0
          · rw [if_pos hk, if_pos hk]; rfl
          · rw [if_neg hk, if_neg hk]; rfl
        · rw [if_neg h4, if_neg h4]
          by_cases h7 : mg_k M i = 7 ∨ mg_k M i = 8
          · rw [if_pos h7, if_pos h7]; rfl
          · rw [if_neg h7, if_neg h7]; rfl
/-- what writing rests on -/
def fx_C (s : rf_S) (M : mg) (t : Nat) (E dp : Nat → Nat) (vf : wr_v) (S0 S1 : rg) (nv : Nat) (nf : Nat → Int32) (bf : Nat → Bool) (lf : Nat → Int64) (cf : Nat → Int32) : Prop := (t ≤ 1 ∧ mg_P M ≤ 120 ∧ mg_B M ≤ 40 ∧ mg_ct (mg_k M) (mg_P M) ≤ 40) ∧ (∀ i, i < mg_P M → rm_K1 s M (128 * t) (64 * t) E dp i) ∧ (∀ i, i < mg_P M → mg_o M i < 100) ∧ (∀ b, b < mg_B M → rm_K2 s M (128 * t) (64 * t) E dp b) ∧ rf_vs s nv nf bf lf cf ∧ rv_R vf nv nf bf lf cf ∧ (rs_K s S0 0 ∧ rs_K s S1 1) ∧ rs_B S0 ∧ rs_B S1
def fx_j (j : Nat) : Prop := j = 0 ∨ j = 22 ∨ j = 47 ∨ j = 48 ∨ j = 51 ∨ j = 52 ∨ j = 53
theorem fx_C.fr {s u : rf_S} {M : mg} {t : Nat} {E dp : Nat → Nat} {vf : wr_v} {S0 S1 : rg} {nv : Nat} {nf cf : Nat → Int32} {bf : Nat → Bool} {lf : Nat → Int64} (h : fx_C s M t E dp vf S0 S1 nv nf bf lf cf) (fr : ∀ j, ¬ fx_j j → u j = s j) : fx_C u M t E dp vf S0 S1 nv nf bf lf cf := by
  have e : ∀ j, 5 ≤ j → j ≤ 46 → j ≠ 22 → u j = s j := fun j h1 h2 h3 => fr j (by unfold fx_j; omega)
  unfold fx_C rm_K1 rm_pc rm_pa rm_K2 rm_b rf_vs rs_K rs_R at *
  rw [e 6 (by omega) (by omega) (by omega), e 7 (by omega) (by omega) (by omega), e 8 (by omega) (by omega) (by omega), e 9 (by omega) (by omega) (by omega), e 10 (by omega) (by omega) (by omega), e 11 (by omega) (by omega) (by omega), e 12 (by omega) (by omega) (by omega), e 13 (by omega) (by omega) (by omega), e 14 (by omega) (by omega) (by omega), e 15 (by omega) (by omega) (by omega), e 16 (by omega) (by omega) (by omega), e 30 (by omega) (by omega) (by omega), e 31 (by omega) (by omega) (by omega), e 32 (by omega) (by omega) (by omega), e 33 (by omega) (by omega) (by omega), e 34 (by omega) (by omega) (by omega), e 35 (by omega) (by omega) (by omega), e 36 (by omega) (by omega) (by omega), e 37 (by omega) (by omega) (by omega), e 38 (by omega) (by omega) (by omega), e 39 (by omega) (by omega) (by omega), e 42 (by omega) (by omega) (by omega), e 43 (by omega) (by omega) (by omega), e 44 (by omega) (by omega) (by omega), e 45 (by omega) (by omega) (by omega), e 46 (by omega) (by omega) (by omega)]
  exact h
/-- a branch c is entered at level L + 1 -/
def fx_pu (s : rf_S) (M : mg) (p L c : Nat) (y : Int64) (k : Nat) : rf_S := rf_u (rf_u (rf_u (rf_u s 22 0 (.int (Int32.ofNat (L + 1)))) 51 (L + 1) (rm_e p (if mg_a M c < mg_e M c then some (mg_a M c) else none))) 52 (L + 1) (.long y)) 53 (L + 1) (.int (Int32.ofNat k))
def fa_Q (A : am_H) (s : rf_S) (b : Nat) (M : mg) (t L i : Nat) (w : List Nat) (x : Except Nat (List Nat ⊕ (Option Nat × Int × Nat))) (q : am_O × am_H) : Prop := match x with
  | .error c => q.1 = .inl none ∧ rf q.2 b (rf_u s 0 0 (.int (Int32.ofNat (c + 1)))) ∧ sb_fr A q.2 b (b + 38) ∧ (c = 1 ∨ c = 2)
  | .ok (.inl l) => q.1 = .inl none ∧ ∃ u, rf q.2 b u ∧ rf_wx u (wx_app (some w) l) ∧ rf_wk s u ∧ sb_fr A q.2 b (b + 38)
  | .ok (.inr y) => q.1 = .inl none ∧ ∃ c y' k', y.1 = some c ∧ c < mg_B M ∧ mg_w M c = i ∧ rf q.2 b (fx_pu s M (128 * t) L c y' k') ∧ (mg_k M i ≠ 6 → y' = Int64.ofInt y.2.1 ∧ k' = y.2.2) ∧ y.2.1.natAbs < 10 ^ 18 ∧ y.2.2 ≤ 6 ∧ sb_fr A q.2 b (b + 38)
theorem fa_go {A : am_H} {s : rf_S} {b d x : Nat} {M : mg} {t L i c : Nat} {w : List Nat} (h : rf_go d 169 [.ref b, .int (Int32.ofNat x)] A b none (rf_u s 0 0 (.int (Int32.ofNat (c + 1))))) (hc : c = 1 ∨ c = 2) : am_wp d 169 (0, am_ent 169 [.ref b, .int (Int32.ofNat x)], [], A) (fa_Q A s b M t L i w (.error c)) := by
  obtain ⟨B, h1, h2, h3⟩ := h
  exact ⟨_, h1, rfl, h2, h3, hc⟩
theorem fa_wg {A : am_H} {s : rf_S} {b d x : Nat} {M : mg} {t L i : Nat} {w l : List Nat} (h : rf_wg d 169 [.ref b, .int (Int32.ofNat x)] A b s (some w) l) : am_wp d 169 (0, am_ent 169 [.ref b, .int (Int32.ofNat x)], [], A) (fa_Q A s b M t L i w (.ok (.inl l))) := by
  obtain ⟨B, u, h1, h2, h3, h4, h5⟩ := h
  exact ⟨_, h1, rfl, u, h2, h3, h4, h5⟩
theorem fa_pu {A : am_H} {s : rf_S} {b d x : Nat} {M : mg} {t L i c k k' : Nat} {y' : Int64} {z : Int} {o : Option Nat} {w : List Nat} (ho : o = some c) (hc : c < mg_B M) (hw : mg_w M c = i) (hy : mg_k M i ≠ 6 → y' = Int64.ofInt z ∧ k' = k) (hz : z.natAbs < 10 ^ 18) (hk : k ≤ 6) (h : rf_go d 169 [.ref b, .int (Int32.ofNat x)] A b none (fx_pu s M (128 * t) L c y' k')) : am_wp d 169 (0, am_ent 169 [.ref b, .int (Int32.ofNat x)], [], A) (fa_Q A s b M t L i w (.ok (.inr (o, z, k)))) := by
  obtain ⟨B, h1, h2, h3⟩ := h
  exact ⟨_, h1, rfl, c, y', k', ho, hc, hw, h2, hy, hz, hk, h3⟩
theorem wr_or_some {o q : Option Nat} (h : q ≠ none) : ∃ c, wr_or o q = some c := by
  rcases o with _ | c
  · rcases q with _ | c
    · exact absurd rfl h
    · exact ⟨c, rfl⟩
  · exact ⟨c, rfl⟩
theorem mg_bw_own {M : mg} {i c : Nat} {se : Int64} (h : mg_bw M i se (mg_B M) 0 = some c) : c < mg_B M ∧ mg_w M c = i := by
  have := mg_bw_in h
  exact ⟨by omega, this.2.2.1⟩
theorem wr_or_own {M : mg} {i c : Nat} {o q : Option Nat} (h1 : ∀ c, o = some c → c < mg_B M ∧ mg_w M c = i) (h2 : ∀ c, q = some c → c < mg_B M ∧ mg_w M c = i) (h : wr_or o q = some c) : c < mg_B M ∧ mg_w M c = i := by
  rcases o with _ | e
  · exact h2 c h
  · exact h1 c h
