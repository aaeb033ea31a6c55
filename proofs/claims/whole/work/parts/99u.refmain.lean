/-! The reference reads a message as the class does. -/
theorem rd_bo_inr {cs : List Nat} {n L i a : Nat} {nu : Bool} {M : mg} {y : Nat × mg} (ha : a ≤ n) (h : rd_bo cs n L i nu a M = .ok (.inr y)) : L ≠ 3 ∧ rd_sk cs n a + 2 ≤ y.1 ∧ y.1 ≤ n ∧ ∃ se, y.2 = mg_addb M i se := by
  have h1 := rd_sk_le (cs := cs) (n := n) (a := a) ha
  unfold rd_bo at h
  split at h
  · split at h
    · cases h
    · injection h with h; cases h
  · split at h
    · cases h
    · next a1 se hs =>
      have h2 := rd_sel_le (by omega) hs
      have h3 := rd_sk_le (cs := cs) (n := n) (a := a1) (by omega)
      split at h
      · next q =>
        have h4 : rd_sk cs n a1 < n := sb_lk_pos (cs := cs) (by omega)
        split at h
        · cases h
        · next q3 =>
          injection h with h
          injection h with h
          subst h
          exact ⟨q3, by dsimp only; omega, by dsimp only; omega, se, rfl⟩
      · cases h
theorem rd_bo_inl {cs : List Nat} {n L i a : Nat} {nu : Bool} {M : mg} {y : Nat × mg} (ha : a ≤ n) (h : rd_bo cs n L i nu a M = .ok (.inl y)) : a ≤ y.1 ∧ y.1 ≤ n ∧ y.2 = mg_cla M i := by
  have h1 := rd_sk_le (cs := cs) (n := n) (a := a) ha
  unfold rd_bo at h
  split at h
  · next q =>
    have h4 : rd_sk cs n a < n := sb_lk_pos (cs := cs) (by omega)
    split at h
    · cases h
    · injection h with h
      injection h with h
      subst h
      exact ⟨by dsimp only; omega, by dsimp only; omega, rfl⟩
  · split at h
    · cases h
    · split at h
      · split at h
        · cases h
        · injection h with h; cases h
      · cases h
theorem mb_Q_R {A0 A1 : am_H} {s0 s1 : rf_S} {cs : List Nat} {b n a : Nat} {M Mq : mg} {L i : Nat} {nu : Bool} {E dp ob obq : Nat → Nat} {lp lq : Nat → Option Nat} {sg : Nat → Bool} {q : am_O × am_H} (hB : mg_B Mq = mg_B M) (hlq : ∀ l, l < L → lq l = lp l) (hli : lq L = some i) (hob : ∀ l, 1 ≤ l → l ≤ L → obq l = ob l) (hX : rm_X s0 s1) (hF : sb_fr A0 A1 b (b + 38)) (hP : ml_P n ob sg L M a) (hi : i < mg_P M) (hnu : nu = decide (mg_k M i ≠ 6)) (hB1 : 3 * mg_B M + 1 ≤ a) (h : mb_Q A1 s1 b n Mq L E dp lq obq (rd_bo cs n L i nu a M) q) : mb_R A0 s0 b n M L i nu lp ob sg (rd_bo cs n L i nu a M) q.2 := by
  rcases hbo : rd_bo cs n L i nu a M with e | y | y
  · rw [hbo] at h
    exact h.2.tr hX hF
  · rw [hbo] at h
    have h1 := rd_bo_inl hP.1 hbo
    obtain ⟨z, t, r, g, a1, a2, a3, a4, a5⟩ := h
    refine ⟨⟨t, r, g, E, dp, lq, a1, a2.ob (fun l h1 h2 => (hob l h1 h2).symm), a3, hlq, hX.trans a4, hF.trans a5⟩, ?_⟩
    rw [h1.2.2]
    exact (hP.mono h1.2.1 h1.1).cla
  · rw [hbo] at h
    obtain ⟨h0, h1, h2, se, h3⟩ := rd_bo_inr hP.1 hbo
    have h9 := rd_sk_le (cs := cs) (n := n) (a := a) hP.1
    obtain ⟨z, t, r, g, a1, a2, a3, a4, a5⟩ := h
    refine ⟨⟨t, r, g, E, dp, up_ lq (L + 1) none, a1, a2.ob (fun l h4 h5 => ?_), a3, fun l hl => ?_, hX.trans a4, hF.trans a5⟩, ?_⟩
    · rw [hB]
      by_cases e : l = L + 1
      · subst e; rw [up_eq, up_eq]
      · rw [up_ne e, up_ne e]; exact (hob l h4 (by omega)).symm
    · rw [up_ne (by omega)]
      by_cases e : l = L
      · subst e; rw [up_eq]; exact hli
      · rw [up_ne e]; exact hlq l (by omega)
    · rw [h3, hnu]
      exact hP.opn hi h2 (Or.inr ⟨by omega, by omega⟩)
theorem mg_ite1 (c : Prop) [Decidable c] : (if c then 1 else 0) ≤ 1 := by split <;> omega
section ML
variable {d b n : Nat} {cs : List Nat} {A0 : am_H} {s0 : rf_S} {dbl : Bool}
/-- how the texts of branches at level L + 1 are read -/
def ml_IN (d b n : Nat) (A0 : am_H) (s0 : rf_S) (cs : List Nat) (L : Nat) (inner : Option (Bool → Nat → mg → rd_R)) : Prop := (inner = none ↔ L = 3) ∧ ∀ fn, inner = some fn → ∀ (nu : Bool) (a : Nat) (M : mg) (lp : Nat → Option Nat) (ob : Nat → Nat) (sg : Nat → Bool) (A : am_H) (Q : am_O × am_H → Prop), nu = sg (L + 1) → ml_G A0 s0 b n M (L + 1) lp ob sg a A → (∀ a' M' A', fn nu a M = .ok (a', M') → n ≤ a' ∨ sb_lk cs n a' = 125 → ml_G A0 s0 b n M' (L + 1) lp ob sg a' A' → am_wp d 122 (51, [some (.ref b)], [], A') Q) → (∀ e A', fn nu a M = .error e → ml_E A0 s0 b n e A' → am_wp d 122 (51, [some (.ref b)], [], A') Q) → am_wp d 122 (51, [some (.ref b)], [], A) Q
theorem ml_brs {L i k : Nat} {inner : Option (Bool → Nat → mg → rd_R)} {lp : Nat → Option Nat} {ob : Nat → Nat} {sg : Nat → Bool} {Q : am_O × am_H → Prop} (hd : 10 ≤ d) (hx0 : rf_tx s0 cs n) (hc128 : ∀ j, cs.getD j 0 < 128) (hin : ml_IN d b n A0 s0 cs L inner) (hmo : rd_inn n inner) : ∀ (f a : Nat) (M : mg) (A : am_H), a ≤ n → n < rd_sk cs n a + 3 * f → mb_R A0 s0 b n M L i (decide (k ≠ 6)) lp ob sg (rd_bo cs n L i (decide (k ≠ 6)) a M) A → (∀ a' M' A', rd_brs cs n inner i k f (rd_sk cs n a) M = .ok (a', M') → ml_G A0 s0 b n M' L lp ob sg a' A' → am_wp d 122 (51, [some (.ref b)], [], A') Q) → (∀ e A', rd_brs cs n inner i k f (rd_sk cs n a) M = .error e → ml_E A0 s0 b n e A' → am_wp d 122 (51, [some (.ref b)], [], A') Q) → am_wp d 122 (51, [some (.ref b)], [], A) Q := by
  intro f
  induction f with
  | zero =>
    intro a M A ha hf
    have := rd_sk_le (cs := cs) (n := n) (a := a) ha
    omega
  | succ f ih =>
    intro a M A ha hf hR okc erc
    rw [rd_brs_bo hin.1] at okc erc
    rcases hbo : rd_bo cs n L i (decide (k ≠ 6)) a M with e | y | y
    · rw [hbo] at hR okc erc
      exact erc e A rfl hR
    · rw [hbo] at hR okc erc
      exact okc y.1 y.2 A rfl hR
    · rw [hbo] at hR okc erc
      obtain ⟨h0, h1, h2, se, h3⟩ := rd_bo_inr ha hbo
      rcases hinn : inner with _ | fn
      · exact absurd (hin.1.mp hinn) h0
      · rw [hinn] at okc erc hin hmo ih
        unfold rd_bx at okc erc
        dsimp only at okc erc
        refine hin.2 fn rfl (decide (k ≠ 6)) y.1 y.2 _ _ _ A Q (up_eq ..).symm hR (fun a3 M3 A3 q1 q2 G3 => ?_) (fun e A3 q1 E3 => erc e A3 (by rw [q1]) E3)
        rw [q1] at okc erc
        dsimp only at okc erc
        have hle := hmo fn rfl _ _ _ _ _ h2 q1
        unfold rd_le at hle
        obtain ⟨⟨t, r, g, E, dp, lq, g1, g2, g3, g4, g5, g6⟩, gP⟩ := G3
        by_cases h125 : sb_lk cs n a3 = 125
        · rw [if_pos h125] at okc erc
          have ha3 : a3 < n := sb_lk_pos (cs := cs) (by omega)
          have hx := g5.tx hx0
          have hob : up_ ob (L + 1) (mg_B M) (L + 1) = mg_B M := up_eq ..
          have hC6 := (g2.C6 (L + 1) (by omega) (Nat.le_refl _)).2.2.2.2
          rw [Nat.add_sub_cancel, g4 L (by omega), up_eq] at hC6
          have hw : mg_w M3 (up_ ob (L + 1) (mg_B M) (L + 1)) = i := (Option.some.inj hC6).symm
          have hnu := (gP.2.2.2.2 (L + 1) (by omega) (Nat.le_refl _)).2.2
          rw [hw, up_eq] at hnu
          have hend := rp_end (d := d - 1) (E := E) (dp := dp) (lp := lq) (ob := up_ ob (L + 1) (mg_B M)) (L := L) (M := M3) (cs := cs) (by omega) h125 gP.2.2.1 gP.2.2.2.1 hc128 ha3 gP.2.1 hx g2 g3 g1
          refine lh_step (by omega) hx ha3 g1 hend (fun q hq => ⟨hq.ret, ?_⟩)
          rw [hw, hob, hnu] at hq
          have hwi : i < mg_P M3 := by rw [← hw]; exact (gP.2.2.2.2 (L + 1) (by omega) (Nat.le_refl _)).2.1
          have hPc : ml_P n ob sg L (mg_clb M3 (mg_B M)) a3 := by
            obtain ⟨p1, p2, p3, p4, p5⟩ := gP
            refine ⟨p1, p2, p3, p4, fun l z1 z2 => ?_⟩
            have := p5 l z1 (by omega)
            rw [up_ne (by omega), up_ne (by omega)] at this
            exact this
          have hsk := rd_sk_le (cs := cs) (n := n) (a := a3 + 1) (by omega)
          have hB9 := gP.2.2.1
          exact ih (a3 + 1) (mg_clb M3 (mg_B M)) q.2 (by omega) (by omega) (mb_Q_R (M := mg_clb M3 (mg_B M)) rfl (fun l hl => by rw [g4 l (by omega), up_ne (by omega)]) (by rw [g4 L (by omega), up_eq]) (fun l z1 z2 => up_ne (by omega)) g5 g6 (hPc.mono (by omega) (by omega)) hwi hnu.symm (show 3 * mg_B M3 + 1 ≤ a3 + 1 by omega) hq) okc erc
        · rw [if_neg h125] at okc erc
          have hn : n ≤ a3 := q2.elim id (fun z => absurd z h125)
          have hL3 := g2.L3
          exact erc a3 A3 rfl ⟨t, a3, -1, r, g, L + 1, g1, g2.s22, by omega, by omega, Or.inr ⟨rfl, hn, by omega, by omega⟩, g5, g6⟩
theorem ml_go {L : Nat} {inner : Option (Bool → Nat → mg → rd_R)} (hd : 10 ≤ d) (hx0 : rf_tx s0 cs n) (h27 : s0 27 0 = .int (sb_i dbl)) (hc128 : ∀ j, cs.getD j 0 < 128) (hin : ml_IN d b n A0 s0 cs L inner) (hmo : rd_inn n inner) : ∀ (f a : Nat) (M : mg) (lp : Nat → Option Nat) (ob : Nat → Nat) (sg : Nat → Bool) (A : am_H) (Q : am_O × am_H → Prop), n ≤ a + f → ml_G A0 s0 b n M L lp ob sg a A → (∀ a' M' A', rd_loop cs n dbl inner (decide (L = 0)) (if L = 0 then false else sg L) f a M = .ok (a', M') → n ≤ a' ∨ (sb_lk cs n a' = 125 ∧ L ≠ 0) → ml_G A0 s0 b n M' L lp ob sg a' A' → am_wp d 122 (51, [some (.ref b)], [], A') Q) → (∀ e A', rd_loop cs n dbl inner (decide (L = 0)) (if L = 0 then false else sg L) f a M = .error e → ml_E A0 s0 b n e A' → am_wp d 122 (51, [some (.ref b)], [], A') Q) → am_wp d 122 (51, [some (.ref b)], [], A) Q := by
  have hn1 := hx0.2.2.1
  intro f
  induction f with
  | zero =>
    intro a M lp ob sg A Q hf hG okc erc
    exact okc a M A rfl (Or.inl (by omega)) hG
  | succ f ih =>
    intro a M lp ob sg A Q hf hG okc erc
    rw [rd_loop] at okc erc
    by_cases h1 : n ≤ a ∨ (sb_lk cs n a = 125 ∧ decide (L = 0) = false)
    · rw [if_pos h1] at okc erc
      exact okc a M A rfl (h1.elim Or.inl (fun z => Or.inr ⟨z.1, of_decide_eq_false z.2⟩)) hG
    rw [if_neg h1] at okc erc
    have ha : a < n := by omega
    obtain ⟨⟨s, r, g, E, dp, lq, g1, g2, g3, g4, g5, g6⟩, gP⟩ := hG
    have hx := g5.tx hx0
    have h27s : s 27 0 = .int (sb_i dbl) := (g5 27 0 (by unfold rm_sc; omega)).trans h27
    have hsg : s 26 L = .int (sb_i (if L = 0 then false else sg L)) := by
      by_cases e : L = 0
      · subst e; rw [if_pos rfl]; exact g2.s26
      · rw [if_neg e, (g2.s24 L (by omega) (Nat.le_refl _)).2.2, (gP.2.2.2.2 L (by omega) (Nat.le_refl _)).2.2]
    by_cases h39 : sb_lk cs n a = 39
    · rw [if_pos h39] at okc erc
      have hle := rd_apos_le (cs := cs) (n := n) (a := a) (M := M) (dbl := dbl) (signs := if L = 0 then false else sg L) ha
      unfold rd_le at hle
      refine lh_step (by omega) hx ha g1 (rp_apos (d := d - 1) (dbl := dbl) (sg := if L = 0 then false else sg L) (by omega) h39 h27s hsg ha gP.2.1 hx g2 g3 g1) (fun q hq => ⟨hq.1, ?_⟩)
      exact ih _ _ lp ob sg q.2 Q (by omega) ⟨hq.2.tr g4 g5 g6, gP.apos ha⟩ okc erc
    rw [if_neg h39] at okc erc
    by_cases h123 : sb_lk cs n a = 123
    · rw [if_pos h123] at okc erc
      have harg := rp_arg (d := d - 1) (L := L) (M := M) (by omega) h123 gP.2.2.1 gP.2.2.2.1 hc128 ha gP.2.1 hx g2 g3 g1
      refine lh_step (by omega) hx ha g1 harg (fun q hq => ⟨hq.ret, ?_⟩)
      rcases rd_ab_cases (cs := cs) (n := n) (L := L) (a := a + 1) (M := M) (by omega) with ⟨e, e1, e2⟩ | ⟨a', k, x, e1, e2, e3, e4⟩ | ⟨k, p, M2, e1, ⟨x, e2⟩, e3, e4, e5, e6⟩
      · rw [e1] at hq
        rw [e2] at okc erc
        exact erc e q.2 rfl (hq.2.tr g5 g6)
      · rw [e1] at hq
        rw [e4] at okc erc
        obtain ⟨z, t, r2, g9, b1, b2, b3, b4, b5⟩ := hq
        exact ih a' (mg_add M k x) lp ob sg q.2 Q (by omega) ⟨⟨t, r2, g9, _, _, _, b1, b2, b3, fun l hl => by rw [up_ne (by omega)]; exact g4 l hl, g5.trans b4, g6.trans b5⟩, gP.add e3 (by omega) (by omega)⟩ okc erc
      · rw [e5] at hq
        rw [e6] at okc erc
        have hP2 : ml_P n ob sg L M2 p := by
          have := gP.add (k := k) (x := x) e4 (by omega) (by omega)
          rcases e2 with e2 | ⟨v, e2⟩
          · rw [e2]; exact this
          · rw [e2]; exact this.off
        have hB2 : mg_B M2 = mg_B M := by
          rcases e2 with e2 | ⟨v, e2⟩ <;> rw [e2] <;> rfl
        have hPP : mg_P M2 = mg_P M + 1 := by
          rcases e2 with e2 | ⟨v, e2⟩ <;> rw [e2] <;> rfl
        have hkk : mg_k M2 (mg_P M) = k := by
          rcases e2 with e2 | ⟨v, e2⟩ <;> rw [e2] <;> exact up_eq ..
        have hgB := gP.2.2.1
        have hR := mb_Q_R (A0 := A0) (s0 := s0) (lp := lp) (ob := ob) (sg := sg) (M := M2) hB2.symm (fun l hl => by rw [up_ne (by omega)]; exact g4 l hl) (up_eq ..) (fun l z1 z2 => rfl) g5 g6 hP2 (by omega) (by rw [hkk]) (by omega) hq
        have hsk := rd_sk_le (cs := cs) (n := n) (a := p) e4
        refine ml_brs hd hx0 hc128 hin hmo 40 p M2 q.2 e4 (by omega) hR (fun a' M' A' q1 G => ?_) (fun e A' q1 E => ?_)
        · rw [q1] at okc erc
          have hle := (rd_arg_le hmo (show a + 1 ≤ n by omega) (by rw [e6]; exact q1)).2
          exact ih a' M' lp ob sg A' Q (by omega) G okc erc
        · rw [q1] at okc erc
          exact erc e A' rfl E
    rw [if_neg h123] at okc erc
    refine lh_step (by omega) hx ha g1 (rp_chr (d := d - 1) (sg := if L = 0 then false else sg L) (by omega) h39 h123 (fun z => by
      by_cases e : L = 0
      · exact e
      · exact absurd (Or.inr ⟨z, decide_eq_false e⟩) h1) hsg ha gP.2.1 hx g2 g3 g1) (fun q hq => ⟨hq.1, ?_⟩)
    exact ih (a + 1) _ lp ob sg q.2 Q (by omega) ⟨hq.2.tr g4 g5 g6, gP.add (by omega) (by omega) (fun z => absurd (Nat.le_trans z (mg_ite1 _)) (by omega))⟩ okc erc
def ml_in (cs : List Nat) (n : Nat) (dbl : Bool) : Nat → Option (Bool → Nat → mg → rd_R)
  | 0 => none
  | D + 1 => some (rd_msg cs n dbl D false)
theorem rd_msg_in (cs : List Nat) (n : Nat) (dbl : Bool) : ∀ D top signs a M, rd_msg cs n dbl D top signs a M = rd_loop cs n dbl (ml_in cs n dbl D) top signs 120 a M
  | 0, _, _, _, _ => rfl
  | _ + 1, _, _, _, _ => rfl
theorem ml_in_le (cs : List Nat) (n : Nat) (dbl : Bool) (D : Nat) : rd_inn n (ml_in cs n dbl D) := by
  intro f hf sg a M a' M' h hr
  cases D with
  | zero => cases hf
  | succ D =>
    cases hf
    exact rd_msg_le D false sg a M a' M' h hr
theorem ml_main (hd : 10 ≤ d) (hx0 : rf_tx s0 cs n) (h27 : s0 27 0 = .int (sb_i dbl)) (hc128 : ∀ j, cs.getD j 0 < 128) : ∀ (D L : Nat), L + D = 3 → ∀ (f a : Nat) (M : mg) (lp : Nat → Option Nat) (ob : Nat → Nat) (sg : Nat → Bool) (A : am_H) (Q : am_O × am_H → Prop), n ≤ a + f → ml_G A0 s0 b n M L lp ob sg a A → (∀ a' M' A', rd_loop cs n dbl (ml_in cs n dbl D) (decide (L = 0)) (if L = 0 then false else sg L) f a M = .ok (a', M') → n ≤ a' ∨ (sb_lk cs n a' = 125 ∧ L ≠ 0) → ml_G A0 s0 b n M' L lp ob sg a' A' → am_wp d 122 (51, [some (.ref b)], [], A') Q) → (∀ e A', rd_loop cs n dbl (ml_in cs n dbl D) (decide (L = 0)) (if L = 0 then false else sg L) f a M = .error e → ml_E A0 s0 b n e A' → am_wp d 122 (51, [some (.ref b)], [], A') Q) → am_wp d 122 (51, [some (.ref b)], [], A) Q := by
  intro D
  induction D with
  | zero =>
    intro L hL
    have hin : ml_IN d b n A0 s0 cs L (ml_in cs n dbl 0) := ⟨⟨fun _ => by omega, fun _ => rfl⟩, fun fn hf => by cases hf⟩
    exact ml_go hd hx0 h27 hc128 hin (ml_in_le cs n dbl 0)
  | succ D ihD =>
    intro L hL
    have hin : ml_IN d b n A0 s0 cs L (ml_in cs n dbl (D + 1)) := by
      refine ⟨⟨fun h => (by cases h), fun h => by omega⟩, fun fn hf nu a M lp ob sg A Q hnu hG okc erc => ?_⟩
      cases hf
      have hn1 := hx0.2.2.1
      have e : ∀ a M, rd_msg cs n dbl D false nu a M = rd_loop cs n dbl (ml_in cs n dbl D) (decide (L + 1 = 0)) (if L + 1 = 0 then false else sg (L + 1)) 120 a M := fun a M => by
        rw [rd_msg_in, decide_eq_false (by omega), if_neg (by omega), hnu]
      refine ihD (L + 1) (by omega) 120 a M lp ob sg A Q (by omega) hG (fun a' M' A' q1 q2 G => ?_) (fun e' A' q1 E => ?_)
      · exact okc a' M' A' (by rw [e]; exact q1) (q2.elim Or.inl (fun z => Or.inr z.1)) G
      · exact erc e' A' (by rw [e]; exact q1) E
    exact ml_go hd hx0 h27 hc128 hin (ml_in_le cs n dbl (D + 1))
end ML
