/-! The reference's format: a part. -/
def wr_pb (M : mg) (vf : wr_v) (S0 S1 : rg) (z : Int) (k i : Nat) : Except Nat (List Nat ⊕ (Option Nat × Int × Nat)) := if mg_k M i = 0 then .ok (.inl [(mg_c M i).toUInt32.toNat]) else if mg_k M i = 1 then .ok (.inl (wr_dg z k true)) else wr_ab M vf S0 S1 i
theorem wr_part_pb {M : mg} {vf : wr_v} {S0 S1 : rg} {len : Bool} {inner : wr_i} {z : Int} {k i : Nat} {w : List Nat} : wr_part M vf S0 S1 len inner false z k i w = wr_do M inner w (wr_pb M vf S0 S1 z k i) := by
  unfold wr_part wr_pb
  by_cases h0 : mg_k M i = 0
  · rw [if_pos h0, if_pos h0]; rfl
  · rw [if_neg h0, if_neg h0]
    by_cases h1 : mg_k M i = 1
    · rw [if_pos h1, if_pos h1]; rfl
    · rw [if_neg h1, if_neg h1]
      unfold wr_arg
      rw [← wr_val_ab]
      rcases wr_val M vf S0 S1 inner i w with c | w'
      · dsimp only
        rw [if_neg (fun q => by cases q.2.1)]
      · rfl
theorem i32_u32n {c : Nat} (h : c < 128) : (Int32.ofNat c).toUInt32.toNat = c := by
  rw [Int32.toUInt32_ofNat', UInt32.toNat_ofNat', Nat.mod_eq_of_lt (show c < 2 ^ 32 by omega)]
theorem fp_wg {A : am_H} {s : rf_S} {b d x : Nat} {M : mg} {t L i : Nat} {w l : List Nat} (h : rf_wg d 168 [.ref b, .int (Int32.ofNat x)] A b s (some w) l) : am_wp d 168 (0, am_ent 168 [.ref b, .int (Int32.ofNat x)], [], A) (fa_Q A s b M t L i w (.ok (.inl l))) := by
  obtain ⟨B, u, h1, h2, h3, h4, h5⟩ := h
  exact ⟨_, h1, rfl, u, h2, h3, h4, h5⟩
theorem fa_Q_in {A : am_H} {s : rf_S} {b : Nat} {M : mg} {t L i : Nat} {w : List Nat} {x : Except Nat (List Nat ⊕ (Option Nat × Int × Nat))} {q : am_O × am_H} (h : fa_Q A s b M t L i w x q) : q.1 = .inl none := by
  rcases x with c | l | y
  · exact h.1
  · exact h.1
  · exact h.1
theorem fp_part {d b t L i k : Nat} {z : Int} {M : mg} {E dp : Nat → Nat} {vf : wr_v} {S0 S1 : rg} {nv : Nat} {nf cf : Nat → Int32} {bf : Nat → Bool} {lf : Nat → Int64} {s : rf_S} {w : List Nat} {A : am_H} (hd : 7 ≤ d) (hC : fx_C s M t E dp vf S0 S1 nv nf bf lf cf) (hi : i < mg_P M) (hL : dp i = L) (h22 : s 22 0 = .int (Int32.ofNat L)) (hs1 : mg_k M i = 1 → s 52 L = .long (Int64.ofInt z) ∧ s 53 L = .int (Int32.ofNat k)) (hs0 : mg_k M i = 0 → ∃ c, c < 128 ∧ mg_c M i = Int32.ofNat c) (hz : z.natAbs < 10 ^ 18) (hk : k ≤ 6) (hw : rf_dw s w) (h : rf A b s) : am_wp d 168 (0, am_ent 168 [.ref b, .int (Int32.ofNat (128 * t + i))], [], A) (fa_Q A s b M t L i w (wr_pb M vf S0 S1 z k i)) := by
  have hC' := hC
  obtain ⟨⟨ht, hP, hB, hct⟩, hK1, ho, hK2, hvs, hrv, hrs, hB0, hB1⟩ := hC
  obtain ⟨q1, q2, q3, q4, q5, q6, q7, q8⟩ := hK1 i hi
  have hx : 128 * t + i < 384 := by omega
  unfold wr_pb
  by_cases h0 : mg_k M i = 0
  · rw [if_pos h0]
    obtain ⟨c, hc, hcc⟩ := hs0 h0
    obtain ⟨p1, p2⟩ := q1 (by omega)
    rw [hcc] at p2
    rw [h0] at p1
    rw [hcc, i32_u32n hc]
    exact fp_wg (fp_0 (by omega) hx p1 p2 (show rf_wx s (some w) from hw) h)
  · rw [if_neg h0]
    by_cases h1 : mg_k M i = 1
    · rw [if_pos h1]
      obtain ⟨p1, p2⟩ := q1 (by omega)
      rw [h1] at p1
      exact fp_wg (fp_1 (by omega) hx (by omega) hk hz p1 h22 (hs1 h1).1 (hs1 h1).2 (show rf_wx s (some w) from hw) h)
    · rw [if_neg h1]
      obtain ⟨r1, r2, r3⟩ := q2 (by omega)
      refine fp_a (by omega) hx r1 r2 h (fa_arg (d := d - 1) (by omega) hC' hi (by omega) hL h22 hw h) (fun q hq => ?_)
      have := fa_Q_in hq
      refine ⟨this, ?_⟩
      obtain ⟨o, B⟩ := q
      dsimp only at this
      subst this
      exact hq
/-- the frame of format -/
abbrev fl_L (b t : Nat) (len : Bool) (o3 : Int32) (mk : Nat) (v5 : Option Value) : am_L := [some (.ref b), some (.int (Int32.ofNat t)), some (.int (sb_i len)), some (.int o3), some (.int (Int32.ofNat mk)), v5]
def fl_K (s0 u : rf_S) : Prop := ∀ j, ¬ fx_j j → u j = s0 j
def fl_H (A0 : am_H) (s0 : rf_S) (b t L : Nat) (o : Option Nat) (w : List Nat) (A : am_H) (u : rf_S) : Prop := rf A b u ∧ rf_dw u w ∧ u 22 0 = .int (Int32.ofNat L) ∧ u 51 L = rm_e (128 * t) o ∧ fl_K s0 u ∧ sb_fr A0 A b (b + 38)
def fl_W (L : Nat) (u u' : rf_S) : Prop := (∀ l, l < L → u' 51 l = u 51 l) ∧ (∀ l, l ≤ L → u' 52 l = u 52 l ∧ u' 53 l = u 53 l)
theorem fl_W.trans {L : Nat} {u v x : rf_S} (h : fl_W L u v) (k : fl_W L v x) : fl_W L u x := ⟨fun l hl => (k.1 l hl).trans (h.1 l hl), fun l hl => ⟨(k.2 l hl).1.trans (h.2 l hl).1, (k.2 l hl).2.trans (h.2 l hl).2⟩⟩
def fl_X (A0 : am_H) (s0 : rf_S) (b L : Nat) (W0 : List Nat) (c : Nat) (A' : am_H) (u' u : rf_S) : Prop := rf A' b u' ∧ u' 0 0 = .int (Int32.ofNat (c + 1)) ∧ (1 ≤ c ∧ c ≤ 3) ∧ (∃ L', L' < 4 ∧ u' 22 0 = .int (Int32.ofNat L')) ∧ fl_K s0 u' ∧ sb_fr A0 A' b (b + 38) ∧ (∀ l, l < L → u' 51 l = u 51 l) ∧ (c ≠ 3 → ∀ i, i < W0.length → u' 47 i = .int (Int32.ofNat (W0.getD i 0)))
def fl_R (M : mg) (E dp : Nat → Nat) (e L i : Nat) (sg : Bool) (z : Int) (k : Nat) (u : rf_S) : Prop := (i < e → E i = e ∧ dp i = L) ∧ e ≤ mg_P M ∧ (∀ f, ro M sg e f i) ∧ (sg = true → u 52 L = .long (Int64.ofInt z) ∧ u 53 L = .int (Int32.ofNat k)) ∧ z.natAbs < 10 ^ 18 ∧ k ≤ 6
theorem fl_K.wk {s0 u v : rf_S} (h : fl_K s0 u) (k : rf_wk u v) : fl_K s0 v := fun j hj => by
  rw [← h j hj]
  funext i
  unfold fx_j at hj
  exact k j i (by omega) (by omega) (by omega)
theorem fl_K.u {s0 v : rf_S} {j i : Nat} {x : Value} (h : fl_K s0 v) (hj : fx_j j) : fl_K s0 (rf_u v j i x) := fun j' h' => by
  rw [← h j' h']
  funext i'
  exact rf_u_ne (Or.inl (fun e => h' (by rw [e]; exact hj)))
theorem fl_pre {W0 w : List Nat} {u : rf_S} (h : W0 <+: w) (hw : rf_dw u w) : ∀ i, i < W0.length → u 47 i = .int (Int32.ofNat (W0.getD i 0)) := by
  intro i hi
  obtain ⟨r, rfl⟩ := h
  have hl : (W0 ++ r).length = W0.length + r.length := List.length_append
  have e : (W0 ++ r).getD i 0 = W0.getD i 0 := by rw [List.getD_eq_getElem?_getD, List.getD_eq_getElem?_getD, List.getElem?_append_left hi]
  rw [hw.2.2.1 i (by omega), e]
theorem wx_put {w l : List Nat} : (wx_app (some w) l = some (w ++ l) ∧ wr_put w l = .ok (w ++ l)) ∨ (wx_app (some w) l = none ∧ wr_put w l = .error 3) := by
  unfold wx_app wr_put
  by_cases h : w.length + l.length ≤ 160
  · left; dsimp only; rw [if_pos h, if_pos h]; exact ⟨rfl, rfl⟩
  · right; dsimp only; rw [if_neg h, if_neg h]; exact ⟨rfl, rfl⟩
theorem wr_bare_wx {X N : Nat} {w : List Nat} (h : rm_w 4 X N) : (∃ w', wx_app (some w) ([123] ++ (rf_ln N 4 ++ [125])) = some w' ∧ wr_bare (Int32.ofNat X) w = .ok w') ∨ (wx_app (some w) ([123] ++ (rf_ln N 4 ++ [125])) = none ∧ wr_bare (Int32.ofNat X) w = .error 3) := by
  have hl := rm_w_lt (by omega) h
  have hX : X < 2147483648 := by
    obtain ⟨l, h1, h2, h3, h4, h5⟩ := h
    rw [h4]
    exact (sb_fp_N h3 (fun c hc => by have := h1 c hc; omega)).2
  rw [rf_ln_pt h]
  unfold wr_bare
  rw [i64_of hX]
  generalize sb_pt (Int64.ofNat X) false 4 = l
  unfold wx_app wr_put
  dsimp only
  have e : ([123] ++ (l ++ [125])).length = l.length + 2 := by simp
  rw [e]
  by_cases q : w.length + (l.length + 2) ≤ 160
  · left
    refine ⟨_, if_pos q, ?_⟩
    have q1 : w.length + [123].length ≤ 160 := by
      rw [List.length_singleton]
      omega
    have q2 : (w ++ [123]).length + l.length ≤ 160 := by
      rw [List.length_append, List.length_singleton]
      omega
    have q3 : (w ++ [123] ++ l).length + [125].length ≤ 160 := by
      rw [List.length_append, List.length_append, List.length_singleton, List.length_singleton]
      omega
    rw [if_pos q1]
    dsimp only
    rw [if_pos q2]
    dsimp only
    rw [if_pos q3]
    simp
  · right
    refine ⟨if_neg q, ?_⟩
    by_cases q1 : w.length + [123].length ≤ 160
    · rw [if_pos q1]
      dsimp only
      by_cases q2 : (w ++ [123]).length + l.length ≤ 160
      · rw [if_pos q2]
        dsimp only
        have q3 : ¬ (w ++ [123] ++ l).length + [125].length ≤ 160 := by
          rw [List.length_append, List.length_append, List.length_singleton, List.length_singleton]
          omega
        rw [if_neg q3]
      · rw [if_neg q2]
    · rw [if_neg q1]
