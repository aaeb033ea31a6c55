/-! Values: numbers with their sign, and what a selector finds. -/
theorem rw_numz {d b : Nat} {s : rf_S} {X : Option (List Nat)} {A : am_H} {z : Int} {k : Nat} {g : Bool} (hd : 1 ≤ d) (hz : z.natAbs < 10 ^ 18) (hk : k ≤ 6) (hx : rf_wx s X) (h : rf A b s) : rf_wg d 177 [.ref b, .long (Int64.ofInt z), .int (Int32.ofNat k), .int (sb_i g)] A b s X (wr_dg z k g) := by
  unfold wr_dg
  by_cases q : z < 0
  · rw [if_pos q, i64_negz q, ← rf_nb_eq (by omega)]
    exact rw_numn hd (by omega) (by omega) hk hx h
  · rw [if_neg q, i64_pos q, ← rf_nb_eq (by omega)]
    exact rw_num hd (by omega) hk hx h
theorem rw_hexz {d b : Nat} {s : rf_S} {X : Option (List Nat)} {A : am_H} {z : Int} (hd : 1 ≤ d) (hz : z.natAbs < 10 ^ 18) (hx : rf_wx s X) (h : rf A b s) : rf_wg d 176 [.ref b, .long (Int64.ofInt z)] A b s X (wr_hex z) := by
  unfold wr_hex sb_sg sb_abs
  by_cases q : z < 0
  · rw [i64_negz q]
    have h1 : -Int64.ofNat z.natAbs < 0 := Int64.not_le.mp (i64_neg (by omega) (by omega))
    rw [if_pos h1, if_pos h1, Int64.neg_neg, rf_hx_eq (by omega) 15]
    exact rw_hexn hd (by omega) (by omega) hx h
  · rw [i64_pos q]
    have h1 : ¬ Int64.ofNat z.natAbs < 0 := by
      rw [show (0 : Int64) = Int64.ofNat 0 from rfl, i64_lt (by omega) (by omega)]
      omega
    rw [if_neg h1, if_neg h1, rf_hx_eq (by omega) 15]
    exact rw_hex hd (by omega) hx h
/-- a value of the class and the reference's at the place that was found -/
def rv_1 (o : Option (Nat ⊕ (Int × Nat))) (fd : Option Nat) (bf : Nat → Bool) (lf : Nat → Int64) (cf : Nat → Int32) : Prop := match fd with
  | none => o = none
  | some i => (bf i = true ∧ ∃ N, N < 2147483648 ∧ sb_all 32 126 (sb_bl (Int32.ofNat N) 4) = true ∧ lf i = Int64.ofNat N ∧ cf i = Int32.ofNat 0 ∧ o = some (.inl (sb_fpn 0 (sb_bl (Int32.ofNat N) 4)))) ∨ (bf i = false ∧ ∃ z k, z.natAbs ≤ 1000000000000000 ∧ k ≤ 6 ∧ lf i = Int64.ofInt z ∧ cf i = Int32.ofNat k ∧ o = some (.inr (z, k)))
def rv_R (vf : wr_v) (nv : Nat) (nf : Nat → Int32) (bf : Nat → Bool) (lf : Nat → Int64) (cf : Nat → Int32) : Prop := ∀ X N, rm_w 4 X N → rv_1 (vf (Int32.ofNat X)) (rf_fd nf (Int32.ofNat N) nv 0) bf lf cf
/-- every branch's selector -/
def rm_ss (s : rf_S) (M : mg) (a : Nat) : Prop := ∀ b, b < mg_B M → rm_sl (mg_s M b) (s 13 (a + b)) (s 14 (a + b))
theorem mt_word {s : rf_S} {M : mg} {a X N : Nat} (h : rm_ss s M a) (hw : rm_w 6 X N) : rm_mt s M a (fun f v => f = false ∧ v = Int64.ofNat N) (fun b => decide (mg_s M b = Int64.ofNat X)) := by
  intro b hb
  have hl := rm_w_lt (Nat.le_refl _) hw
  rcases rm_sl_eq (Nat.le_refl _) (h b hb) hw with ⟨c1, c2, y, c3⟩ | ⟨c1, N', c2, c3, c4⟩
  · exact ⟨true, y, c1, c3, ⟨fun q => (by cases q.1), fun q => absurd (of_decide_eq_true q) c2⟩⟩
  · refine ⟨false, _, c1, c2, ⟨fun q => decide_eq_true (c4.mp ?_), fun q => ⟨rfl, ?_⟩⟩⟩
    · exact (i64_eq (by omega) (by omega)).mp q.2
    · rw [c4.mpr (of_decide_eq_true q)]
theorem mt_none {s : rf_S} {M : mg} {a : Nat} (h : rm_ss s M a) : rm_mt s M a (fun f v => f = false ∧ v = -1) (fun _ => false) := by
  intro b hb
  rcases h b hb with ⟨N, h1, h2, h3, h4⟩ | ⟨X, N, h1, h2, h3, h4⟩
  · exact ⟨true, _, h3, h4, ⟨fun q => (by cases q.1), fun q => (by cases q)⟩⟩
  · have hl := rm_w_lt (Nat.le_refl _) h1
    refine ⟨false, _, h3, h4, ⟨fun q => ?_, fun q => (by cases q)⟩⟩
    exfalso
    have e := congrArg Int64.toInt q.2
    rw [Int64.toInt_ofNat_of_lt (by omega)] at e
    have : (-1 : Int64).toInt = -1 := by decide
    omega
theorem rd_ex_i {v : Nat} (h : v < 1000000000000000000) : (rd_ex v).toInt = -1 - (v : Int) := by
  unfold rd_ex
  rw [Int64.toInt_sub, Int64.toInt_ofNat_of_lt (by omega), show (-1 : Int64).toInt = -1 by decide, Int.bmod_eq_of_le (by omega) (by omega)]
theorem rd_ex_nat {v X : Nat} (h : v < 1000000000000000000) (hX : X < 9223372036854775808) : rd_ex v ≠ Int64.ofNat X := by
  intro e
  have e := congrArg Int64.toInt e
  rw [rd_ex_i h, Int64.toInt_ofNat_of_lt (by omega)] at e
  omega
theorem rd_ex_inj {v u : Nat} (h : v < 1000000000000000000) (hu : u < 1000000000000000000) (e : rd_ex v = rd_ex u) : v = u := by
  have e := congrArg Int64.toInt e
  rw [rd_ex_i h, rd_ex_i hu] at e
  omega
/-- a word as a selector -/
theorem bf_word {s : rf_S} {M : mg} {a i N : Nat} (h : rm_ss s M a) (ha : sb_all 32 126 (sb_bl (Int32.ofNat N) 4) = true) : ∃ m, rm_mt s M a (fun f v => f = false ∧ v = rf_sq 0 (sb_bl (Int32.ofNat N) 4)) m ∧ mg_bf (mg_w M) m i (mg_B M) 0 = mg_bw M i (Int64.ofNat (sb_fpn 0 (sb_bl (Int32.ofNat N) 4))) (mg_B M) 0 := by
  have h1 := sb_bl_all ha
  have h2 := (sb_fp_N (sb_bl_len (Int32.ofNat N) 4) h1).2
  have h3 := sb_bl_len (Int32.ofNat N) 4
  generalize sb_bl (Int32.ofNat N) 4 = l at *
  by_cases q : sb_all 97 122 l = true ∧ l ≠ []
  · have hb := sb_bl_all q.1
    have hl : 1 ≤ l.length := by
      rcases l with _ | ⟨c, l⟩
      · exact absurd rfl q.2
      · rw [List.length_cons]; omega
    have hw : rm_w 6 (sb_fpn 0 l) (rf_fb 0 l) := ⟨l, hb, hl, by omega, rfl, rfl⟩
    have hlt := rm_w_lt (Nat.le_refl _) hw
    have e : rf_sq 0 l = Int64.ofNat (rf_fb 0 l) := by
      unfold rf_sq
      rw [if_pos q.1, if_neg (by omega)]
    rw [e]
    exact ⟨_, mt_word h hw, mg_bf_bw (fun b _ _ => ⟨fun z => of_decide_eq_true z, fun z => decide_eq_true z⟩)⟩
  · have e : rf_sq 0 l = -1 := by
      unfold rf_sq
      by_cases z : sb_all 97 122 l = true
      · have : l = [] := by
          rcases l with _ | ⟨c, l⟩
          · rfl
          · exact absurd ⟨z, by simp⟩ q
        subst this
        rfl
      · rw [if_neg z]
    rw [e]
    refine ⟨_, mt_none h, ?_⟩
    rw [mg_bf_no (fun _ _ _ => rfl)]
    symm
    have hno : ∀ b, b < mg_B M → mg_s M b ≠ Int64.ofNat (sb_fpn 0 l) := by
      intro b hb e
      rcases h b hb with ⟨N', g1, g2, g3, g4⟩ | ⟨X, N', g1, g2, g3, g4⟩
      · rw [g2] at e
        exact rd_ex_nat (by omega) (by omega) e
      · have hl := rm_w_lt (Nat.le_refl _) g1
        rw [g2] at e
        have e := (i64_eq (by omega) (by omega)).mp e
        obtain ⟨l', f1, f2, f3, f4, f5⟩ := g1
        rw [f4] at e
        have := sb_fpn_inj (fun c hc => by have := f1 c hc; omega) (fun c hc => by have := h1 c hc; omega) e
        subst this
        apply q
        refine ⟨?_, fun z => by subst z; simp at f2⟩
        unfold sb_all
        rw [List.all_eq_true]
        intro c hc
        have := f1 c hc
        simp
        exact this
    exact (mg_bf_bw (m := fun _ => false) (fun b _ hb => ⟨fun z => (by cases z), fun z => absurd z (hno b (by omega))⟩)).symm.trans (mg_bf_no (fun _ _ _ => rfl))
theorem bf_exact {s : rf_S} {M : mg} {a i k : Nat} {z : Int} (h : rm_ss s M a) (hk : k ≤ 6) (hz : z.natAbs ≤ 1000000000000000) : ∃ m, rm_mt s M a (fun f v => f = true ∧ v * Int64.ofNat (10 ^ k) = Int64.ofInt z) m ∧ mg_bf (mg_w M) m i (mg_B M) 0 = wr_exb M i z k := by
  have hp : 10 ^ k ≤ 10 ^ 6 := Nat.pow_le_pow_right (by omega) hk
  have hp0 : 0 < 10 ^ k := Nat.pow_pos (by omega)
  have key : ∀ N, N < 10000 → (Int64.ofNat N * Int64.ofNat (10 ^ k) = Int64.ofInt z ↔ z = ((N * 10 ^ k : Nat) : Int)) := by
    intro N hN
    have hb : N * 10 ^ k < 10000 * 1000000 + 1 := by
      have := Nat.mul_le_mul (show N ≤ 10000 by omega) hp
      omega
    rw [← Int64.ofNat_mul]
    constructor
    · intro e
      have e := congrArg Int64.toInt e
      rw [Int64.toInt_ofNat_of_lt (by omega), Int64.toInt_ofInt_of_le (by omega) (by omega)] at e
      exact e.symm
    · intro e
      rw [i64_pos (show ¬ z < 0 by omega), show z.natAbs = N * 10 ^ k by omega]
  have hsel : ∀ m : Nat → Bool, (∀ b N, b < mg_B M → N < 10000 → mg_s M b = rd_ex N → (z = ((N * 10 ^ k : Nat) : Int) ↔ m b = true)) → (∀ b X, b < mg_B M → X < 9223372036854775808 → mg_s M b = Int64.ofNat X → m b = false) → rm_mt s M a (fun f v => f = true ∧ v * Int64.ofNat (10 ^ k) = Int64.ofInt z) m := by
    intro m h1 h2 b hb
    rcases h b hb with ⟨N, g1, g2, g3, g4⟩ | ⟨X, N, g1, g2, g3, g4⟩
    · refine ⟨true, _, g3, g4, ⟨fun q => (h1 b N hb g1 g2).mp ((key N g1).mp q.2), fun q => ⟨rfl, (key N g1).mpr ((h1 b N hb g1 g2).mpr q)⟩⟩⟩
    · have hl := rm_w_lt (Nat.le_refl _) g1
      refine ⟨false, _, g3, g4, ⟨fun q => (by cases q.1), fun q => ?_⟩⟩
      rw [h2 b X hb (by omega) g2] at q
      cases q
  unfold wr_exb
  by_cases q : z < 0
  · rw [if_pos q]
    exact ⟨fun _ => false, hsel _ (fun b N _ _ _ => ⟨fun e => by omega, fun e => (by cases e)⟩) (fun _ _ _ _ _ => rfl), mg_bf_no (fun _ _ _ => rfl)⟩
  · rw [if_neg q]
    by_cases y : z.natAbs % 10 ^ k = 0
    · rw [if_pos y]
      have hdl : z.natAbs / 10 ^ k ≤ z.natAbs := Nat.div_le_self _ _
      have hd : z.natAbs = z.natAbs / 10 ^ k * 10 ^ k := by
        have := Nat.div_add_mod z.natAbs (10 ^ k)
        rw [y, Nat.add_zero, Nat.mul_comm] at this
        exact this.symm
      refine ⟨fun b => decide (mg_s M b = rd_ex (z.natAbs / 10 ^ k)), hsel _ (fun b N hb hN e => ?_) (fun b X hb hX e => ?_), mg_bf_bw (fun b _ _ => ⟨fun z => of_decide_eq_true z, fun z => decide_eq_true z⟩)⟩
      · constructor
        · intro e2
          apply decide_eq_true
          rw [e]
          congr 1
          have : z.natAbs = N * 10 ^ k := by omega
          rw [this, Nat.mul_div_cancel _ hp0]
        · intro e2
          have e2 := of_decide_eq_true e2
          rw [e] at e2
          have := rd_ex_inj (by omega) (by omega) e2
          rw [this, ← hd]
          omega
      · apply decide_eq_false
        rw [e]
        exact fun e2 => rd_ex_nat (by omega) hX e2.symm
    · rw [if_neg y]
      refine ⟨fun _ => false, hsel _ (fun b N _ _ _ => ⟨fun e => ?_, fun e => (by cases e)⟩) (fun _ _ _ _ _ => rfl), mg_bf_no (fun _ _ _ => rfl)⟩
      exfalso
      apply y
      have : z.natAbs = N * 10 ^ k := by omega
      rw [this]
      exact Nat.mul_mod_left _ _
theorem bf_oth {s : rf_S} {M : mg} {a i : Nat} (h : rm_ss s M a) : ∃ m, rm_mt s M a (fun f v => f = false ∧ v = Int64.ofNat 16392370) m ∧ mg_bf (mg_w M) m i (mg_B M) 0 = mg_bw M i sb_OTH (mg_B M) 0 := ⟨_, mt_word h rm_w_oth, mg_bf_bw (se := sb_OTH) (fun b _ _ => ⟨fun z => of_decide_eq_true z, fun z => decide_eq_true z⟩)⟩
