/-! The reference's message and the class's. -/
def rm_e (b : Nat) (o : Option Nat) : Value := match o with
  | none => .int (-1)
  | some i => .int (Int32.ofNat (b + i))
/-- letters as the class has them and as the reference has them -/
def rm_w (W X N : Nat) : Prop := ∃ l : List Nat, (∀ c ∈ l, 97 ≤ c ∧ c ≤ 122) ∧ 1 ≤ l.length ∧ l.length ≤ W ∧ X = sb_fpn 0 l ∧ N = rf_fb 0 l
/-- how many of the first parts are arguments -/
def mg_ct (k : Nat → Nat) : Nat → Nat
  | 0 => 0
  | i + 1 => mg_ct k i + (if 2 ≤ k i then 1 else 0)
/-- the first of k branches from j on whose owner is i -/
def mg_bo (w : Nat → Nat) (i : Nat) : Nat → Nat → Option Nat
  | 0, _ => none
  | k + 1, j => if w j = i then some j else mg_bo w i k (j + 1)
def rm_sl (x : Int64) (c v : Value) : Prop := (∃ N, N < 10000 ∧ x = rd_ex N ∧ c = .int (sb_i true) ∧ v = .long (Int64.ofNat N)) ∨ (∃ X N, rm_w 6 X N ∧ x = Int64.ofNat X ∧ c = .int (sb_i false) ∧ v = .long (Int64.ofNat N))
def rm_pc (s : rf_S) (M : mg) (p i : Nat) : Prop := mg_k M i < 2 → s 6 (p + i) = .int (Int32.ofNat (mg_k M i)) ∧ s 7 (p + i) = .int (mg_c M i)
def rm_pa (s : rf_S) (M : mg) (p a i : Nat) : Prop := 2 ≤ mg_k M i → s 6 (p + i) = .int (Int32.ofNat 2) ∧ s 7 (p + i) = .int (Int32.ofNat (a + mg_ct (mg_k M) i)) ∧ (∃ X N, rm_w 4 X N ∧ mg_c M i = Int32.ofNat X ∧ s 9 (a + mg_ct (mg_k M) i) = .int (Int32.ofNat N)) ∧ s 10 (a + mg_ct (mg_k M) i) = .int (rf_so (mg_k M i)) ∧ s 11 (a + mg_ct (mg_k M) i) = .int (Int32.ofNat (mg_o M i)) ∧ s 12 (a + mg_ct (mg_k M) i) = rm_e a (mg_bo (mg_w M) i (mg_B M) 0)
def rm_b (s : rf_S) (M : mg) (a b : Nat) : Prop := rm_sl (mg_s M b) (s 13 (a + b)) (s 14 (a + b)) ∧ s 16 (a + b) = rm_e a (mg_bo (mg_w M) (mg_w M b) (mg_B M - (b + 1)) (b + 1))
/-- the part behind part i in its row; a row that is still open at level l has the end 1000 + l -/
def rm_nx (x E : Nat → Nat) (lp : Nat → Option Nat) (i : Nat) : Option Nat := if 1000 ≤ E i then (if lp (E i - 1000) = some i then none else some (x i)) else (if x i < E i then some (x i) else none)
theorem mg_ct_up {k : Nat → Nat} {P v : Nat} : ∀ {i}, i ≤ P → mg_ct (up_ k P v) i = mg_ct k i
  | 0, _ => rfl
  | i + 1, h => by rw [mg_ct, mg_ct, mg_ct_up (by omega), up_ne (by omega)]
theorem mg_ct_le (k : Nat → Nat) : ∀ i, mg_ct k i ≤ i
  | 0 => Nat.le_refl 0
  | i + 1 => by
    have := mg_ct_le k i
    rw [mg_ct]
    split <;> omega
theorem mg_ct_lt {k : Nat → Nat} {i : Nat} (h : 2 ≤ k i) : ∀ {j}, i < j → mg_ct k i < mg_ct k j
  | 0, h1 => by omega
  | j + 1, h1 => by
    rw [mg_ct]
    by_cases e : i = j
    · subst e
      rw [if_pos h]
      omega
    · have := mg_ct_lt h (j := j) (by omega)
      omega
theorem mg_ct_inj {k : Nat → Nat} {i j : Nat} (hi : 2 ≤ k i) (hj : 2 ≤ k j) (h : mg_ct k i = mg_ct k j) : i = j := by
  rcases (show i < j ∨ i = j ∨ j < i by omega) with q | q | q
  · have := mg_ct_lt hi q; omega
  · exact q
  · have := mg_ct_lt hj q; omega
theorem mg_bo_up {w : Nat → Nat} {B o i : Nat} : ∀ {k j}, j + k ≤ B → mg_bo (up_ w B o) i k j = mg_bo w i k j
  | 0, j, _ => rfl
  | k + 1, j, h => by rw [mg_bo, mg_bo, up_ne (by omega), mg_bo_up (by omega)]
theorem mg_bo_app (w : Nat → Nat) (i : Nat) : ∀ k j, mg_bo w i (k + 1) j = match mg_bo w i k j with
    | some b => some b
    | none => if w (j + k) = i then some (j + k) else none
  | 0, j => by rw [mg_bo, mg_bo]; rfl
  | k + 1, j => by
    rw [mg_bo, mg_bo_app w i k (j + 1), mg_bo]
    by_cases h : w j = i
    · rw [if_pos h, if_pos h]
    · rw [if_neg h, if_neg h, show j + 1 + k = j + (k + 1) by omega]
theorem mg_bo_in {w : Nat → Nat} {i b : Nat} : ∀ {k j}, mg_bo w i k j = some b → j ≤ b ∧ b < j + k ∧ w b = i ∧ ∀ c, j ≤ c → c < b → w c ≠ i
  | 0, j, h => by cases h
  | k + 1, j, h => by
    rw [mg_bo] at h
    split at h
    · next q => cases h; exact ⟨Nat.le_refl _, by omega, q, fun c _ _ => by omega⟩
    · next q =>
      obtain ⟨h1, h2, h3, h4⟩ := mg_bo_in h
      refine ⟨by omega, by omega, h3, fun c h5 h6 => ?_⟩
      by_cases e : c = j
      · subst e; exact q
      · exact h4 c (by omega) h6
theorem mg_bo_no {w : Nat → Nat} {i : Nat} : ∀ {k j}, mg_bo w i k j = none → ∀ c, j ≤ c → c < j + k → w c ≠ i
  | 0, j, _, c, h1, h2 => by omega
  | k + 1, j, h, c, h1, h2 => by
    rw [mg_bo] at h
    split at h
    · cases h
    · next q =>
      by_cases e : c = j
      · subst e; exact q
      · exact mg_bo_no h c (by omega) (by omega)
/-- the reference's readers at work: level, row ends, depths, last parts, open branches; op: an argument is open at the level -/
def rm_I (s : rf_S) (M : mg) (L : Nat) (E dp : Nat → Nat) (lp : Nat → Option Nat) (ob : Nat → Nat) (op : Bool) : Prop := (L ≤ 3) ∧ (mg_P M ≤ 120) ∧ (mg_B M ≤ 40) ∧ (s 19 0 = .int (Int32.ofNat (mg_P M))) ∧ (s 20 0 = .int (Int32.ofNat (mg_ct (mg_k M) (mg_P M)))) ∧ (s 21 0 = .int (Int32.ofNat (mg_B M))) ∧ (s 22 0 = .int (Int32.ofNat L)) ∧ (∀ l, l ≤ L → s 23 l = rm_e 256 (lp l)) ∧ (∀ l, 1 ≤ l → l ≤ L → s 24 l = .int (Int32.ofNat (128 + mg_ct (mg_k M) (mg_w M (ob l)))) ∧ s 25 l = .int (Int32.ofNat (128 + ob l)) ∧ s 26 l = .int (sb_i (decide (mg_k M (mg_w M (ob l)) ≠ 6)))) ∧ (s 26 0 = .int (sb_i false)) ∧ (∀ i, i < mg_P M → rm_pc s M 256 i) ∧ (∀ i, i < mg_P M → rm_pa s M 256 128 i) ∧ (∀ i, i < mg_P M → mg_k M i ≤ 8 ∧ dp i ≤ 3) ∧ (∀ b, b < mg_B M → rm_b s M 128 b ∧ mg_w M b < mg_P M ∧ 6 ≤ mg_k M (mg_w M b) ∧ dp (mg_w M b) < 3) ∧ (∀ i, i < mg_P M → s 8 (256 + i) = rm_e 256 (rm_nx (mg_x M) E lp i)) ∧ (∀ i, i < mg_P M → (1000 ≤ E i → E i ≤ 1000 + L) ∧ (E i < 1000 → E i ≤ mg_P M)) ∧ (∀ l, l ≤ L → ∀ i, lp l = some i → i < mg_P M ∧ E i = 1000 + l ∧ dp i = l) ∧ (∀ i, i < mg_P M → ∀ j, rm_nx (mg_x M) E lp i = some j → i < j ∧ j < mg_P M ∧ E j = E i ∧ dp j = dp i) ∧ (∀ b, b < mg_B M → (∀ l, 1 ≤ l → l ≤ L → ob l ≠ b) → mg_a M b ≤ mg_e M b ∧ mg_e M b ≤ mg_P M ∧ s 15 (128 + b) = rm_e 256 (if mg_a M b < mg_e M b then some (mg_a M b) else none) ∧ (mg_a M b < mg_e M b → E (mg_a M b) = mg_e M b ∧ dp (mg_a M b) = dp (mg_w M b) + 1)) ∧ (∀ l, 1 ≤ l → l ≤ L → ob l < mg_B M ∧ s 15 (128 + ob l) = rm_e 256 (if lp l = none then none else some (mg_a M (ob l))) ∧ (lp l ≠ none → mg_a M (ob l) < mg_P M ∧ E (mg_a M (ob l)) = 1000 + l ∧ dp (mg_a M (ob l)) = l) ∧ (lp l = none → mg_a M (ob l) = mg_P M) ∧ lp (l - 1) = some (mg_w M (ob l))) ∧ (s 5 2 = rm_e 256 (if lp 0 = none then none else some 0) ∧ (lp 0 ≠ none → 0 < mg_P M ∧ E 0 = 1000 ∧ dp 0 = 0) ∧ (lp 0 = none → mg_P M = 0)) ∧ (∀ l m, 1 ≤ l → l < m → m ≤ L → ob l < ob m) ∧ (∀ i, i < mg_P M → 6 ≤ mg_k M i → (∃ l, l < L + (if op = true then 1 else 0) ∧ lp l = some i) ∨ mg_bw M i sb_OTH (mg_B M) 0 ≠ none)
theorem rm_I.L3 {s : rf_S} {M : mg} {L : Nat} {E dp : Nat → Nat} {lp : Nat → Option Nat} {ob : Nat → Nat} {op : Bool} (h : rm_I s M L E dp lp ob op) : L ≤ 3 := h.1
theorem rm_I.P1 {s : rf_S} {M : mg} {L : Nat} {E dp : Nat → Nat} {lp : Nat → Option Nat} {ob : Nat → Nat} {op : Bool} (h : rm_I s M L E dp lp ob op) : mg_P M ≤ 120 := h.2.1
theorem rm_I.B1 {s : rf_S} {M : mg} {L : Nat} {E dp : Nat → Nat} {lp : Nat → Option Nat} {ob : Nat → Nat} {op : Bool} (h : rm_I s M L E dp lp ob op) : mg_B M ≤ 40 := h.2.2.1
theorem rm_I.s19 {s : rf_S} {M : mg} {L : Nat} {E dp : Nat → Nat} {lp : Nat → Option Nat} {ob : Nat → Nat} {op : Bool} (h : rm_I s M L E dp lp ob op) : s 19 0 = .int (Int32.ofNat (mg_P M)) := h.2.2.2.1
theorem rm_I.s20 {s : rf_S} {M : mg} {L : Nat} {E dp : Nat → Nat} {lp : Nat → Option Nat} {ob : Nat → Nat} {op : Bool} (h : rm_I s M L E dp lp ob op) : s 20 0 = .int (Int32.ofNat (mg_ct (mg_k M) (mg_P M))) := h.2.2.2.2.1
theorem rm_I.s21 {s : rf_S} {M : mg} {L : Nat} {E dp : Nat → Nat} {lp : Nat → Option Nat} {ob : Nat → Nat} {op : Bool} (h : rm_I s M L E dp lp ob op) : s 21 0 = .int (Int32.ofNat (mg_B M)) := h.2.2.2.2.2.1
theorem rm_I.s22 {s : rf_S} {M : mg} {L : Nat} {E dp : Nat → Nat} {lp : Nat → Option Nat} {ob : Nat → Nat} {op : Bool} (h : rm_I s M L E dp lp ob op) : s 22 0 = .int (Int32.ofNat L) := h.2.2.2.2.2.2.1
theorem rm_I.s23 {s : rf_S} {M : mg} {L : Nat} {E dp : Nat → Nat} {lp : Nat → Option Nat} {ob : Nat → Nat} {op : Bool} (h : rm_I s M L E dp lp ob op) : ∀ l, l ≤ L → s 23 l = rm_e 256 (lp l) := h.2.2.2.2.2.2.2.1
theorem rm_I.s24 {s : rf_S} {M : mg} {L : Nat} {E dp : Nat → Nat} {lp : Nat → Option Nat} {ob : Nat → Nat} {op : Bool} (h : rm_I s M L E dp lp ob op) : ∀ l, 1 ≤ l → l ≤ L → s 24 l = .int (Int32.ofNat (128 + mg_ct (mg_k M) (mg_w M (ob l)))) ∧ s 25 l = .int (Int32.ofNat (128 + ob l)) ∧ s 26 l = .int (sb_i (decide (mg_k M (mg_w M (ob l)) ≠ 6))) := h.2.2.2.2.2.2.2.2.1
theorem rm_I.s26 {s : rf_S} {M : mg} {L : Nat} {E dp : Nat → Nat} {lp : Nat → Option Nat} {ob : Nat → Nat} {op : Bool} (h : rm_I s M L E dp lp ob op) : s 26 0 = .int (sb_i false) := h.2.2.2.2.2.2.2.2.2.1
theorem rm_I.pc {s : rf_S} {M : mg} {L : Nat} {E dp : Nat → Nat} {lp : Nat → Option Nat} {ob : Nat → Nat} {op : Bool} (h : rm_I s M L E dp lp ob op) : ∀ i, i < mg_P M → rm_pc s M 256 i := h.2.2.2.2.2.2.2.2.2.2.1
theorem rm_I.pa {s : rf_S} {M : mg} {L : Nat} {E dp : Nat → Nat} {lp : Nat → Option Nat} {ob : Nat → Nat} {op : Bool} (h : rm_I s M L E dp lp ob op) : ∀ i, i < mg_P M → rm_pa s M 256 128 i := h.2.2.2.2.2.2.2.2.2.2.2.1
theorem rm_I.k8 {s : rf_S} {M : mg} {L : Nat} {E dp : Nat → Nat} {lp : Nat → Option Nat} {ob : Nat → Nat} {op : Bool} (h : rm_I s M L E dp lp ob op) : ∀ i, i < mg_P M → mg_k M i ≤ 8 ∧ dp i ≤ 3 := h.2.2.2.2.2.2.2.2.2.2.2.2.1
theorem rm_I.bt {s : rf_S} {M : mg} {L : Nat} {E dp : Nat → Nat} {lp : Nat → Option Nat} {ob : Nat → Nat} {op : Bool} (h : rm_I s M L E dp lp ob op) : ∀ b, b < mg_B M → rm_b s M 128 b ∧ mg_w M b < mg_P M ∧ 6 ≤ mg_k M (mg_w M b) ∧ dp (mg_w M b) < 3 := h.2.2.2.2.2.2.2.2.2.2.2.2.2.1
theorem rm_I.nx {s : rf_S} {M : mg} {L : Nat} {E dp : Nat → Nat} {lp : Nat → Option Nat} {ob : Nat → Nat} {op : Bool} (h : rm_I s M L E dp lp ob op) : ∀ i, i < mg_P M → s 8 (256 + i) = rm_e 256 (rm_nx (mg_x M) E lp i) := h.2.2.2.2.2.2.2.2.2.2.2.2.2.2.1
theorem rm_I.C1 {s : rf_S} {M : mg} {L : Nat} {E dp : Nat → Nat} {lp : Nat → Option Nat} {ob : Nat → Nat} {op : Bool} (h : rm_I s M L E dp lp ob op) : ∀ i, i < mg_P M → (1000 ≤ E i → E i ≤ 1000 + L) ∧ (E i < 1000 → E i ≤ mg_P M) := h.2.2.2.2.2.2.2.2.2.2.2.2.2.2.2.1
theorem rm_I.C2 {s : rf_S} {M : mg} {L : Nat} {E dp : Nat → Nat} {lp : Nat → Option Nat} {ob : Nat → Nat} {op : Bool} (h : rm_I s M L E dp lp ob op) : ∀ l, l ≤ L → ∀ i, lp l = some i → i < mg_P M ∧ E i = 1000 + l ∧ dp i = l := h.2.2.2.2.2.2.2.2.2.2.2.2.2.2.2.2.1
theorem rm_I.C4 {s : rf_S} {M : mg} {L : Nat} {E dp : Nat → Nat} {lp : Nat → Option Nat} {ob : Nat → Nat} {op : Bool} (h : rm_I s M L E dp lp ob op) : ∀ i, i < mg_P M → ∀ j, rm_nx (mg_x M) E lp i = some j → i < j ∧ j < mg_P M ∧ E j = E i ∧ dp j = dp i := h.2.2.2.2.2.2.2.2.2.2.2.2.2.2.2.2.2.1
theorem rm_I.C5 {s : rf_S} {M : mg} {L : Nat} {E dp : Nat → Nat} {lp : Nat → Option Nat} {ob : Nat → Nat} {op : Bool} (h : rm_I s M L E dp lp ob op) : ∀ b, b < mg_B M → (∀ l, 1 ≤ l → l ≤ L → ob l ≠ b) → mg_a M b ≤ mg_e M b ∧ mg_e M b ≤ mg_P M ∧ s 15 (128 + b) = rm_e 256 (if mg_a M b < mg_e M b then some (mg_a M b) else none) ∧ (mg_a M b < mg_e M b → E (mg_a M b) = mg_e M b ∧ dp (mg_a M b) = dp (mg_w M b) + 1) := h.2.2.2.2.2.2.2.2.2.2.2.2.2.2.2.2.2.2.1
theorem rm_I.C6 {s : rf_S} {M : mg} {L : Nat} {E dp : Nat → Nat} {lp : Nat → Option Nat} {ob : Nat → Nat} {op : Bool} (h : rm_I s M L E dp lp ob op) : ∀ l, 1 ≤ l → l ≤ L → ob l < mg_B M ∧ s 15 (128 + ob l) = rm_e 256 (if lp l = none then none else some (mg_a M (ob l))) ∧ (lp l ≠ none → mg_a M (ob l) < mg_P M ∧ E (mg_a M (ob l)) = 1000 + l ∧ dp (mg_a M (ob l)) = l) ∧ (lp l = none → mg_a M (ob l) = mg_P M) ∧ lp (l - 1) = some (mg_w M (ob l)) := h.2.2.2.2.2.2.2.2.2.2.2.2.2.2.2.2.2.2.2.1
theorem rm_I.C7 {s : rf_S} {M : mg} {L : Nat} {E dp : Nat → Nat} {lp : Nat → Option Nat} {ob : Nat → Nat} {op : Bool} (h : rm_I s M L E dp lp ob op) : s 5 2 = rm_e 256 (if lp 0 = none then none else some 0) ∧ (lp 0 ≠ none → 0 < mg_P M ∧ E 0 = 1000 ∧ dp 0 = 0) ∧ (lp 0 = none → mg_P M = 0) := h.2.2.2.2.2.2.2.2.2.2.2.2.2.2.2.2.2.2.2.2.1
theorem rm_I.C8 {s : rf_S} {M : mg} {L : Nat} {E dp : Nat → Nat} {lp : Nat → Option Nat} {ob : Nat → Nat} {op : Bool} (h : rm_I s M L E dp lp ob op) : ∀ l m, 1 ≤ l → l < m → m ≤ L → ob l < ob m := h.2.2.2.2.2.2.2.2.2.2.2.2.2.2.2.2.2.2.2.2.2.1
theorem rm_I.C10 {s : rf_S} {M : mg} {L : Nat} {E dp : Nat → Nat} {lp : Nat → Option Nat} {ob : Nat → Nat} {op : Bool} (h : rm_I s M L E dp lp ob op) : ∀ i, i < mg_P M → 6 ≤ mg_k M i → (∃ l, l < L + (if op = true then 1 else 0) ∧ lp l = some i) ∨ mg_bw M i sb_OTH (mg_B M) 0 ≠ none := h.2.2.2.2.2.2.2.2.2.2.2.2.2.2.2.2.2.2.2.2.2.2
theorem rm_I.of {s : rf_S} {M : mg} {L : Nat} {E dp : Nat → Nat} {lp : Nat → Option Nat} {ob : Nat → Nat} {op : Bool} (h : (L ≤ 3) ∧ (mg_P M ≤ 120) ∧ (mg_B M ≤ 40) ∧ (s 19 0 = .int (Int32.ofNat (mg_P M))) ∧ (s 20 0 = .int (Int32.ofNat (mg_ct (mg_k M) (mg_P M)))) ∧ (s 21 0 = .int (Int32.ofNat (mg_B M))) ∧ (s 22 0 = .int (Int32.ofNat L)) ∧ (∀ l, l ≤ L → s 23 l = rm_e 256 (lp l)) ∧ (∀ l, 1 ≤ l → l ≤ L → s 24 l = .int (Int32.ofNat (128 + mg_ct (mg_k M) (mg_w M (ob l)))) ∧ s 25 l = .int (Int32.ofNat (128 + ob l)) ∧ s 26 l = .int (sb_i (decide (mg_k M (mg_w M (ob l)) ≠ 6)))) ∧ (s 26 0 = .int (sb_i false)) ∧ (∀ i, i < mg_P M → rm_pc s M 256 i) ∧ (∀ i, i < mg_P M → rm_pa s M 256 128 i) ∧ (∀ i, i < mg_P M → mg_k M i ≤ 8 ∧ dp i ≤ 3) ∧ (∀ b, b < mg_B M → rm_b s M 128 b ∧ mg_w M b < mg_P M ∧ 6 ≤ mg_k M (mg_w M b) ∧ dp (mg_w M b) < 3) ∧ (∀ i, i < mg_P M → s 8 (256 + i) = rm_e 256 (rm_nx (mg_x M) E lp i)) ∧ (∀ i, i < mg_P M → (1000 ≤ E i → E i ≤ 1000 + L) ∧ (E i < 1000 → E i ≤ mg_P M)) ∧ (∀ l, l ≤ L → ∀ i, lp l = some i → i < mg_P M ∧ E i = 1000 + l ∧ dp i = l) ∧ (∀ i, i < mg_P M → ∀ j, rm_nx (mg_x M) E lp i = some j → i < j ∧ j < mg_P M ∧ E j = E i ∧ dp j = dp i) ∧ (∀ b, b < mg_B M → (∀ l, 1 ≤ l → l ≤ L → ob l ≠ b) → mg_a M b ≤ mg_e M b ∧ mg_e M b ≤ mg_P M ∧ s 15 (128 + b) = rm_e 256 (if mg_a M b < mg_e M b then some (mg_a M b) else none) ∧ (mg_a M b < mg_e M b → E (mg_a M b) = mg_e M b ∧ dp (mg_a M b) = dp (mg_w M b) + 1)) ∧ (∀ l, 1 ≤ l → l ≤ L → ob l < mg_B M ∧ s 15 (128 + ob l) = rm_e 256 (if lp l = none then none else some (mg_a M (ob l))) ∧ (lp l ≠ none → mg_a M (ob l) < mg_P M ∧ E (mg_a M (ob l)) = 1000 + l ∧ dp (mg_a M (ob l)) = l) ∧ (lp l = none → mg_a M (ob l) = mg_P M) ∧ lp (l - 1) = some (mg_w M (ob l))) ∧ (s 5 2 = rm_e 256 (if lp 0 = none then none else some 0) ∧ (lp 0 ≠ none → 0 < mg_P M ∧ E 0 = 1000 ∧ dp 0 = 0) ∧ (lp 0 = none → mg_P M = 0)) ∧ (∀ l m, 1 ≤ l → l < m → m ≤ L → ob l < ob m) ∧ (∀ i, i < mg_P M → 6 ≤ mg_k M i → (∃ l, l < L + (if op = true then 1 else 0) ∧ lp l = some i) ∨ mg_bw M i sb_OTH (mg_B M) 0 ≠ none)) : rm_I s M L E dp lp ob op := h
/-- ready for the next part -/
def rm_rd (M : mg) (L : Nat) (lp : Nat → Option Nat) : Prop := ∀ i, lp L = some i → mg_x M i = mg_P M
def rm_hk (o : Option Nat) (L ob j i : Nat) : Prop := match o with
  | some i' => j = 8 ∧ i = 256 + i'
  | none => (L = 0 ∧ j = 5 ∧ i = 2) ∨ (0 < L ∧ j = 15 ∧ i = 128 + ob)
theorem mg_bw_add (M : mg) (k : Nat) (x : Int32) (o : Nat) (se : Int64) : ∀ q j, mg_bw (mg_add M k x) o se q j = mg_bw M o se q j
  | 0, j => rfl
  | q + 1, j => by rw [mg_bw, mg_bw, mg_bw_add M k x o se q (j + 1)]; rfl
theorem mg_bw_congr {M M' : mg} (hw : mg_w M' = mg_w M) (hs : mg_s M' = mg_s M) (o : Nat) (se : Int64) : ∀ q j, mg_bw M' o se q j = mg_bw M o se q j
  | 0, j => rfl
  | q + 1, j => by rw [mg_bw, mg_bw, mg_bw_congr hw hs o se q (j + 1), hw, hs]
theorem mg_bw_ex {M : mg} {o : Nat} {se : Int64} : ∀ {k j b}, j ≤ b → b < j + k → mg_w M b = o → mg_s M b = se → mg_bw M o se k j ≠ none
  | 0, j, b, h1, h2, _, _ => by omega
  | k + 1, j, b, h1, h2, h3, h4 => by
    rw [mg_bw]
    split
    · simp
    · next q =>
      by_cases e : b = j
      · subst e; exact absurd ⟨h3, h4⟩ q
      · exact mg_bw_ex (b := b) (by omega) (by omega) h3 h4
theorem mg_bw_in {M : mg} {o b : Nat} {se : Int64} : ∀ {k j}, mg_bw M o se k j = some b → j ≤ b ∧ b < j + k ∧ mg_w M b = o ∧ mg_s M b = se ∧ ∀ c, j ≤ c → c < b → ¬ (mg_w M c = o ∧ mg_s M c = se)
  | 0, j, h => by cases h
  | k + 1, j, h => by
    rw [mg_bw] at h
    split at h
    · next q => cases h; exact ⟨Nat.le_refl _, by omega, q.1, q.2, fun c _ _ => by omega⟩
    · next q =>
      obtain ⟨h1, h2, h3, h4, h5⟩ := mg_bw_in h
      refine ⟨by omega, by omega, h3, h4, fun c h6 h7 => ?_⟩
      by_cases e : c = j
      · subst e; exact q
      · exact h5 c (by omega) h7
/-- the last branch before k whose owner is i -/
def mg_bl (w : Nat → Nat) (i : Nat) : Nat → Option Nat
  | 0 => none
  | k + 1 => if w k = i then some k else mg_bl w i k
theorem mg_bl_in {w : Nat → Nat} {i b : Nat} : ∀ {k}, mg_bl w i k = some b → b < k ∧ w b = i ∧ ∀ c, b < c → c < k → w c ≠ i
  | 0, h => by cases h
  | k + 1, h => by
    rw [mg_bl] at h
    split at h
    · next q => cases h; exact ⟨by omega, q, fun c _ _ => by omega⟩
    · next q =>
      obtain ⟨h1, h2, h3⟩ := mg_bl_in h
      refine ⟨by omega, h2, fun c h4 h5 => ?_⟩
      by_cases e : c = k
      · subst e; exact q
      · exact h3 c h4 (by omega)
theorem mg_bl_no {w : Nat → Nat} {i : Nat} : ∀ {k}, mg_bl w i k = none → ∀ c, c < k → w c ≠ i
  | 0, _, c, h => by omega
  | k + 1, h, c, h1 => by
    rw [mg_bl] at h
    split at h
    · cases h
    · next q =>
      by_cases e : c = k
      · subst e; exact q
      · exact mg_bl_no h c (by omega)
theorem mg_bo_ex {w : Nat → Nat} {i b : Nat} : ∀ {k j}, j ≤ b → b < j + k → w b = i → mg_bo w i k j ≠ none
  | 0, j, h1, h2, _ => by omega
  | k + 1, j, h1, h2, h3 => by
    rw [mg_bo]
    split
    · simp
    · next q =>
      by_cases e : b = j
      · subst e; exact absurd h3 q
      · exact mg_bo_ex (b := b) (by omega) (by omega) h3
theorem mg_bo_none {w : Nat → Nat} {i : Nat} : ∀ {k j}, (∀ c, j ≤ c → c < j + k → w c ≠ i) → mg_bo w i k j = none
  | 0, j, _ => rfl
  | k + 1, j, h => by
    rw [mg_bo, if_neg (h j (by omega) (by omega)), mg_bo_none (fun c h1 h2 => h c (by omega) (by omega))]
/-- where a new branch of i is hooked -/
def rm_lk (o : Option Nat) (ci j q : Nat) : Prop := match o with
  | none => j = 12 ∧ q = 128 + ci
  | some b => j = 16 ∧ q = 128 + b
