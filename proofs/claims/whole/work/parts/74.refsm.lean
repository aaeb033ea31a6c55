/-! The reference: its smaller methods. -/
theorem rn_thr {d b : Nat} {s : rf_S} {A : am_H} {c : Int32} (hc : s 0 0 = .int c) (h : rf A b s) : am_go d 117 [.ref b] A (.inl (some (.int c)), A) := by
  refine wp_go ?_
  refine wp_st 1 (f' := (1, [some (.ref (b))], [.ref (b)], A)) rfl ?_
  refine rw_gf (v := .int (c)) h rfl rfl rfl rfl (hc) rfl ?_
  refine wp_rt rfl rfl rfl ?_
  rfl
theorem rn_wipe {d b : Nat} {s : rf_S} {A : am_H} (h : rf A b s) : rf_go d 119 [.ref b] A b none (rf_u (rf_u s 0 0 (.int (Int32.ofNat 0))) 3 0 (.int (Int32.ofNat 0))) := by
  refine rf_of ?_
  refine wp_st 2 (f' := (2, [some (.ref (b))], [.int (Int32.ofNat 0), .ref (b)], A)) rfl ?_
  refine rw_pf (v := .int (Int32.ofNat 0)) h rfl rfl rfl rfl rfl rfl (fun A1 h2 f3 => ?_)
  have f4 := (sb_fr.refl A b (b + 38)).trans f3
  refine wp_st 2 (f' := (7, [some (.ref (b))], [.int (Int32.ofNat 0), .ref (b)], A1)) rfl ?_
  refine rw_pf (v := .int (Int32.ofNat 0)) h2 rfl rfl rfl rfl rfl rfl (fun A5 h6 f7 => ?_)
  have f8 := f4.trans f7
  refine wp_rt rfl rfl rfl ?_
  exact ⟨rfl, h6, f8⟩
theorem rn_len {d b : Nat} {s : rf_S} {A : am_H} {n : Nat} (hn : s 3 0 = .int (Int32.ofNat n)) (h : rf A b s) : rf_go d 120 [.ref b] A b (some (.int (Int32.ofNat n))) (rf_u s 0 0 (.int (Int32.ofNat 0))) := by
  refine rf_of ?_
  refine wp_st 2 (f' := (2, [some (.ref (b))], [.int (Int32.ofNat 0), .ref (b)], A)) rfl ?_
  refine rw_pf (v := .int (Int32.ofNat 0)) h rfl rfl rfl rfl rfl rfl (fun A1 h2 f3 => ?_)
  have f4 := (sb_fr.refl A b (b + 38)).trans f3
  refine wp_st 1 (f' := (6, [some (.ref (b))], [.ref (b)], A1)) rfl ?_
  refine rw_gf (v := .int (Int32.ofNat n)) h2 rfl rfl rfl rfl (hn) rfl ?_
  refine wp_rt rfl rfl rfl ?_
  exact ⟨rfl, h2, f4⟩
theorem rn_fault {d b : Nat} {s : rf_S} {A : am_H} {f : Int32} (hf : s 1 0 = .int f) (h : rf A b s) : rf_go d 155 [.ref b] A b (some (.int f)) (rf_u s 0 0 (.int (Int32.ofNat 0))) := by
  refine rf_of ?_
  refine wp_st 2 (f' := (2, [some (.ref (b))], [.int (Int32.ofNat 0), .ref (b)], A)) rfl ?_
  refine rw_pf (v := .int (Int32.ofNat 0)) h rfl rfl rfl rfl rfl rfl (fun A1 h2 f3 => ?_)
  have f4 := (sb_fr.refl A b (b + 38)).trans f3
  refine wp_st 1 (f' := (6, [some (.ref (b))], [.ref (b)], A1)) rfl ?_
  refine rw_gf (v := .int (f)) h2 rfl rfl rfl rfl (hf) rfl ?_
  refine wp_rt rfl rfl rfl ?_
  exact ⟨rfl, h2, f4⟩
theorem rn_size {d b : Nat} {s : rf_S} {A : am_H} {l : Nat} (hl : s 50 0 = .int (Int32.ofNat l)) (h : rf A b s) : rf_go d 179 [.ref b] A b (some (.int (Int32.ofNat l))) (rf_u s 0 0 (.int (Int32.ofNat 0))) := by
  refine rf_of ?_
  refine wp_st 2 (f' := (2, [some (.ref (b))], [.int (Int32.ofNat 0), .ref (b)], A)) rfl ?_
  refine rw_pf (v := .int (Int32.ofNat 0)) h rfl rfl rfl rfl rfl rfl (fun A1 h2 f3 => ?_)
  have f4 := (sb_fr.refl A b (b + 38)).trans f3
  refine wp_st 1 (f' := (6, [some (.ref (b))], [.ref (b)], A1)) rfl ?_
  refine rw_gf (v := .int (Int32.ofNat l)) h2 rfl rfl rfl rfl (hl) rfl ?_
  refine wp_rt rfl rfl rfl ?_
  exact ⟨rfl, h2, f4⟩
theorem rn_out {d b : Nat} {s : rf_S} {A : am_H} {k : Nat} {w : List Nat} (hk : k < 2147483648) (hl : s 50 0 = .int (Int32.ofNat w.length)) (hwl : w.length ≤ 160) (hr : ∀ i, i < w.length → s 49 i = .int (Int32.ofNat (w.getD i 0))) (h : rf A b s) : rf_go d 180 [.ref b, .int (Int32.ofNat k)] A b (some (.int (if k < w.length then Int32.ofNat (w.getD k 0) else -1))) (rf_u s 0 0 (.int (Int32.ofNat 0))) := by
  refine rf_of ?_
  refine wp_st 2 (f' := (2, [some (.ref (b)), some (.int (Int32.ofNat k))], [.int (Int32.ofNat 0), .ref (b)], A)) rfl ?_
  refine rw_pf (v := .int (Int32.ofNat 0)) h rfl rfl rfl rfl rfl rfl (fun A1 h2 f3 => ?_)
  have f4 := (sb_fr.refl A b (b + 38)).trans f3
  refine wp_st 1 (f' := (6, [some (.ref (b)), some (.int (Int32.ofNat k))], [.int (Int32.ofNat k)], A1)) rfl ?_
  refine wp_izF rfl rfl (Int32.ofNat_not_neg (by omega)) ?_
  refine wp_st 2 (f' := (11, [some (.ref (b)), some (.int (Int32.ofNat k))], [.ref (b), .int (Int32.ofNat k)], A1)) rfl ?_
  refine rw_gf (v := .int (Int32.ofNat (w.length))) h2 rfl rfl rfl rfl (hl) rfl ?_
  refine wp_if rfl rfl rfl (fun (h5 : (Int32.ofNat k) < (Int32.ofNat (w.length))) => ?_) (fun (h5 : ¬ ((Int32.ofNat k) < (Int32.ofNat (w.length)))) => ?_)
  · skip
    rw [i32_lt (by omega) (by omega)] at h5
    refine wp_st 1 (f' := (22, [some (.ref (b)), some (.int (Int32.ofNat k))], [.ref (b)], A1)) rfl ?_
    refine rw_gr h2 rfl rfl rfl rfl rfl rfl ?_
    refine wp_st 1 (f' := (26, [some (.ref (b)), some (.int (Int32.ofNat k))], [.int (Int32.ofNat k), .ref (b + 34)], A1)) rfl ?_
    refine rw_al (j := 49) (n := k) (v := .int (Int32.ofNat (w.getD k 0))) h2 rfl rfl rfl (Or.inl ⟨rfl, rfl⟩) rfl (show _ < 160 from by omega) (hr k (by omega)) rfl ?_
    refine wp_rt rfl rfl rfl ?_
    rw [if_pos (by omega)]
    exact ⟨rfl, h2, f4⟩
  · skip
    rw [i32_lt (by omega) (by omega)] at h5
    refine wp_st 2 (f' := (27, [some (.ref (b)), some (.int (Int32.ofNat k))], [.int ((-1))], A1)) rfl ?_
    refine wp_rt rfl rfl rfl ?_
    rw [if_neg (by omega)]
    exact ⟨rfl, h2, f4⟩
theorem rn_outn {d b : Nat} {s : rf_S} {A : am_H} {x : Int32} (hx : x < 0) (h : rf A b s) : rf_go d 180 [.ref b, .int x] A b (some (.int (-1))) (rf_u s 0 0 (.int (Int32.ofNat 0))) := by
  refine rf_of ?_
  refine wp_st 2 (f' := (2, [some (.ref (b)), some (.int (x))], [.int (Int32.ofNat 0), .ref (b)], A)) rfl ?_
  refine rw_pf (v := .int (Int32.ofNat 0)) h rfl rfl rfl rfl rfl rfl (fun A1 h2 f3 => ?_)
  have f4 := (sb_fr.refl A b (b + 38)).trans f3
  refine wp_st 1 (f' := (6, [some (.ref (b)), some (.int (x))], [.int (x)], A1)) rfl ?_
  refine wp_izT rfl rfl (hx) ?_
  refine wp_st 2 (f' := (27, [some (.ref (b)), some (.int (x))], [.int ((-1))], A1)) rfl ?_
  refine wp_rt rfl rfl rfl ?_
  exact ⟨rfl, h2, f4⟩
theorem rn_ten_l {d k : Nat} {A : am_H} (hk : k ≤ 18) : ∀ (q j : Nat), k - j = q → j ≤ k → am_wp d 160 (4, [some (.int (Int32.ofNat k)), some (.long (Int64.ofNat (10 ^ j))), none, some (.int (Int32.ofNat j))], [], A) (fun z => z = (.inl (some (.long (Int64.ofNat (10 ^ k)))), A)) := by
  intro q
  induction q with
  | zero =>
    intro j h1 h2
    obtain rfl : j = k := by omega
    refine wp_st 2 (f' := (6, [some (.int (Int32.ofNat j)), some (.long (Int64.ofNat (10 ^ j))), none, some (.int (Int32.ofNat j))], [.int (Int32.ofNat j), .int (Int32.ofNat j)], A)) rfl ?_
    refine wp_ifT rfl rfl ((i32_le (a := j) (b := j) (by omega) (by omega)).mpr (by omega)) ?_
    refine wp_st 1 (f' := (22, [some (.int (Int32.ofNat j)), some (.long (Int64.ofNat (10 ^ j))), none, some (.int (Int32.ofNat j))], [.long (Int64.ofNat (10 ^ j))], A)) rfl ?_
    refine wp_rt rfl rfl rfl ?_
    rfl
  | succ q ih =>
    intro j h1 h2
    refine wp_st 2 (f' := (6, [some (.int (Int32.ofNat k)), some (.long (Int64.ofNat (10 ^ j))), none, some (.int (Int32.ofNat j))], [.int (Int32.ofNat k), .int (Int32.ofNat j)], A)) rfl ?_
    refine wp_ifF rfl rfl (fun q => absurd ((i32_le (a := k) (b := j) (by omega) (by omega)).mp q) (by omega)) ?_
    refine wp_st 3 (f' := (14, [some (.int (Int32.ofNat k)), some (.long (Int64.ofNat (10 ^ j))), none, some (.int (Int32.ofNat j))], [.long ((Int64.ofNat (10 ^ j)) * (10))], A)) rfl ?_
    rw [show Int64.ofNat (10 ^ j) * (10) = Int64.ofNat (10 ^ (j + 1)) from by rw [Nat.pow_succ, Int64.ofNat_mul]; rfl]
    refine wp_st 2 (f' := (18, [some (.int (Int32.ofNat k)), some (.long (Int64.ofNat (10 ^ (j + 1)))), none, some (.int ((Int32.ofNat j) + (Int32.ofNat 1)))], [], A)) rfl ?_
    rw [i32_add (j) (1)]
    refine wp_st 1 (f' := (4, [some (.int (Int32.ofNat k)), some (.long (Int64.ofNat (10 ^ (j + 1)))), none, some (.int (Int32.ofNat (j + 1)))], [], A)) rfl ?_
    exact ih (j + 1) (by omega) (by omega)
theorem rn_ten {d k : Nat} {A : am_H} (hk : k ≤ 18) : am_go d 160 [.int (Int32.ofNat k)] A (.inl (some (.long (Int64.ofNat (10 ^ k)))), A) := by
  refine wp_go ?_
  refine wp_st 4 (f' := (4, [some (.int (Int32.ofNat k)), some (.long (Int64.ofNat 1)), none, some (.int (Int32.ofNat 0))], [], A)) rfl ?_
  exact rn_ten_l hk k 0 rfl (by omega)
theorem rn_isn {d : Nat} {y : Int64} {c : Int32} {A : am_H} : am_go d 157 [.long y, .int c] A (.inl (some (.int (sb_i (sb_isn y c)))), A) := by
  refine wp_go ?_
  refine wp_st 1 (f' := (1, [some (.long (y)), none, some (.int (c))], [.int (c)], A)) rfl ?_
  refine wp_iz rfl rfl rfl (fun (h1 : c < (Int32.ofNat 0)) => ?_) (fun (h1 : ¬ (c < (Int32.ofNat 0))) => ?_)
  · skip
    have h1e : c < 0 := h1
    refine wp_st 1 (f' := (31, [some (.long (y)), none, some (.int (c))], [.int (Int32.ofNat 0)], A)) rfl ?_
    refine wp_rt rfl rfl rfl ?_
    rw [show sb_isn y c = false from by simp only [sb_isn, h1e, ↓reduceIte]]
    rfl
  · skip
    have h1e : ¬ c < 0 := h1
    refine wp_st 2 (f' := (7, [some (.long (y)), none, some (.int (c))], [.int (Int32.ofNat 6), .int (c)], A)) rfl ?_
    refine wp_if rfl rfl rfl (fun (h2 : (Int32.ofNat 6) < c) => ?_) (fun (h2 : ¬ ((Int32.ofNat 6) < c)) => ?_)
    · skip
      have h2e : 6 < c := h2
      refine wp_st 1 (f' := (31, [some (.long (y)), none, some (.int (c))], [.int (Int32.ofNat 0)], A)) rfl ?_
      refine wp_rt rfl rfl rfl ?_
      rw [show sb_isn y c = false from by simp only [sb_isn, h1e, h2e, ↓reduceIte]]
      rfl
    · skip
      have h2e : ¬ 6 < c := h2
      refine wp_st 3 (f' := (15, [some (.long (y)), none, some (.int (c))], [.int (lg_cmp y (-1000000000000000))], A)) rfl ?_
      refine wp_iz rfl rfl rfl (fun (h3 : (lg_cmp y (-1000000000000000)) < (Int32.ofNat 0)) => ?_) (fun (h3 : ¬ ((lg_cmp y (-1000000000000000)) < (Int32.ofNat 0))) => ?_)
      · skip
        have h3e : y < -1000000000000000 := (lg_cmp_lt _ _).mp h3
        refine wp_st 1 (f' := (31, [some (.long (y)), none, some (.int (c))], [.int (Int32.ofNat 0)], A)) rfl ?_
        refine wp_rt rfl rfl rfl ?_
        rw [show sb_isn y c = false from by simp only [sb_isn, h1e, h2e, h3e, ↓reduceIte]]
        rfl
      · skip
        have h3e : ¬ y < -1000000000000000 := fun q => h3 ((lg_cmp_lt _ _).mpr q)
        refine wp_st 3 (f' := (23, [some (.long (y)), none, some (.int (c))], [.int (lg_cmp y (1000000000000000))], A)) rfl ?_
        refine wp_iz rfl rfl rfl (fun (h4 : (Int32.ofNat 0) < (lg_cmp y (1000000000000000))) => ?_) (fun (h4 : ¬ ((Int32.ofNat 0) < (lg_cmp y (1000000000000000)))) => ?_)
        · skip
          have h4e : 1000000000000000 < y := (lg_cmp_gt _ _).mp h4
          refine wp_st 1 (f' := (31, [some (.long (y)), none, some (.int (c))], [.int (Int32.ofNat 0)], A)) rfl ?_
          refine wp_rt rfl rfl rfl ?_
          rw [show sb_isn y c = false from by simp only [sb_isn, h1e, h2e, h3e, h4e, ↓reduceIte]]
          rfl
        · skip
          have h4e : ¬ 1000000000000000 < y := fun q => h4 ((lg_cmp_gt _ _).mpr q)
          refine wp_st 2 (f' := (31, [some (.long (y)), none, some (.int (c))], [.int (Int32.ofNat 1)], A)) rfl ?_
          refine wp_rt rfl rfl rfl ?_
          rw [show sb_isn y c = true from by simp only [sb_isn, h1e, h2e, h3e, h4e, ↓reduceIte]]
          rfl
theorem rf_fb_lt : ∀ (l : List Nat) (w : Nat), (∀ b ∈ l, b ≤ 122) → rf_fb w l < (w + 1) * 32 ^ l.length
  | [], w, _ => by rw [rf_fb_n, List.length_nil, Nat.pow_zero]; omega
  | b :: r, w, h => by
    have h1 := h b (List.mem_cons_self ..)
    have h2 := rf_fb_lt r (32 * w + (b - 96)) (fun c hc => h c (List.mem_cons_of_mem _ hc))
    rw [rf_fb_c, List.length_cons, Nat.pow_succ]
    refine Nat.lt_of_lt_of_le h2 ?_
    have h3 : (32 * w + (b - 96) + 1) * 32 ^ r.length ≤ (32 * (w + 1)) * 32 ^ r.length := Nat.mul_le_mul_right _ (by omega)
    refine Nat.le_trans h3 (Nat.le_of_eq ?_)
    rw [Nat.mul_comm (32 ^ r.length) 32, ← Nat.mul_assoc, Nat.mul_comm 32 (w + 1)]
theorem sb_all_c {lo hi b : Nat} {l : List Nat} : sb_all lo hi (b :: l) = (decide (lo ≤ b) && decide (b ≤ hi) && sb_all lo hi l) := rfl
theorem rn_nm_l {d : Nat} {w : Int32} {A : am_H} (hd : 1 ≤ d) : ∀ (k N : Nat) (b3 : Option Value), k ≤ 4 → N < 32 ^ (4 - k) → am_wp d 162 (5, [some (.int w), some (.int (Int32.ofNat N)), some (.int (sb_sh k)), b3], [], A) (fun q => q = (.inl (some (.int (if sb_all 97 122 (sb_bl w k) = true then (if rf_fb N (sb_bl w k) = 0 then -1 else Int32.ofNat (rf_fb N (sb_bl w k))) else -1))), A)) := by
  intro k
  induction k with
  | zero =>
    intro N b3 hk hN
    refine wp_st 1 (f' := (6, [some (.int (w)), some (.int (Int32.ofNat N)), some (.int (sb_sh 0)), b3], [.int (sb_sh 0)], A)) rfl ?_
    refine wp_izT rfl rfl (sb_sh_z) ?_
    refine wp_st 1 (f' := (47, [some (.int (w)), some (.int (Int32.ofNat N)), some (.int (sb_sh 0)), b3], [.int (Int32.ofNat N)], A)) rfl ?_
    refine wp_iz rfl rfl rfl (fun (h1 : (Int32.ofNat N) ≠ (Int32.ofNat 0)) => ?_) (fun (h1 : ¬ ((Int32.ofNat N) ≠ (Int32.ofNat 0))) => ?_)
    · skip
      rw [ne_eq, i32_eq (by omega) (by omega)] at h1
      refine wp_st 1 (f' := (55, [some (.int (w)), some (.int (Int32.ofNat N)), some (.int (sb_sh 0)), b3], [.int (Int32.ofNat N)], A)) rfl ?_
      refine wp_rt rfl rfl rfl ?_
      rw [sb_bl]
      rw [if_pos (show sb_all 97 122 [] = true from rfl)]
      rw [rf_fb_n]
      rw [if_neg h1]
    · skip
      rw [ne_eq, i32_eq (by omega) (by omega)] at h1
      replace h1 := Decidable.not_not.mp h1
      refine wp_st 2 (f' := (55, [some (.int (w)), some (.int (Int32.ofNat N)), some (.int (sb_sh 0)), b3], [.int ((-1))], A)) rfl ?_
      refine wp_rt rfl rfl rfl ?_
      rw [sb_bl]
      rw [if_pos (show sb_all 97 122 [] = true from rfl)]
      rw [rf_fb_n]
      rw [if_pos h1]
  | succ k ih =>
    intro N b3 hk hN
    have hby := sb_by_lt w (8 * k)
    have hp : 32 ^ (4 - k) = 32 * 32 ^ (4 - (k + 1)) := by rw [show 4 - k = 4 - (k + 1) + 1 by omega, Nat.pow_succ, Nat.mul_comm]
    have hp2 : 32 ^ (4 - (k + 1)) ≤ 32 ^ 3 := Nat.pow_le_pow_right (by omega) (by omega)
    rw [sb_sh_s]
    refine wp_st 1 (f' := (6, [some (.int (w)), some (.int (Int32.ofNat N)), some (.int (Int32.ofNat (8 * k))), b3], [.int (Int32.ofNat (8 * k))], A)) rfl ?_
    refine wp_izF rfl rfl (Int32.ofNat_not_neg (by omega)) ?_
    refine wp_st 5 (f' := (16, [some (.int (w)), some (.int (Int32.ofNat N)), some (.int (Int32.ofNat (8 * k))), b3], [.int ((w >>> ((Int32.ofNat (8 * k)) &&& 31)) &&& (Int32.ofNat 255))], A)) rfl ?_
    rw [show w >>> (Int32.ofNat (8 * k) &&& 31) &&& Int32.ofNat 255 = Int32.ofNat (sb_by w (8 * k)) from sb_ssh (by omega)]
    refine wp_st 2 (f' := (18, [some (.int (w)), some (.int (Int32.ofNat N)), some (.int (Int32.ofNat (8 * k))), some (.int (Int32.ofNat (sb_by w (8 * k))))], [.int (Int32.ofNat (sb_by w (8 * k)))], A)) rfl ?_
    refine wp_iz rfl rfl rfl (fun (h1 : (Int32.ofNat (sb_by w (8 * k))) = (Int32.ofNat 0)) => ?_) (fun (h1 : ¬ ((Int32.ofNat (sb_by w (8 * k))) = (Int32.ofNat 0))) => ?_)
    · skip
      rw [i32_eq (by omega) (by omega)] at h1
      refine wp_st 2 (f' := (5, [some (.int (w)), some (.int (Int32.ofNat N)), some (.int ((Int32.ofNat (8 * k)) + (-8))), some (.int (Int32.ofNat (sb_by w (8 * k))))], [], A)) rfl ?_
      rw [show Int32.ofNat (8 * k) + (-8) = sb_sh k from rfl]
      rw [sb_bl_z h1]
      exact ih N _ (by omega) (by omega)
    · skip
      rw [i32_eq (by omega) (by omega)] at h1
      refine wp_st 1 (f' := (22, [some (.int (w)), some (.int (Int32.ofNat N)), some (.int (Int32.ofNat (8 * k))), some (.int (Int32.ofNat (sb_by w (8 * k))))], [.int (Int32.ofNat (sb_by w (8 * k)))], A)) rfl ?_
      by_cases hlt : 97 ≤ sb_by w (8 * k) ∧ sb_by w (8 * k) ≤ 122
      · skip
        refine wp_cs (n := 0) (A' := A) (v := some (.int (Int32.ofNat 1))) rfl rfl rfl (by omega) (by have e := lt_go (d := d - 1) (x := Int32.ofNat (sb_by w (8 * k))) (A := A); rw [sb_rng_t hlt.1 hlt.2 (by omega)] at e; exact e) rfl ?_
        show am_wp d 162 (25, [some (.int (w)), some (.int (Int32.ofNat N)), some (.int (Int32.ofNat (8 * k))), some (.int (Int32.ofNat (sb_by w (8 * k))))], [.int (Int32.ofNat 1)], A) _
        refine wp_izT rfl rfl (show (Int32.ofNat 1) ≠ (Int32.ofNat 0) from by decide) ?_
        refine wp_st 3 (f' := (34, [some (.int (w)), some (.int (Int32.ofNat N)), some (.int (Int32.ofNat (8 * k))), some (.int (Int32.ofNat (sb_by w (8 * k))))], [.int ((Int32.ofNat 32) * (Int32.ofNat N))], A)) rfl ?_
        rw [i32_mul (32) (N)]
        refine wp_st 2 (f' := (36, [some (.int (w)), some (.int (Int32.ofNat N)), some (.int (Int32.ofNat (8 * k))), some (.int (Int32.ofNat (sb_by w (8 * k))))], [.int ((Int32.ofNat (32 * N)) + (Int32.ofNat (sb_by w (8 * k))))], A)) rfl ?_
        rw [i32_add (32 * N) (sb_by w (8 * k))]
        refine wp_st 2 (f' := (39, [some (.int (w)), some (.int (Int32.ofNat N)), some (.int (Int32.ofNat (8 * k))), some (.int (Int32.ofNat (sb_by w (8 * k))))], [.int ((Int32.ofNat (32 * N + (sb_by w (8 * k)))) - (Int32.ofNat 96))], A)) rfl ?_
        rw [i32_sub (a := 32 * N + (sb_by w (8 * k))) (b := 96) (by omega)]
        refine wp_st 3 (f' := (5, [some (.int (w)), some (.int (Int32.ofNat ((32 * N + (sb_by w (8 * k))) - 96))), some (.int ((Int32.ofNat (8 * k)) + (-8))), some (.int (Int32.ofNat (sb_by w (8 * k))))], [], A)) rfl ?_
        rw [show Int32.ofNat (8 * k) + (-8) = sb_sh k from rfl]
        have hx := ih (32 * N + sb_by w (8 * k) - 96) (some (.int (Int32.ofNat (sb_by w (8 * k))))) (by omega) (by omega)
        rw [sb_bl_s h1, sb_all_c, decide_eq_true hlt.1, decide_eq_true hlt.2, rf_fb_c, show 32 * N + (sb_by w (8 * k) - 96) = 32 * N + sb_by w (8 * k) - 96 by omega]
        exact hx
      · skip
        refine wp_cs (n := 0) (A' := A) (v := some (.int (Int32.ofNat 0))) rfl rfl rfl (by omega) (by have e := lt_go (d := d - 1) (x := Int32.ofNat (sb_by w (8 * k))) (A := A); rw [sb_rng_f hlt (by omega) (by omega) (by omega)] at e; exact e) rfl ?_
        show am_wp d 162 (25, [some (.int (w)), some (.int (Int32.ofNat N)), some (.int (Int32.ofNat (8 * k))), some (.int (Int32.ofNat (sb_by w (8 * k))))], [.int (Int32.ofNat 0)], A) _
        refine wp_izF rfl rfl (show ¬ ((Int32.ofNat 0) ≠ (Int32.ofNat 0)) from by decide) ?_
        refine wp_st 1 (f' := (29, [some (.int (w)), some (.int (Int32.ofNat N)), some (.int (Int32.ofNat (8 * k))), some (.int (Int32.ofNat (sb_by w (8 * k))))], [.int ((-1))], A)) rfl ?_
        refine wp_rt rfl rfl rfl ?_
        rw [sb_bl_s h1, sb_all_c, show (decide (97 ≤ sb_by w (8 * k)) && decide (sb_by w (8 * k) ≤ 122)) = false by simp; omega]
        rfl
theorem rn_nm {d : Nat} {w : Int32} {A : am_H} (hd : 1 ≤ d) : am_go d 162 [.int w] A (.inl (some (.int (rf_nm w))), A) := by
  refine wp_go ?_
  refine wp_st 4 (f' := (5, [some (.int (w)), some (.int (Int32.ofNat 0)), some (.int (Int32.ofNat 24)), none], [], A)) rfl ?_
  exact rn_nm_l hd 4 0 none (by omega) (by decide)
theorem rn_fd_l {d b nv : Nat} {nf cf : Nat → Int32} {bf : Nat → Bool} {lf : Nat → Int64} {s : rf_S} {A : am_H} {x : Int32} (hv : rf_vs s nv nf bf lf cf) (h : rf A b s) : ∀ (k j : Nat), nv - j = k → j ≤ nv → am_wp d 164 (2, [some (.ref b), some (.int x), some (.int (Int32.ofNat j))], [], A) (fun q => q = (.inl (some (.int (mg_bi (rf_fd nf x k j)))), A)) := by
  have hn6 := hv.2.1
  intro k
  induction k with
  | zero =>
    intro j h1 h2
    refine wp_st 2 (f' := (4, [some (.ref (b)), some (.int (x)), some (.int (Int32.ofNat j))], [.ref (b), .int (Int32.ofNat j)], A)) rfl ?_
    refine rw_gf (v := .int (Int32.ofNat nv)) h rfl rfl rfl rfl (hv.1) rfl ?_
    refine wp_ifT rfl rfl ((i32_le (a := nv) (b := j) (by omega) (by omega)).mpr (by omega)) ?_
    refine wp_st 1 (f' := (29, [some (.ref (b)), some (.int (x)), some (.int (Int32.ofNat j))], [.int ((-1))], A)) rfl ?_
    refine wp_rt rfl rfl rfl ?_
    rfl
  | succ k ih =>
    intro j h1 h2
    refine wp_st 2 (f' := (4, [some (.ref (b)), some (.int (x)), some (.int (Int32.ofNat j))], [.ref (b), .int (Int32.ofNat j)], A)) rfl ?_
    refine rw_gf (v := .int (Int32.ofNat nv)) h rfl rfl rfl rfl (hv.1) rfl ?_
    refine wp_ifF rfl rfl (fun q => absurd ((i32_le (a := nv) (b := j) (by omega) (by omega)).mp q) (by omega)) ?_
    refine wp_st 1 (f' := (11, [some (.ref (b)), some (.int (x)), some (.int (Int32.ofNat j))], [.ref (b)], A)) rfl ?_
    refine rw_gr h rfl rfl rfl rfl rfl rfl ?_
    refine wp_st 1 (f' := (15, [some (.ref (b)), some (.int (x)), some (.int (Int32.ofNat j))], [.int (Int32.ofNat j), .ref (b + 29)], A)) rfl ?_
    refine rw_al (j := 43) (n := j) (v := .int (nf j)) h rfl rfl rfl (Or.inl ⟨rfl, rfl⟩) rfl (show _ < 6 from by omega) ((hv.2.2 j (by omega)).1) rfl ?_
    refine wp_st 1 (f' := (17, [some (.ref (b)), some (.int (x)), some (.int (Int32.ofNat j))], [.int (x), .int (nf j)], A)) rfl ?_
    refine wp_if rfl rfl rfl (fun (h1 : (nf j) ≠ x) => ?_) (fun (h1 : ¬ ((nf j) ≠ x)) => ?_)
    · skip
      refine wp_st 1 (f' := (25, [some (.ref (b)), some (.int (x)), some (.int ((Int32.ofNat j) + (Int32.ofNat 1)))], [], A)) rfl ?_
      rw [i32_add (j) (1)]
      refine wp_st 1 (f' := (2, [some (.ref (b)), some (.int (x)), some (.int (Int32.ofNat (j + 1)))], [], A)) rfl ?_
      have h9 := ih (j + 1) (by omega) (by omega)
      rw [rf_fd, if_neg h1]
      exact h9
    · skip
      replace h1 := Decidable.not_not.mp h1
      refine wp_st 1 (f' := (21, [some (.ref (b)), some (.int (x)), some (.int (Int32.ofNat j))], [.int (Int32.ofNat j)], A)) rfl ?_
      refine wp_rt rfl rfl rfl ?_
      rw [rf_fd, if_pos h1]
      rfl
theorem rn_fd {d b nv : Nat} {nf cf : Nat → Int32} {bf : Nat → Bool} {lf : Nat → Int64} {s : rf_S} {A : am_H} {x : Int32} (hv : rf_vs s nv nf bf lf cf) (h : rf A b s) : am_go d 164 [.ref b, .int x] A (.inl (some (.int (mg_bi (rf_fd nf x nv 0)))), A) := by
  refine wp_go ?_
  refine wp_st 2 (f' := (2, [some (.ref (b)), some (.int (x)), some (.int (Int32.ofNat 0))], [], A)) rfl ?_
  exact rn_fd_l hv h _ 0 rfl (by omega)
theorem rn_putf {d b nv : Nat} {nf cf : Nat → Int32} {bf : Nat → Bool} {lf : Nat → Int64} {s : rf_S} {A : am_H} {x c : Int32} {z : Bool} {y : Int64} (hd : 1 ≤ d) (hfd : rf_fd nf x nv 0 = none) (h6 : nv = 6) (hv : rf_vs s nv nf bf lf cf) (h : rf A b s) : rf_go d 163 [.ref b, .int x, .int (sb_i z), .long y, .int c] A b none (rf_u s 0 0 (.int (Int32.ofNat 2))) := by
  refine rf_of ?_
  refine wp_st 2 (f' := (2, [some (.ref (b)), some (.int (x)), some (.int (sb_i z)), some (.long (y)), none, some (.int (c)), none], [.int (x), .ref (b)], A)) rfl ?_
  refine wp_cv (A' := A) (v := some (.int ((-1)))) rfl rfl rfl rfl rfl (show _ from h.1) (by omega) (by have e := rn_fd (d := d - 1) (x := x) hv h; rw [hfd] at e; exact e) rfl ?_
  show am_wp d 163 (5, [some (.ref (b)), some (.int (x)), some (.int (sb_i z)), some (.long (y)), none, some (.int (c)), none], [.int ((-1))], A) _
  refine wp_st 2 (f' := (9, [some (.ref (b)), some (.int (x)), some (.int (sb_i z)), some (.long (y)), none, some (.int (c)), some (.int ((-1)))], [.int ((-1))], A)) rfl ?_
  refine wp_izF rfl rfl (show ¬ (Int32.ofNat 0 ≤ (-1 : Int32)) from by decide) ?_
  refine wp_st 1 (f' := (13, [some (.ref (b)), some (.int (x)), some (.int (sb_i z)), some (.long (y)), none, some (.int (c)), some (.int ((-1)))], [.ref (b)], A)) rfl ?_
  refine rw_gf (v := .int (Int32.ofNat nv)) h rfl rfl rfl rfl (hv.1) rfl ?_
  refine wp_st 1 (f' := (18, [some (.ref (b)), some (.int (x)), some (.int (sb_i z)), some (.long (y)), none, some (.int (c)), some (.int ((-1)))], [.int (Int32.ofNat 6), .int (Int32.ofNat nv)], A)) rfl ?_
  refine wp_ifF rfl rfl (fun q => q ((i32_eq (a := nv) (b := 6) (by omega) (by omega)).mpr (by omega))) ?_
  refine wp_st 2 (f' := (23, [some (.ref (b)), some (.int (x)), some (.int (sb_i z)), some (.long (y)), none, some (.int (c)), some (.int ((-1)))], [.int (Int32.ofNat 2), .ref (b)], A)) rfl ?_
  refine rw_pf (v := .int (Int32.ofNat 2)) h rfl rfl rfl rfl rfl rfl (fun A1 h2 f3 => ?_)
  have f4 := (sb_fr.refl A b (b + 38)).trans f3
  refine wp_rt rfl rfl rfl ?_
  exact ⟨rfl, h2, f4⟩
theorem rn_putn {d b nv : Nat} {nf cf : Nat → Int32} {bf : Nat → Bool} {lf : Nat → Int64} {s : rf_S} {A : am_H} {x c : Int32} {z : Bool} {y : Int64} (hd : 1 ≤ d) (hfd : rf_fd nf x nv 0 = none) (h6 : nv < 6) (hv : rf_vs s nv nf bf lf cf) (h : rf A b s) : rf_go d 163 [.ref b, .int x, .int (sb_i z), .long y, .int c] A b none (rf_u (rf_u (rf_u (rf_u (rf_u s 42 0 (.int (Int32.ofNat (nv + 1)))) 43 nv (.int x)) 44 nv (.int (sb_i z))) 45 nv (.long y)) 46 nv (.int c)) := by
  refine rf_of ?_
  refine wp_st 2 (f' := (2, [some (.ref (b)), some (.int (x)), some (.int (sb_i z)), some (.long (y)), none, some (.int (c)), none], [.int (x), .ref (b)], A)) rfl ?_
  refine wp_cv (A' := A) (v := some (.int ((-1)))) rfl rfl rfl rfl rfl (show _ from h.1) (by omega) (by have e := rn_fd (d := d - 1) (x := x) hv h; rw [hfd] at e; exact e) rfl ?_
  show am_wp d 163 (5, [some (.ref (b)), some (.int (x)), some (.int (sb_i z)), some (.long (y)), none, some (.int (c)), none], [.int ((-1))], A) _
  refine wp_st 2 (f' := (9, [some (.ref (b)), some (.int (x)), some (.int (sb_i z)), some (.long (y)), none, some (.int (c)), some (.int ((-1)))], [.int ((-1))], A)) rfl ?_
  refine wp_izF rfl rfl (show ¬ (Int32.ofNat 0 ≤ (-1 : Int32)) from by decide) ?_
  refine wp_st 1 (f' := (13, [some (.ref (b)), some (.int (x)), some (.int (sb_i z)), some (.long (y)), none, some (.int (c)), some (.int ((-1)))], [.ref (b)], A)) rfl ?_
  refine rw_gf (v := .int (Int32.ofNat nv)) h rfl rfl rfl rfl (hv.1) rfl ?_
  refine wp_st 1 (f' := (18, [some (.ref (b)), some (.int (x)), some (.int (sb_i z)), some (.long (y)), none, some (.int (c)), some (.int ((-1)))], [.int (Int32.ofNat 6), .int (Int32.ofNat nv)], A)) rfl ?_
  refine wp_ifT rfl rfl (fun q => absurd ((i32_eq (a := nv) (b := 6) (by omega) (by omega)).mp q) (by omega)) ?_
  refine wp_st 1 (f' := (29, [some (.ref (b)), some (.int (x)), some (.int (sb_i z)), some (.long (y)), none, some (.int (c)), some (.int ((-1)))], [.int ((-1))], A)) rfl ?_
  refine wp_izF rfl rfl (show ¬ (Int32.ofNat 0 ≤ (-1 : Int32)) from by decide) ?_
  refine wp_st 1 (f' := (33, [some (.ref (b)), some (.int (x)), some (.int (sb_i z)), some (.long (y)), none, some (.int (c)), some (.int ((-1)))], [.ref (b)], A)) rfl ?_
  refine rw_gf (v := .int (Int32.ofNat nv)) h rfl rfl rfl rfl (hv.1) rfl ?_
  refine wp_st 3 (f' := (40, [some (.ref (b)), some (.int (x)), some (.int (sb_i z)), some (.long (y)), none, some (.int (c)), some (.int (Int32.ofNat nv))], [.ref (b), .ref (b)], A)) rfl ?_
  refine rw_gf (v := .int (Int32.ofNat nv)) h rfl rfl rfl rfl (hv.1) rfl ?_
  refine wp_st 2 (f' := (45, [some (.ref (b)), some (.int (x)), some (.int (sb_i z)), some (.long (y)), none, some (.int (c)), some (.int (Int32.ofNat nv))], [.int ((Int32.ofNat nv) + (Int32.ofNat 1)), .ref (b)], A)) rfl ?_
  rw [i32_add (nv) (1)]
  refine rw_pf (v := .int (Int32.ofNat (nv + 1))) h rfl rfl rfl rfl rfl rfl (fun A1 h2 f3 => ?_)
  have f4 := (sb_fr.refl A b (b + 38)).trans f3
  refine wp_st 1 (f' := (49, [some (.ref (b)), some (.int (x)), some (.int (sb_i z)), some (.long (y)), none, some (.int (c)), some (.int (Int32.ofNat nv))], [.ref (b)], A1)) rfl ?_
  refine rw_gr h2 rfl rfl rfl rfl rfl rfl ?_
  refine wp_st 2 (f' := (55, [some (.ref (b)), some (.int (x)), some (.int (sb_i z)), some (.long (y)), none, some (.int (c)), some (.int (Int32.ofNat nv))], [.int (x), .int (Int32.ofNat nv), .ref (b + 29)], A1)) rfl ?_
  refine rw_as (j := 43) (n := nv) (v := .int (x)) h2 rfl rfl rfl (Or.inl ⟨rfl, rfl, rfl⟩) (show _ < 6 from by omega) rfl rfl (fun A5 h6 f7 => ?_)
  have f8 := f4.trans f7
  refine wp_st 1 (f' := (57, [some (.ref (b)), some (.int (x)), some (.int (sb_i z)), some (.long (y)), none, some (.int (c)), some (.int (Int32.ofNat nv))], [.ref (b)], A5)) rfl ?_
  refine rw_gr h6 rfl rfl rfl rfl rfl rfl ?_
  refine wp_st 2 (f' := (63, [some (.ref (b)), some (.int (x)), some (.int (sb_i z)), some (.long (y)), none, some (.int (c)), some (.int (Int32.ofNat nv))], [.int (sb_i z), .int (Int32.ofNat nv), .ref (b + 30)], A5)) rfl ?_
  refine rw_as (j := 44) (n := nv) (v := .int (sb_i z)) h6 rfl rfl rfl (Or.inr (Or.inr ⟨rfl, rfl, rfl⟩)) (show _ < 6 from by omega) (sb_narrow_z _) rfl (fun A9 h10 f11 => ?_)
  have f12 := f8.trans f11
  refine wp_st 1 (f' := (65, [some (.ref (b)), some (.int (x)), some (.int (sb_i z)), some (.long (y)), none, some (.int (c)), some (.int (Int32.ofNat nv))], [.ref (b)], A9)) rfl ?_
  refine rw_gr h10 rfl rfl rfl rfl rfl rfl ?_
  refine wp_st 2 (f' := (71, [some (.ref (b)), some (.int (x)), some (.int (sb_i z)), some (.long (y)), none, some (.int (c)), some (.int (Int32.ofNat nv))], [.long (y), .int (Int32.ofNat nv), .ref (b + 31)], A9)) rfl ?_
  refine rw_ls (j := 45) (n := nv) h10 rfl rfl rfl rfl (show _ < 6 from by omega) rfl (fun A13 h14 f15 => ?_)
  have f16 := f12.trans f15
  refine wp_st 1 (f' := (73, [some (.ref (b)), some (.int (x)), some (.int (sb_i z)), some (.long (y)), none, some (.int (c)), some (.int (Int32.ofNat nv))], [.ref (b)], A13)) rfl ?_
  refine rw_gr h14 rfl rfl rfl rfl rfl rfl ?_
  refine wp_st 2 (f' := (80, [some (.ref (b)), some (.int (x)), some (.int (sb_i z)), some (.long (y)), none, some (.int (c)), some (.int (Int32.ofNat nv))], [.int (c), .int (Int32.ofNat nv), .ref (b + 32)], A13)) rfl ?_
  refine rw_as (j := 46) (n := nv) (v := .int (c)) h14 rfl rfl rfl (Or.inl ⟨rfl, rfl, rfl⟩) (show _ < 6 from by omega) rfl rfl (fun A17 h18 f19 => ?_)
  have f20 := f16.trans f19
  refine wp_rt rfl rfl rfl ?_
  exact ⟨rfl, h18, f20⟩
theorem rn_puts {d b nv : Nat} {nf cf : Nat → Int32} {bf : Nat → Bool} {lf : Nat → Int64} {s : rf_S} {A : am_H} {x c : Int32} {z : Bool} {y : Int64} (hd : 1 ≤ d) {i : Nat} (hfd : rf_fd nf x nv 0 = some i) (hv : rf_vs s nv nf bf lf cf) (h : rf A b s) : rf_go d 163 [.ref b, .int x, .int (sb_i z), .long y, .int c] A b none (rf_u (rf_u (rf_u (rf_u (s) 43 i (.int x)) 44 i (.int (sb_i z))) 45 i (.long y)) 46 i (.int c)) := by
  have hfl := rf_fd_lt hfd
  have hn6 := hv.2.1
  refine rf_of ?_
  refine wp_st 2 (f' := (2, [some (.ref (b)), some (.int (x)), some (.int (sb_i z)), some (.long (y)), none, some (.int (c)), none], [.int (x), .ref (b)], A)) rfl ?_
  refine wp_cv (A' := A) (v := some (.int (Int32.ofNat i))) rfl rfl rfl rfl rfl (show _ from h.1) (by omega) (by have e := rn_fd (d := d - 1) (x := x) hv h; rw [hfd] at e; exact e) rfl ?_
  show am_wp d 163 (5, [some (.ref (b)), some (.int (x)), some (.int (sb_i z)), some (.long (y)), none, some (.int (c)), none], [.int (Int32.ofNat i)], A) _
  refine wp_st 2 (f' := (9, [some (.ref (b)), some (.int (x)), some (.int (sb_i z)), some (.long (y)), none, some (.int (c)), some (.int (Int32.ofNat i))], [.int (Int32.ofNat i)], A)) rfl ?_
  refine wp_izT rfl rfl ((i32_le (a := 0) (b := i) (by omega) (by omega)).mpr (by omega)) ?_
  refine wp_st 1 (f' := (29, [some (.ref (b)), some (.int (x)), some (.int (sb_i z)), some (.long (y)), none, some (.int (c)), some (.int (Int32.ofNat i))], [.int (Int32.ofNat i)], A)) rfl ?_
  refine wp_izT rfl rfl ((i32_le (a := 0) (b := i) (by omega) (by omega)).mpr (by omega)) ?_
  refine wp_st 1 (f' := (49, [some (.ref (b)), some (.int (x)), some (.int (sb_i z)), some (.long (y)), none, some (.int (c)), some (.int (Int32.ofNat i))], [.ref (b)], A)) rfl ?_
  refine rw_gr h rfl rfl rfl rfl rfl rfl ?_
  refine wp_st 2 (f' := (55, [some (.ref (b)), some (.int (x)), some (.int (sb_i z)), some (.long (y)), none, some (.int (c)), some (.int (Int32.ofNat i))], [.int (x), .int (Int32.ofNat i), .ref (b + 29)], A)) rfl ?_
  refine rw_as (j := 43) (n := i) (v := .int (x)) h rfl rfl rfl (Or.inl ⟨rfl, rfl, rfl⟩) (show _ < 6 from by omega) rfl rfl (fun A1 h2 f3 => ?_)
  have f4 := (sb_fr.refl A b (b + 38)).trans f3
  refine wp_st 1 (f' := (57, [some (.ref (b)), some (.int (x)), some (.int (sb_i z)), some (.long (y)), none, some (.int (c)), some (.int (Int32.ofNat i))], [.ref (b)], A1)) rfl ?_
  refine rw_gr h2 rfl rfl rfl rfl rfl rfl ?_
  refine wp_st 2 (f' := (63, [some (.ref (b)), some (.int (x)), some (.int (sb_i z)), some (.long (y)), none, some (.int (c)), some (.int (Int32.ofNat i))], [.int (sb_i z), .int (Int32.ofNat i), .ref (b + 30)], A1)) rfl ?_
  refine rw_as (j := 44) (n := i) (v := .int (sb_i z)) h2 rfl rfl rfl (Or.inr (Or.inr ⟨rfl, rfl, rfl⟩)) (show _ < 6 from by omega) (sb_narrow_z _) rfl (fun A5 h6 f7 => ?_)
  have f8 := f4.trans f7
  refine wp_st 1 (f' := (65, [some (.ref (b)), some (.int (x)), some (.int (sb_i z)), some (.long (y)), none, some (.int (c)), some (.int (Int32.ofNat i))], [.ref (b)], A5)) rfl ?_
  refine rw_gr h6 rfl rfl rfl rfl rfl rfl ?_
  refine wp_st 2 (f' := (71, [some (.ref (b)), some (.int (x)), some (.int (sb_i z)), some (.long (y)), none, some (.int (c)), some (.int (Int32.ofNat i))], [.long (y), .int (Int32.ofNat i), .ref (b + 31)], A5)) rfl ?_
  refine rw_ls (j := 45) (n := i) h6 rfl rfl rfl rfl (show _ < 6 from by omega) rfl (fun A9 h10 f11 => ?_)
  have f12 := f8.trans f11
  refine wp_st 1 (f' := (73, [some (.ref (b)), some (.int (x)), some (.int (sb_i z)), some (.long (y)), none, some (.int (c)), some (.int (Int32.ofNat i))], [.ref (b)], A9)) rfl ?_
  refine rw_gr h10 rfl rfl rfl rfl rfl rfl ?_
  refine wp_st 2 (f' := (80, [some (.ref (b)), some (.int (x)), some (.int (sb_i z)), some (.long (y)), none, some (.int (c)), some (.int (Int32.ofNat i))], [.int (c), .int (Int32.ofNat i), .ref (b + 32)], A9)) rfl ?_
  refine rw_as (j := 46) (n := i) (v := .int (c)) h10 rfl rfl rfl (Or.inl ⟨rfl, rfl, rfl⟩) (show _ < 6 from by omega) rfl rfl (fun A13 h14 f15 => ?_)
  have f16 := f12.trans f15
  refine wp_rt rfl rfl rfl ?_
  exact ⟨rfl, h14, f16⟩
