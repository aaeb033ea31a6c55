/-! The reference: spell, six, sortHere. -/
theorem rn_sp_l {d b n p g g9 k : Nat} {w : Int32} {r : Int64} {cs : List Nat} {s : rf_S} {A : am_H} (hx : rf_tx s cs n) (hl : sb_ltr cs g k) (hk : g + k ≤ n) (h : rf A b (rf_c s p w r g9)) : ∀ (q i : Nat), k - i < q → i ≤ k → am_wp d 135 (5, [some (.ref b), some (.int (Int32.ofNat g)), some (.int (Int32.ofNat k)), some (.long (Int64.ofNat (rf_b32 cs i g 0))), none, some (.int (Int32.ofNat (g + i)))], [], A) (fun q => q = (.inl (some (.long (Int64.ofNat (rf_b32 cs k g 0)))), A)) := by
  have hn1 := hx.2.2.1
  intro q
  induction q with
  | zero =>
    intro i h1
    omega
  | succ q ih =>
    intro i h1 hi
    refine wp_st 4 (f' := (10, [some (.ref (b)), some (.int (Int32.ofNat g)), some (.int (Int32.ofNat k)), some (.long (Int64.ofNat (rf_b32 cs i g 0))), none, some (.int (Int32.ofNat (g + i)))], [.int ((Int32.ofNat g) + (Int32.ofNat k)), .int (Int32.ofNat (g + i))], A)) rfl ?_
    rw [i32_add (g) (k)]
    refine wp_if rfl rfl rfl (fun (h1 : (Int32.ofNat (g + k)) ≤ (Int32.ofNat (g + i))) => ?_) (fun (h1 : ¬ ((Int32.ofNat (g + k)) ≤ (Int32.ofNat (g + i)))) => ?_)
    · skip
      rw [i32_le (by omega) (by omega)] at h1
      refine wp_st 1 (f' := (39, [some (.ref (b)), some (.int (Int32.ofNat g)), some (.int (Int32.ofNat k)), some (.long (Int64.ofNat (rf_b32 cs i g 0))), none, some (.int (Int32.ofNat (g + i)))], [.long (Int64.ofNat (rf_b32 cs i g 0))], A)) rfl ?_
      refine wp_rt rfl rfl rfl ?_
      obtain rfl : i = k := by omega
      rfl
    · skip
      rw [i32_le (by omega) (by omega)] at h1
      have hc9 := hl (g + i) (by omega) (by omega)
      refine wp_st 3 (f' := (18, [some (.ref (b)), some (.int (Int32.ofNat g)), some (.int (Int32.ofNat k)), some (.long (Int64.ofNat (rf_b32 cs i g 0))), none, some (.int (Int32.ofNat (g + i)))], [.long ((32) * (Int64.ofNat (rf_b32 cs i g 0)))], A)) rfl ?_
      rw [show (32 : Int64) * Int64.ofNat (rf_b32 cs i g 0) = Int64.ofNat (32 * rf_b32 cs i g 0) from (Int64.ofNat_mul ..).symm]
      refine wp_st 1 (f' := (19, [some (.ref (b)), some (.int (Int32.ofNat g)), some (.int (Int32.ofNat k)), some (.long (Int64.ofNat (rf_b32 cs i g 0))), none, some (.int (Int32.ofNat (g + i)))], [.ref (b), .long (Int64.ofNat (32 * rf_b32 cs i g 0))], A)) rfl ?_
      refine rw_gr h rfl rfl rfl rfl rfl rfl ?_
      refine wp_st 1 (f' := (24, [some (.ref (b)), some (.int (Int32.ofNat g)), some (.int (Int32.ofNat k)), some (.long (Int64.ofNat (rf_b32 cs i g 0))), none, some (.int (Int32.ofNat (g + i)))], [.int (Int32.ofNat (g + i)), .ref (b + 1), .long (Int64.ofNat (32 * rf_b32 cs i g 0))], A)) rfl ?_
      refine rw_al (j := 2) (n := g + i) (v := .int (Int32.ofNat (cs.getD (g + i) 0))) h rfl rfl rfl (Or.inl ⟨rfl, rfl⟩) rfl (show _ < 120 from by omega) (hx.2.1 (g + i) (by omega)) rfl ?_
      refine wp_st 1 (f' := (26, [some (.ref (b)), some (.int (Int32.ofNat g)), some (.int (Int32.ofNat k)), some (.long (Int64.ofNat (rf_b32 cs i g 0))), none, some (.int (Int32.ofNat (g + i)))], [.long ((Int32.ofNat (cs.getD (g + i) 0)).toInt64), .long (Int64.ofNat (32 * rf_b32 cs i g 0))], A)) rfl ?_
      rw [i64_of (b := cs.getD (g + i) 0) (by omega)]
      refine wp_st 1 (f' := (27, [some (.ref (b)), some (.int (Int32.ofNat g)), some (.int (Int32.ofNat k)), some (.long (Int64.ofNat (rf_b32 cs i g 0))), none, some (.int (Int32.ofNat (g + i)))], [.long ((Int64.ofNat (32 * rf_b32 cs i g 0)) + (Int64.ofNat (cs.getD (g + i) 0)))], A)) rfl ?_
      rw [← Int64.ofNat_add]
      refine wp_st 2 (f' := (31, [some (.ref (b)), some (.int (Int32.ofNat g)), some (.int (Int32.ofNat k)), some (.long (Int64.ofNat (rf_b32 cs i g 0))), none, some (.int (Int32.ofNat (g + i)))], [.long ((Int64.ofNat (32 * rf_b32 cs i g 0 + cs.getD (g + i) 0)) - (96))], A)) rfl ?_
      rw [show Int64.ofNat (32 * rf_b32 cs i g 0 + cs.getD (g + i) 0) - (96) = Int64.ofNat (32 * rf_b32 cs i g 0 + cs.getD (g + i) 0 - 96) from i64_sub (b := 96) (by omega)]
      refine wp_st 2 (f' := (35, [some (.ref (b)), some (.int (Int32.ofNat g)), some (.int (Int32.ofNat k)), some (.long (Int64.ofNat (32 * rf_b32 cs i g 0 + cs.getD (g + i) 0 - 96))), none, some (.int ((Int32.ofNat (g + i)) + (Int32.ofNat 1)))], [], A)) rfl ?_
      rw [i32_add (g + i) (1)]
      refine wp_st 1 (f' := (5, [some (.ref (b)), some (.int (Int32.ofNat g)), some (.int (Int32.ofNat k)), some (.long (Int64.ofNat (32 * rf_b32 cs i g 0 + cs.getD (g + i) 0 - 96))), none, some (.int (Int32.ofNat (g + i + 1)))], [], A)) rfl ?_
      have e9 := ih (i + 1) (by omega) (by omega)
      rw [rf_b32_s, ← Nat.add_sub_assoc (show 96 ≤ cs.getD (g + i) 0 by omega), ← Nat.add_assoc] at e9
      exact e9
theorem rn_spell {d b n p g g9 k : Nat} {w : Int32} {r : Int64} {cs : List Nat} {s : rf_S} {A : am_H} (hx : rf_tx s cs n) (hl : sb_ltr cs g k) (hk : g + k ≤ n) (h : rf A b (rf_c s p w r g9)) : am_go d 135 [.ref b, .int (Int32.ofNat g), .int (Int32.ofNat k)] A (.inl (some (.long (Int64.ofNat (rf_b32 cs k g 0)))), A) := by
  refine wp_go ?_
  refine wp_st 4 (f' := (5, [some (.ref (b)), some (.int (Int32.ofNat g)), some (.int (Int32.ofNat k)), some (.long (Int64.ofNat 0)), none, some (.int (Int32.ofNat g))], [], A)) rfl ?_
  exact rn_sp_l hx hl hk h (k + 1) 0 (by omega) (by omega)
theorem rn_six {d v0 v1 v2 v3 v4 v5 : Nat} {A : am_H} (hd : 1 ≤ d) (h0 : 96 ≤ v0 ∧ v0 < 128) (h1 : 96 ≤ v1 ∧ v1 < 128) (h2 : 96 ≤ v2 ∧ v2 < 128) (h3 : 96 ≤ v3 ∧ v3 < 128) (h4 : 96 ≤ v4 ∧ v4 < 128) (h5 : 96 ≤ v5 ∧ v5 < 128) : am_go d 136 [.int (Int32.ofNat v0), .int (Int32.ofNat v1), .int (Int32.ofNat v2), .int (Int32.ofNat v3), .int (Int32.ofNat v4), .int (Int32.ofNat v5)] A (.inl (some (.long (Int64.ofNat (((v0 - 96) * 1024 + (v1 - 96) * 32 + v2 - 96) * 32768 + ((v3 - 96) * 1024 + (v4 - 96) * 32 + v5 - 96))))), A) := by
  refine wp_go ?_
  refine wp_st 3 (f' := (3, [some (.int (Int32.ofNat v0)), some (.int (Int32.ofNat v1)), some (.int (Int32.ofNat v2)), some (.int (Int32.ofNat v3)), some (.int (Int32.ofNat v4)), some (.int (Int32.ofNat v5))], [.int (Int32.ofNat v2), .int (Int32.ofNat v1), .int (Int32.ofNat v0)], A)) rfl ?_
  refine wp_cs (n := 0) (A' := A) (v := some (.long (Int64.ofNat ((v0 - 96) * 1024 + (v1 - 96) * 32 + v2 - 96)))) rfl rfl rfl (by omega) (rn_three (by omega) (by omega) (by omega) (by omega)) rfl ?_
  show am_wp d 136 (6, [some (.int (Int32.ofNat v0)), some (.int (Int32.ofNat v1)), some (.int (Int32.ofNat v2)), some (.int (Int32.ofNat v3)), some (.int (Int32.ofNat v4)), some (.int (Int32.ofNat v5))], [.long (Int64.ofNat ((v0 - 96) * 1024 + (v1 - 96) * 32 + v2 - 96))], A) _
  refine wp_st 2 (f' := (10, [some (.int (Int32.ofNat v0)), some (.int (Int32.ofNat v1)), some (.int (Int32.ofNat v2)), some (.int (Int32.ofNat v3)), some (.int (Int32.ofNat v4)), some (.int (Int32.ofNat v5))], [.long ((Int64.ofNat ((v0 - 96) * 1024 + (v1 - 96) * 32 + v2 - 96)) * (32768))], A)) rfl ?_
  rw [show Int64.ofNat ((v0 - 96) * 1024 + (v1 - 96) * 32 + v2 - 96) * (32768) = Int64.ofNat (((v0 - 96) * 1024 + (v1 - 96) * 32 + v2 - 96) * 32768) from (Int64.ofNat_mul ..).symm]
  refine wp_st 3 (f' := (15, [some (.int (Int32.ofNat v0)), some (.int (Int32.ofNat v1)), some (.int (Int32.ofNat v2)), some (.int (Int32.ofNat v3)), some (.int (Int32.ofNat v4)), some (.int (Int32.ofNat v5))], [.int (Int32.ofNat v5), .int (Int32.ofNat v4), .int (Int32.ofNat v3), .long (Int64.ofNat (((v0 - 96) * 1024 + (v1 - 96) * 32 + v2 - 96) * 32768))], A)) rfl ?_
  refine wp_cs (n := 0) (A' := A) (v := some (.long (Int64.ofNat ((v3 - 96) * 1024 + (v4 - 96) * 32 + v5 - 96)))) rfl rfl rfl (by omega) (rn_three (by omega) (by omega) (by omega) (by omega)) rfl ?_
  show am_wp d 136 (18, [some (.int (Int32.ofNat v0)), some (.int (Int32.ofNat v1)), some (.int (Int32.ofNat v2)), some (.int (Int32.ofNat v3)), some (.int (Int32.ofNat v4)), some (.int (Int32.ofNat v5))], [.long (Int64.ofNat ((v3 - 96) * 1024 + (v4 - 96) * 32 + v5 - 96)), .long (Int64.ofNat (((v0 - 96) * 1024 + (v1 - 96) * 32 + v2 - 96) * 32768))], A) _
  refine wp_st 1 (f' := (19, [some (.int (Int32.ofNat v0)), some (.int (Int32.ofNat v1)), some (.int (Int32.ofNat v2)), some (.int (Int32.ofNat v3)), some (.int (Int32.ofNat v4)), some (.int (Int32.ofNat v5))], [.long ((Int64.ofNat (((v0 - 96) * 1024 + (v1 - 96) * 32 + v2 - 96) * 32768)) + (Int64.ofNat ((v3 - 96) * 1024 + (v4 - 96) * 32 + v5 - 96)))], A)) rfl ?_
  rw [← Int64.ofNat_add]
  refine wp_rt rfl rfl rfl ?_
  rfl
theorem rn_so6 {d b n g k : Nat} {w : Int32} {r : Int64} {cs : List Nat} {s : rf_S} {A : am_H} (hd : 2 ≤ d) (hx : rf_tx s cs n) (hl : sb_ltr cs g k) (hk : g + k ≤ n) (h : rf A b (rf_c s (g + k) w r g)) (hk6 : k ≤ 6) : am_go d 134 [.ref b] A (.inl (some (.int (rf_sn (rf_b32 cs k g 0)))), A) := by
  have hn1 := hx.2.2.1
  have hlt := (rf_b32_ge hl).2.2
  have hlt6 : 32 ^ k ≤ 32 ^ 6 := Nat.pow_le_pow_right (by omega) hk6
  refine wp_go ?_
  refine wp_st 1 (f' := (1, [some (.ref (b)), none, none, none], [.ref (b)], A)) rfl ?_
  refine rw_gf (v := .int (Int32.ofNat (g + k))) h rfl rfl rfl rfl (rfl) rfl ?_
  refine wp_st 1 (f' := (5, [some (.ref (b)), none, none, none], [.ref (b), .int (Int32.ofNat (g + k))], A)) rfl ?_
  refine rw_gf (v := .int (Int32.ofNat g)) h rfl rfl rfl rfl (rfl) rfl ?_
  refine wp_st 1 (f' := (9, [some (.ref (b)), none, none, none], [.int ((Int32.ofNat (g + k)) - (Int32.ofNat g))], A)) rfl ?_
  rw [i32_sub (a := g + k) (b := g) (by omega)]
  rw [Nat.add_sub_cancel_left]
  refine wp_st 3 (f' := (13, [some (.ref (b)), some (.int (Int32.ofNat k)), none, none], [.int (Int32.ofNat 13), .int (Int32.ofNat k)], A)) rfl ?_
  refine wp_ifT rfl (show am_tgt 13 (97) = 110 by decide +kernel) (fun q => absurd ((i32_eq (a := k) (b := 13) (by omega) (by omega)).mp q) (by omega)) ?_
  refine wp_st 2 (f' := (113, [some (.ref (b)), some (.int (Int32.ofNat k)), none, none], [.int (Int32.ofNat 6), .int (Int32.ofNat k)], A)) rfl ?_
  refine wp_ifT rfl rfl ((i32_le (a := k) (b := 6) (by omega) (by omega)).mpr (by omega)) ?_
  refine wp_st 2 (f' := (124, [some (.ref (b)), some (.int (Int32.ofNat k)), none, none], [.ref (b), .ref (b)], A)) rfl ?_
  refine rw_gf (v := .int (Int32.ofNat g)) h rfl rfl rfl rfl (rfl) rfl ?_
  refine wp_st 1 (f' := (128, [some (.ref (b)), some (.int (Int32.ofNat k)), none, none], [.int (Int32.ofNat k), .int (Int32.ofNat g), .ref (b)], A)) rfl ?_
  refine wp_cv (A' := A) (v := some (.long (Int64.ofNat (rf_b32 cs k g 0)))) rfl rfl rfl rfl rfl (show _ from h.1) (by omega) (rn_spell (show rf_tx (s) cs n from hx) (fun j a b => hl j (by omega) (by omega)) (by omega) h) rfl ?_
  show am_wp d 134 (131, [some (.ref (b)), some (.int (Int32.ofNat k)), none, none], [.long (Int64.ofNat (rf_b32 cs k g 0))], A) _
  refine wp_st 8 (f' := (145, [some (.ref (b)), some (.int (Int32.ofNat k)), some (.long (Int64.ofNat (rf_b32 cs k g 0))), none], [.int (Int32.ofNat 114), .int (Int32.ofNat 101), .int (Int32.ofNat 98), .int (Int32.ofNat 109), .int (Int32.ofNat 117), .int (Int32.ofNat 110), .long (Int64.ofNat (rf_b32 cs k g 0))], A)) rfl ?_
  refine wp_cs (n := 0) (A' := A) (v := some (.long (Int64.ofNat 492210354))) rfl rfl rfl (by omega) ((show am_go (d - 1) 136 [.int (Int32.ofNat 110), .int (Int32.ofNat 117), .int (Int32.ofNat 109), .int (Int32.ofNat 98), .int (Int32.ofNat 101), .int (Int32.ofNat 114)] A (.inl (some (.long (Int64.ofNat 492210354))), A) from rn_six (by omega) (by omega) (by omega) (by omega) (by omega) (by omega) (by omega))) rfl ?_
  show am_wp d 134 (148, [some (.ref (b)), some (.int (Int32.ofNat k)), some (.long (Int64.ofNat (rf_b32 cs k g 0))), none], [.long (Int64.ofNat 492210354), .long (Int64.ofNat (rf_b32 cs k g 0))], A) _
  refine wp_st 1 (f' := (149, [some (.ref (b)), some (.int (Int32.ofNat k)), some (.long (Int64.ofNat (rf_b32 cs k g 0))), none], [.int (lg_cmp (Int64.ofNat (rf_b32 cs k g 0)) (Int64.ofNat 492210354))], A)) rfl ?_
  refine wp_iz rfl rfl rfl (fun (h1 : (lg_cmp (Int64.ofNat (rf_b32 cs k g 0)) (Int64.ofNat 492210354)) ≠ (Int32.ofNat 0)) => ?_) (fun (h1 : ¬ ((lg_cmp (Int64.ofNat (rf_b32 cs k g 0)) (Int64.ofNat 492210354)) ≠ (Int32.ofNat 0))) => ?_)
  · skip
    have h1e : ¬ (rf_b32 cs k g 0) = 492210354 := fun e => h1 ((lg_cmp_eq _ _).mpr (congrArg Int64.ofNat e))
    refine wp_st 4 (f' := (161, [some (.ref (b)), some (.int (Int32.ofNat k)), some (.long (Int64.ofNat (rf_b32 cs k g 0))), none], [.int (Int32.ofNat 120), .int (Int32.ofNat 101), .int (Int32.ofNat 104), .long (Int64.ofNat (rf_b32 cs k g 0))], A)) rfl ?_
    refine wp_cs (n := 0) (A' := A) (v := some (.long (Int64.ofNat 8376))) rfl rfl rfl (by omega) ((show am_go (d - 1) 137 [.int (Int32.ofNat 104), .int (Int32.ofNat 101), .int (Int32.ofNat 120)] A (.inl (some (.long (Int64.ofNat 8376))), A) from rn_three (by omega) (by omega) (by omega) (by omega))) rfl ?_
    show am_wp d 134 (164, [some (.ref (b)), some (.int (Int32.ofNat k)), some (.long (Int64.ofNat (rf_b32 cs k g 0))), none], [.long (Int64.ofNat 8376), .long (Int64.ofNat (rf_b32 cs k g 0))], A) _
    refine wp_st 1 (f' := (165, [some (.ref (b)), some (.int (Int32.ofNat k)), some (.long (Int64.ofNat (rf_b32 cs k g 0))), none], [.int (lg_cmp (Int64.ofNat (rf_b32 cs k g 0)) (Int64.ofNat 8376))], A)) rfl ?_
    refine wp_iz rfl rfl rfl (fun (h2 : (lg_cmp (Int64.ofNat (rf_b32 cs k g 0)) (Int64.ofNat 8376)) ≠ (Int32.ofNat 0)) => ?_) (fun (h2 : ¬ ((lg_cmp (Int64.ofNat (rf_b32 cs k g 0)) (Int64.ofNat 8376)) ≠ (Int32.ofNat 0))) => ?_)
    · skip
      have h2e : ¬ (rf_b32 cs k g 0) = 8376 := fun e => h2 ((lg_cmp_eq _ _).mpr (congrArg Int64.ofNat e))
      refine wp_st 4 (f' := (177, [some (.ref (b)), some (.int (Int32.ofNat k)), some (.long (Int64.ofNat (rf_b32 cs k g 0))), none], [.int (Int32.ofNat 112), .int (Int32.ofNat 112), .int (Int32.ofNat 117), .long (Int64.ofNat (rf_b32 cs k g 0))], A)) rfl ?_
      refine wp_cs (n := 0) (A' := A) (v := some (.long (Int64.ofNat 22032))) rfl rfl rfl (by omega) ((show am_go (d - 1) 137 [.int (Int32.ofNat 117), .int (Int32.ofNat 112), .int (Int32.ofNat 112)] A (.inl (some (.long (Int64.ofNat 22032))), A) from rn_three (by omega) (by omega) (by omega) (by omega))) rfl ?_
      show am_wp d 134 (180, [some (.ref (b)), some (.int (Int32.ofNat k)), some (.long (Int64.ofNat (rf_b32 cs k g 0))), none], [.long (Int64.ofNat 22032), .long (Int64.ofNat (rf_b32 cs k g 0))], A) _
      refine wp_st 2 (f' := (184, [some (.ref (b)), some (.int (Int32.ofNat k)), some (.long (Int64.ofNat (rf_b32 cs k g 0))), none], [.long ((Int64.ofNat 22032) * (1024)), .long (Int64.ofNat (rf_b32 cs k g 0))], A)) rfl ?_
      rw [show (Int64.ofNat 22032) * (1024) = Int64.ofNat 22560768 from by decide]
      refine wp_st 2 (f' := (188, [some (.ref (b)), some (.int (Int32.ofNat k)), some (.long (Int64.ofNat (rf_b32 cs k g 0))), none], [.long ((Int64.ofNat 22560768) + (160)), .long (Int64.ofNat (rf_b32 cs k g 0))], A)) rfl ?_
      rw [show (Int64.ofNat 22560768) + (160) = Int64.ofNat 22560928 from by decide]
      refine wp_st 2 (f' := (192, [some (.ref (b)), some (.int (Int32.ofNat k)), some (.long (Int64.ofNat (rf_b32 cs k g 0))), none], [.long ((Int64.ofNat 22560928) + (18)), .long (Int64.ofNat (rf_b32 cs k g 0))], A)) rfl ?_
      rw [show (Int64.ofNat 22560928) + (18) = Int64.ofNat 22560946 from by decide]
      refine wp_st 1 (f' := (193, [some (.ref (b)), some (.int (Int32.ofNat k)), some (.long (Int64.ofNat (rf_b32 cs k g 0))), none], [.int (lg_cmp (Int64.ofNat (rf_b32 cs k g 0)) (Int64.ofNat 22560946))], A)) rfl ?_
      refine wp_iz rfl rfl rfl (fun (h3 : (lg_cmp (Int64.ofNat (rf_b32 cs k g 0)) (Int64.ofNat 22560946)) ≠ (Int32.ofNat 0)) => ?_) (fun (h3 : ¬ ((lg_cmp (Int64.ofNat (rf_b32 cs k g 0)) (Int64.ofNat 22560946)) ≠ (Int32.ofNat 0))) => ?_)
      · skip
        have h3e : ¬ (rf_b32 cs k g 0) = 22560946 := fun e => h3 ((lg_cmp_eq _ _).mpr (congrArg Int64.ofNat e))
        refine wp_st 7 (f' := (211, [some (.ref (b)), some (.int (Int32.ofNat k)), some (.long (Int64.ofNat (rf_b32 cs k g 0))), none], [.int (Int32.ofNat 108), .int (Int32.ofNat 97), .int (Int32.ofNat 114), .int (Int32.ofNat 117), .int (Int32.ofNat 108), .int (Int32.ofNat 112), .long (Int64.ofNat (rf_b32 cs k g 0))], A)) rfl ?_
        refine wp_cs (n := 0) (A' := A) (v := some (.long (Int64.ofNat 550160428))) rfl rfl rfl (by omega) ((show am_go (d - 1) 136 [.int (Int32.ofNat 112), .int (Int32.ofNat 108), .int (Int32.ofNat 117), .int (Int32.ofNat 114), .int (Int32.ofNat 97), .int (Int32.ofNat 108)] A (.inl (some (.long (Int64.ofNat 550160428))), A) from rn_six (by omega) (by omega) (by omega) (by omega) (by omega) (by omega) (by omega))) rfl ?_
        show am_wp d 134 (214, [some (.ref (b)), some (.int (Int32.ofNat k)), some (.long (Int64.ofNat (rf_b32 cs k g 0))), none], [.long (Int64.ofNat 550160428), .long (Int64.ofNat (rf_b32 cs k g 0))], A) _
        refine wp_st 1 (f' := (215, [some (.ref (b)), some (.int (Int32.ofNat k)), some (.long (Int64.ofNat (rf_b32 cs k g 0))), none], [.int (lg_cmp (Int64.ofNat (rf_b32 cs k g 0)) (Int64.ofNat 550160428))], A)) rfl ?_
        refine wp_iz rfl rfl rfl (fun (h4 : (lg_cmp (Int64.ofNat (rf_b32 cs k g 0)) (Int64.ofNat 550160428)) ≠ (Int32.ofNat 0)) => ?_) (fun (h4 : ¬ ((lg_cmp (Int64.ofNat (rf_b32 cs k g 0)) (Int64.ofNat 550160428)) ≠ (Int32.ofNat 0))) => ?_)
        · skip
          have h4e : ¬ (rf_b32 cs k g 0) = 550160428 := fun e => h4 ((lg_cmp_eq _ _).mpr (congrArg Int64.ofNat e))
          refine wp_st 7 (f' := (235, [some (.ref (b)), some (.int (Int32.ofNat k)), some (.long (Int64.ofNat (rf_b32 cs k g 0))), none], [.int (Int32.ofNat 116), .int (Int32.ofNat 99), .int (Int32.ofNat 101), .int (Int32.ofNat 108), .int (Int32.ofNat 101), .int (Int32.ofNat 115), .long (Int64.ofNat (rf_b32 cs k g 0))], A)) rfl ?_
          refine wp_cs (n := 0) (A' := A) (v := some (.long (Int64.ofNat 643175540))) rfl rfl rfl (by omega) ((show am_go (d - 1) 136 [.int (Int32.ofNat 115), .int (Int32.ofNat 101), .int (Int32.ofNat 108), .int (Int32.ofNat 101), .int (Int32.ofNat 99), .int (Int32.ofNat 116)] A (.inl (some (.long (Int64.ofNat 643175540))), A) from rn_six (by omega) (by omega) (by omega) (by omega) (by omega) (by omega) (by omega))) rfl ?_
          show am_wp d 134 (238, [some (.ref (b)), some (.int (Int32.ofNat k)), some (.long (Int64.ofNat (rf_b32 cs k g 0))), none], [.long (Int64.ofNat 643175540), .long (Int64.ofNat (rf_b32 cs k g 0))], A) _
          refine wp_st 1 (f' := (239, [some (.ref (b)), some (.int (Int32.ofNat k)), some (.long (Int64.ofNat (rf_b32 cs k g 0))), none], [.int (lg_cmp (Int64.ofNat (rf_b32 cs k g 0)) (Int64.ofNat 643175540))], A)) rfl ?_
          refine wp_iz rfl rfl rfl (fun (h5 : (lg_cmp (Int64.ofNat (rf_b32 cs k g 0)) (Int64.ofNat 643175540)) ≠ (Int32.ofNat 0)) => ?_) (fun (h5 : ¬ ((lg_cmp (Int64.ofNat (rf_b32 cs k g 0)) (Int64.ofNat 643175540)) ≠ (Int32.ofNat 0))) => ?_)
          · skip
            have h5e : ¬ (rf_b32 cs k g 0) = 643175540 := fun e => h5 ((lg_cmp_eq _ _).mpr (congrArg Int64.ofNat e))
            refine wp_st 1 (f' := (248, [some (.ref (b)), some (.int (Int32.ofNat k)), some (.long (Int64.ofNat (rf_b32 cs k g 0))), none], [.int ((-1))], A)) rfl ?_
            refine wp_rt rfl rfl rfl ?_
            rw [show rf_sn (rf_b32 cs k g 0) = -1 from by unfold rf_sn; rw [if_neg h1e, if_neg h2e, if_neg h3e, if_neg h4e, if_neg h5e]]
          · skip
            replace h5 := Decidable.not_not.mp h5
            have h5e : (rf_b32 cs k g 0) = 643175540 := (i64_eq (by omega) (by omega)).mp ((lg_cmp_eq _ _).mp h5)
            refine wp_st 2 (f' := (248, [some (.ref (b)), some (.int (Int32.ofNat k)), some (.long (Int64.ofNat (rf_b32 cs k g 0))), none], [.int (Int32.ofNat 6)], A)) rfl ?_
            refine wp_rt rfl rfl rfl ?_
            rw [show rf_sn (rf_b32 cs k g 0) = 6 from by unfold rf_sn; rw [if_neg h1e, if_neg h2e, if_neg h3e, if_neg h4e, if_pos h5e]]
            rfl
        · skip
          replace h4 := Decidable.not_not.mp h4
          have h4e : (rf_b32 cs k g 0) = 550160428 := (i64_eq (by omega) (by omega)).mp ((lg_cmp_eq _ _).mp h4)
          refine wp_st 2 (f' := (248, [some (.ref (b)), some (.int (Int32.ofNat k)), some (.long (Int64.ofNat (rf_b32 cs k g 0))), none], [.int (Int32.ofNat 4)], A)) rfl ?_
          refine wp_rt rfl rfl rfl ?_
          rw [show rf_sn (rf_b32 cs k g 0) = 4 from by unfold rf_sn; rw [if_neg h1e, if_neg h2e, if_neg h3e, if_pos h4e]]
          rfl
      · skip
        replace h3 := Decidable.not_not.mp h3
        have h3e : (rf_b32 cs k g 0) = 22560946 := (i64_eq (by omega) (by omega)).mp ((lg_cmp_eq _ _).mp h3)
        refine wp_st 1 (f' := (197, [some (.ref (b)), some (.int (Int32.ofNat k)), some (.long (Int64.ofNat (rf_b32 cs k g 0))), none], [.int (Int32.ofNat 3)], A)) rfl ?_
        refine wp_rt rfl rfl rfl ?_
        rw [show rf_sn (rf_b32 cs k g 0) = 3 from by unfold rf_sn; rw [if_neg h1e, if_neg h2e, if_pos h3e]]
        rfl
    · skip
      replace h2 := Decidable.not_not.mp h2
      have h2e : (rf_b32 cs k g 0) = 8376 := (i64_eq (by omega) (by omega)).mp ((lg_cmp_eq _ _).mp h2)
      refine wp_st 1 (f' := (169, [some (.ref (b)), some (.int (Int32.ofNat k)), some (.long (Int64.ofNat (rf_b32 cs k g 0))), none], [.int (Int32.ofNat 2)], A)) rfl ?_
      refine wp_rt rfl rfl rfl ?_
      rw [show rf_sn (rf_b32 cs k g 0) = 2 from by unfold rf_sn; rw [if_neg h1e, if_pos h2e]]
      rfl
  · skip
    replace h1 := Decidable.not_not.mp h1
    have h1e : (rf_b32 cs k g 0) = 492210354 := (i64_eq (by omega) (by omega)).mp ((lg_cmp_eq _ _).mp h1)
    refine wp_st 1 (f' := (153, [some (.ref (b)), some (.int (Int32.ofNat k)), some (.long (Int64.ofNat (rf_b32 cs k g 0))), none], [.int (Int32.ofNat 1)], A)) rfl ?_
    refine wp_rt rfl rfl rfl ?_
    rw [show rf_sn (rf_b32 cs k g 0) = 1 from by unfold rf_sn; rw [if_pos h1e]]
    rfl
theorem rn_sob {d b n g k : Nat} {w : Int32} {r : Int64} {cs : List Nat} {s : rf_S} {A : am_H} (hd : 2 ≤ d) (hx : rf_tx s cs n) (hl : sb_ltr cs g k) (hk : g + k ≤ n) (h : rf A b (rf_c s (g + k) w r g)) (hk6 : 6 < k) (hk13 : k ≠ 13) : am_go d 134 [.ref b] A (.inl (some (.int (-1))), A) := by
  have hn1 := hx.2.2.1
  refine wp_go ?_
  refine wp_st 1 (f' := (1, [some (.ref (b)), none, none, none], [.ref (b)], A)) rfl ?_
  refine rw_gf (v := .int (Int32.ofNat (g + k))) h rfl rfl rfl rfl (rfl) rfl ?_
  refine wp_st 1 (f' := (5, [some (.ref (b)), none, none, none], [.ref (b), .int (Int32.ofNat (g + k))], A)) rfl ?_
  refine rw_gf (v := .int (Int32.ofNat g)) h rfl rfl rfl rfl (rfl) rfl ?_
  refine wp_st 1 (f' := (9, [some (.ref (b)), none, none, none], [.int ((Int32.ofNat (g + k)) - (Int32.ofNat g))], A)) rfl ?_
  rw [i32_sub (a := g + k) (b := g) (by omega)]
  rw [Nat.add_sub_cancel_left]
  refine wp_st 3 (f' := (13, [some (.ref (b)), some (.int (Int32.ofNat k)), none, none], [.int (Int32.ofNat 13), .int (Int32.ofNat k)], A)) rfl ?_
  refine wp_ifT rfl (show am_tgt 13 (97) = 110 by decide +kernel) (fun q => absurd ((i32_eq (a := k) (b := 13) (by omega) (by omega)).mp q) (by omega)) ?_
  refine wp_st 2 (f' := (113, [some (.ref (b)), some (.int (Int32.ofNat k)), none, none], [.int (Int32.ofNat 6), .int (Int32.ofNat k)], A)) rfl ?_
  refine wp_ifF rfl rfl (fun q => absurd ((i32_le (a := k) (b := 6) (by omega) (by omega)).mp q) (by omega)) ?_
  refine wp_st 10 (f' := (145, [some (.ref (b)), some (.int (Int32.ofNat k)), some (.long ((-1))), none], [.int (Int32.ofNat 114), .int (Int32.ofNat 101), .int (Int32.ofNat 98), .int (Int32.ofNat 109), .int (Int32.ofNat 117), .int (Int32.ofNat 110), .long ((-1))], A)) rfl ?_
  refine wp_cs (n := 0) (A' := A) (v := some (.long (Int64.ofNat 492210354))) rfl rfl rfl (by omega) ((show am_go (d - 1) 136 [.int (Int32.ofNat 110), .int (Int32.ofNat 117), .int (Int32.ofNat 109), .int (Int32.ofNat 98), .int (Int32.ofNat 101), .int (Int32.ofNat 114)] A (.inl (some (.long (Int64.ofNat 492210354))), A) from rn_six (by omega) (by omega) (by omega) (by omega) (by omega) (by omega) (by omega))) rfl ?_
  show am_wp d 134 (148, [some (.ref (b)), some (.int (Int32.ofNat k)), some (.long ((-1))), none], [.long (Int64.ofNat 492210354), .long ((-1))], A) _
  refine wp_st 1 (f' := (149, [some (.ref (b)), some (.int (Int32.ofNat k)), some (.long ((-1))), none], [.int (lg_cmp (-1) (Int64.ofNat 492210354))], A)) rfl ?_
  refine wp_izT rfl rfl (show lg_cmp (-1) (Int64.ofNat 492210354) ≠ Int32.ofNat 0 from by decide) ?_
  refine wp_st 4 (f' := (161, [some (.ref (b)), some (.int (Int32.ofNat k)), some (.long ((-1))), none], [.int (Int32.ofNat 120), .int (Int32.ofNat 101), .int (Int32.ofNat 104), .long ((-1))], A)) rfl ?_
  refine wp_cs (n := 0) (A' := A) (v := some (.long (Int64.ofNat 8376))) rfl rfl rfl (by omega) ((show am_go (d - 1) 137 [.int (Int32.ofNat 104), .int (Int32.ofNat 101), .int (Int32.ofNat 120)] A (.inl (some (.long (Int64.ofNat 8376))), A) from rn_three (by omega) (by omega) (by omega) (by omega))) rfl ?_
  show am_wp d 134 (164, [some (.ref (b)), some (.int (Int32.ofNat k)), some (.long ((-1))), none], [.long (Int64.ofNat 8376), .long ((-1))], A) _
  refine wp_st 1 (f' := (165, [some (.ref (b)), some (.int (Int32.ofNat k)), some (.long ((-1))), none], [.int (lg_cmp (-1) (Int64.ofNat 8376))], A)) rfl ?_
  refine wp_izT rfl rfl (show lg_cmp (-1) (Int64.ofNat 8376) ≠ Int32.ofNat 0 from by decide) ?_
  refine wp_st 4 (f' := (177, [some (.ref (b)), some (.int (Int32.ofNat k)), some (.long ((-1))), none], [.int (Int32.ofNat 112), .int (Int32.ofNat 112), .int (Int32.ofNat 117), .long ((-1))], A)) rfl ?_
  refine wp_cs (n := 0) (A' := A) (v := some (.long (Int64.ofNat 22032))) rfl rfl rfl (by omega) ((show am_go (d - 1) 137 [.int (Int32.ofNat 117), .int (Int32.ofNat 112), .int (Int32.ofNat 112)] A (.inl (some (.long (Int64.ofNat 22032))), A) from rn_three (by omega) (by omega) (by omega) (by omega))) rfl ?_
  show am_wp d 134 (180, [some (.ref (b)), some (.int (Int32.ofNat k)), some (.long ((-1))), none], [.long (Int64.ofNat 22032), .long ((-1))], A) _
  refine wp_st 2 (f' := (184, [some (.ref (b)), some (.int (Int32.ofNat k)), some (.long ((-1))), none], [.long ((Int64.ofNat 22032) * (1024)), .long ((-1))], A)) rfl ?_
  rw [show (Int64.ofNat 22032) * (1024) = Int64.ofNat 22560768 from by decide]
  refine wp_st 2 (f' := (188, [some (.ref (b)), some (.int (Int32.ofNat k)), some (.long ((-1))), none], [.long ((Int64.ofNat 22560768) + (160)), .long ((-1))], A)) rfl ?_
  rw [show (Int64.ofNat 22560768) + (160) = Int64.ofNat 22560928 from by decide]
  refine wp_st 2 (f' := (192, [some (.ref (b)), some (.int (Int32.ofNat k)), some (.long ((-1))), none], [.long ((Int64.ofNat 22560928) + (18)), .long ((-1))], A)) rfl ?_
  rw [show (Int64.ofNat 22560928) + (18) = Int64.ofNat 22560946 from by decide]
  refine wp_st 1 (f' := (193, [some (.ref (b)), some (.int (Int32.ofNat k)), some (.long ((-1))), none], [.int (lg_cmp (-1) (Int64.ofNat 22560946))], A)) rfl ?_
  refine wp_izT rfl rfl (show lg_cmp (-1) (Int64.ofNat 22560946) ≠ Int32.ofNat 0 from by decide) ?_
  refine wp_st 7 (f' := (211, [some (.ref (b)), some (.int (Int32.ofNat k)), some (.long ((-1))), none], [.int (Int32.ofNat 108), .int (Int32.ofNat 97), .int (Int32.ofNat 114), .int (Int32.ofNat 117), .int (Int32.ofNat 108), .int (Int32.ofNat 112), .long ((-1))], A)) rfl ?_
  refine wp_cs (n := 0) (A' := A) (v := some (.long (Int64.ofNat 550160428))) rfl rfl rfl (by omega) ((show am_go (d - 1) 136 [.int (Int32.ofNat 112), .int (Int32.ofNat 108), .int (Int32.ofNat 117), .int (Int32.ofNat 114), .int (Int32.ofNat 97), .int (Int32.ofNat 108)] A (.inl (some (.long (Int64.ofNat 550160428))), A) from rn_six (by omega) (by omega) (by omega) (by omega) (by omega) (by omega) (by omega))) rfl ?_
  show am_wp d 134 (214, [some (.ref (b)), some (.int (Int32.ofNat k)), some (.long ((-1))), none], [.long (Int64.ofNat 550160428), .long ((-1))], A) _
  refine wp_st 1 (f' := (215, [some (.ref (b)), some (.int (Int32.ofNat k)), some (.long ((-1))), none], [.int (lg_cmp (-1) (Int64.ofNat 550160428))], A)) rfl ?_
  refine wp_izT rfl rfl (show lg_cmp (-1) (Int64.ofNat 550160428) ≠ Int32.ofNat 0 from by decide) ?_
  refine wp_st 7 (f' := (235, [some (.ref (b)), some (.int (Int32.ofNat k)), some (.long ((-1))), none], [.int (Int32.ofNat 116), .int (Int32.ofNat 99), .int (Int32.ofNat 101), .int (Int32.ofNat 108), .int (Int32.ofNat 101), .int (Int32.ofNat 115), .long ((-1))], A)) rfl ?_
  refine wp_cs (n := 0) (A' := A) (v := some (.long (Int64.ofNat 643175540))) rfl rfl rfl (by omega) ((show am_go (d - 1) 136 [.int (Int32.ofNat 115), .int (Int32.ofNat 101), .int (Int32.ofNat 108), .int (Int32.ofNat 101), .int (Int32.ofNat 99), .int (Int32.ofNat 116)] A (.inl (some (.long (Int64.ofNat 643175540))), A) from rn_six (by omega) (by omega) (by omega) (by omega) (by omega) (by omega) (by omega))) rfl ?_
  show am_wp d 134 (238, [some (.ref (b)), some (.int (Int32.ofNat k)), some (.long ((-1))), none], [.long (Int64.ofNat 643175540), .long ((-1))], A) _
  refine wp_st 1 (f' := (239, [some (.ref (b)), some (.int (Int32.ofNat k)), some (.long ((-1))), none], [.int (lg_cmp (-1) (Int64.ofNat 643175540))], A)) rfl ?_
  refine wp_izT rfl rfl (show lg_cmp (-1) (Int64.ofNat 643175540) ≠ Int32.ofNat 0 from by decide) ?_
  refine wp_st 1 (f' := (248, [some (.ref (b)), some (.int (Int32.ofNat k)), some (.long ((-1))), none], [.int ((-1))], A)) rfl ?_
  refine wp_rt rfl rfl rfl ?_
  rfl
def rf_s13 (cs : List Nat) (g : Nat) : Int32 := if rf_b32 cs 6 g 0 = 643175540 ∧ rf_b32 cs 6 (g + 6) 0 = 522331585 ∧ cs.getD (g + 12) 0 = 108 then 5 else -1
theorem rn_so13 {d b n g k : Nat} {w : Int32} {r : Int64} {cs : List Nat} {s : rf_S} {A : am_H} (hd : 2 ≤ d) (hx : rf_tx s cs n) (hl : sb_ltr cs g k) (hk : g + k ≤ n) (h : rf A b (rf_c s (g + k) w r g)) (hk13 : k = 13) : am_go d 134 [.ref b] A (.inl (some (.int (rf_s13 cs g))), A) := by
  have hn1 := hx.2.2.1
  have hlt := (rf_b32_ge (k := 6) (p := g) (fun j a b => hl j (by omega) (by omega))).2.2
  have hlt2 := (rf_b32_ge (k := 6) (p := g + 6) (fun j a b => hl j (by omega) (by omega))).2.2
  have hc12 := hl (g + 12) (by omega) (by omega)
  refine wp_go ?_
  refine wp_st 1 (f' := (1, [some (.ref (b)), none, none, none], [.ref (b)], A)) rfl ?_
  refine rw_gf (v := .int (Int32.ofNat (g + k))) h rfl rfl rfl rfl (rfl) rfl ?_
  refine wp_st 1 (f' := (5, [some (.ref (b)), none, none, none], [.ref (b), .int (Int32.ofNat (g + k))], A)) rfl ?_
  refine rw_gf (v := .int (Int32.ofNat g)) h rfl rfl rfl rfl (rfl) rfl ?_
  refine wp_st 1 (f' := (9, [some (.ref (b)), none, none, none], [.int ((Int32.ofNat (g + k)) - (Int32.ofNat g))], A)) rfl ?_
  rw [i32_sub (a := g + k) (b := g) (by omega)]
  rw [Nat.add_sub_cancel_left]
  refine wp_st 3 (f' := (13, [some (.ref (b)), some (.int (Int32.ofNat k)), none, none], [.int (Int32.ofNat 13), .int (Int32.ofNat k)], A)) rfl ?_
  refine wp_ifF rfl rfl (fun q => q ((i32_eq (a := k) (b := 13) (by omega) (by omega)).mpr (by omega))) ?_
  refine wp_st 2 (f' := (18, [some (.ref (b)), some (.int (Int32.ofNat k)), none, none], [.ref (b), .ref (b)], A)) rfl ?_
  refine rw_gf (v := .int (Int32.ofNat g)) h rfl rfl rfl rfl (rfl) rfl ?_
  refine wp_st 1 (f' := (23, [some (.ref (b)), some (.int (Int32.ofNat k)), none, none], [.int (Int32.ofNat 6), .int (Int32.ofNat g), .ref (b)], A)) rfl ?_
  refine wp_cv (A' := A) (v := some (.long (Int64.ofNat (rf_b32 cs 6 g 0)))) rfl rfl rfl rfl rfl (show _ from h.1) (by omega) (rn_spell (show rf_tx (s) cs n from hx) (fun j a b => hl j (by omega) (by omega)) (by omega) h) rfl ?_
  show am_wp d 134 (26, [some (.ref (b)), some (.int (Int32.ofNat k)), none, none], [.long (Int64.ofNat (rf_b32 cs 6 g 0))], A) _
  refine wp_st 6 (f' := (38, [some (.ref (b)), some (.int (Int32.ofNat k)), none, none], [.int (Int32.ofNat 116), .int (Int32.ofNat 99), .int (Int32.ofNat 101), .int (Int32.ofNat 108), .int (Int32.ofNat 101), .int (Int32.ofNat 115), .long (Int64.ofNat (rf_b32 cs 6 g 0))], A)) rfl ?_
  refine wp_cs (n := 0) (A' := A) (v := some (.long (Int64.ofNat 643175540))) rfl rfl rfl (by omega) ((show am_go (d - 1) 136 [.int (Int32.ofNat 115), .int (Int32.ofNat 101), .int (Int32.ofNat 108), .int (Int32.ofNat 101), .int (Int32.ofNat 99), .int (Int32.ofNat 116)] A (.inl (some (.long (Int64.ofNat 643175540))), A) from rn_six (by omega) (by omega) (by omega) (by omega) (by omega) (by omega) (by omega))) rfl ?_
  show am_wp d 134 (41, [some (.ref (b)), some (.int (Int32.ofNat k)), none, none], [.long (Int64.ofNat 643175540), .long (Int64.ofNat (rf_b32 cs 6 g 0))], A) _
  refine wp_st 1 (f' := (42, [some (.ref (b)), some (.int (Int32.ofNat k)), none, none], [.int (lg_cmp (Int64.ofNat (rf_b32 cs 6 g 0)) (Int64.ofNat 643175540))], A)) rfl ?_
  refine wp_iz rfl rfl rfl (fun (h1 : (lg_cmp (Int64.ofNat (rf_b32 cs 6 g 0)) (Int64.ofNat 643175540)) ≠ (Int32.ofNat 0)) => ?_) (fun (h1 : ¬ ((lg_cmp (Int64.ofNat (rf_b32 cs 6 g 0)) (Int64.ofNat 643175540)) ≠ (Int32.ofNat 0))) => ?_)
  · skip
    have h1e : ¬ (rf_b32 cs 6 g 0) = 643175540 := fun e => h1 ((lg_cmp_eq _ _).mpr (congrArg Int64.ofNat e))
    refine wp_st 3 (f' := (101, [some (.ref (b)), some (.int (Int32.ofNat k)), some (.int (Int32.ofNat 0)), none], [.int (Int32.ofNat 0)], A)) rfl ?_
    refine wp_izT rfl rfl (show (Int32.ofNat 0) = (Int32.ofNat 0) from by decide) ?_
    refine wp_st 1 (f' := (109, [some (.ref (b)), some (.int (Int32.ofNat k)), some (.int (Int32.ofNat 0)), none], [.int ((-1))], A)) rfl ?_
    refine wp_rt rfl rfl rfl ?_
    rw [show rf_s13 cs g = -1 from by unfold rf_s13; rw [if_neg (by omega)]]
  · skip
    replace h1 := Decidable.not_not.mp h1
    have h1e : (rf_b32 cs 6 g 0) = 643175540 := (i64_eq (by omega) (by omega)).mp ((lg_cmp_eq _ _).mp h1)
    refine wp_st 2 (f' := (47, [some (.ref (b)), some (.int (Int32.ofNat k)), none, none], [.ref (b), .ref (b)], A)) rfl ?_
    refine rw_gf (v := .int (Int32.ofNat g)) h rfl rfl rfl rfl (rfl) rfl ?_
    refine wp_st 2 (f' := (53, [some (.ref (b)), some (.int (Int32.ofNat k)), none, none], [.int ((Int32.ofNat g) + (Int32.ofNat 6)), .ref (b)], A)) rfl ?_
    rw [i32_add (g) (6)]
    refine wp_st 1 (f' := (55, [some (.ref (b)), some (.int (Int32.ofNat k)), none, none], [.int (Int32.ofNat 6), .int (Int32.ofNat (g + 6)), .ref (b)], A)) rfl ?_
    refine wp_cv (A' := A) (v := some (.long (Int64.ofNat (rf_b32 cs 6 (g + 6) 0)))) rfl rfl rfl rfl rfl (show _ from h.1) (by omega) (rn_spell (show rf_tx (s) cs n from hx) (fun j a b => hl j (by omega) (by omega)) (by omega) h) rfl ?_
    show am_wp d 134 (58, [some (.ref (b)), some (.int (Int32.ofNat k)), none, none], [.long (Int64.ofNat (rf_b32 cs 6 (g + 6) 0))], A) _
    refine wp_st 6 (f' := (70, [some (.ref (b)), some (.int (Int32.ofNat k)), none, none], [.int (Int32.ofNat 97), .int (Int32.ofNat 110), .int (Int32.ofNat 105), .int (Int32.ofNat 100), .int (Int32.ofNat 114), .int (Int32.ofNat 111), .long (Int64.ofNat (rf_b32 cs 6 (g + 6) 0))], A)) rfl ?_
    refine wp_cs (n := 0) (A' := A) (v := some (.long (Int64.ofNat 522331585))) rfl rfl rfl (by omega) ((show am_go (d - 1) 136 [.int (Int32.ofNat 111), .int (Int32.ofNat 114), .int (Int32.ofNat 100), .int (Int32.ofNat 105), .int (Int32.ofNat 110), .int (Int32.ofNat 97)] A (.inl (some (.long (Int64.ofNat 522331585))), A) from rn_six (by omega) (by omega) (by omega) (by omega) (by omega) (by omega) (by omega))) rfl ?_
    show am_wp d 134 (73, [some (.ref (b)), some (.int (Int32.ofNat k)), none, none], [.long (Int64.ofNat 522331585), .long (Int64.ofNat (rf_b32 cs 6 (g + 6) 0))], A) _
    refine wp_st 1 (f' := (74, [some (.ref (b)), some (.int (Int32.ofNat k)), none, none], [.int (lg_cmp (Int64.ofNat (rf_b32 cs 6 (g + 6) 0)) (Int64.ofNat 522331585))], A)) rfl ?_
    refine wp_iz rfl rfl rfl (fun (h2 : (lg_cmp (Int64.ofNat (rf_b32 cs 6 (g + 6) 0)) (Int64.ofNat 522331585)) ≠ (Int32.ofNat 0)) => ?_) (fun (h2 : ¬ ((lg_cmp (Int64.ofNat (rf_b32 cs 6 (g + 6) 0)) (Int64.ofNat 522331585)) ≠ (Int32.ofNat 0))) => ?_)
    · skip
      have h2e : ¬ (rf_b32 cs 6 (g + 6) 0) = 522331585 := fun e => h2 ((lg_cmp_eq _ _).mpr (congrArg Int64.ofNat e))
      refine wp_st 3 (f' := (101, [some (.ref (b)), some (.int (Int32.ofNat k)), some (.int (Int32.ofNat 0)), none], [.int (Int32.ofNat 0)], A)) rfl ?_
      refine wp_izT rfl rfl (show (Int32.ofNat 0) = (Int32.ofNat 0) from by decide) ?_
      refine wp_st 1 (f' := (109, [some (.ref (b)), some (.int (Int32.ofNat k)), some (.int (Int32.ofNat 0)), none], [.int ((-1))], A)) rfl ?_
      refine wp_rt rfl rfl rfl ?_
      rw [show rf_s13 cs g = -1 from by unfold rf_s13; rw [if_neg (by omega)]]
    · skip
      replace h2 := Decidable.not_not.mp h2
      have h2e : (rf_b32 cs 6 (g + 6) 0) = 522331585 := (i64_eq (by omega) (by omega)).mp ((lg_cmp_eq _ _).mp h2)
      refine wp_st 1 (f' := (78, [some (.ref (b)), some (.int (Int32.ofNat k)), none, none], [.ref (b)], A)) rfl ?_
      refine rw_gr h rfl rfl rfl rfl rfl rfl ?_
      refine wp_st 1 (f' := (82, [some (.ref (b)), some (.int (Int32.ofNat k)), none, none], [.ref (b), .ref (b + 1)], A)) rfl ?_
      refine rw_gf (v := .int (Int32.ofNat g)) h rfl rfl rfl rfl (rfl) rfl ?_
      refine wp_st 2 (f' := (88, [some (.ref (b)), some (.int (Int32.ofNat k)), none, none], [.int ((Int32.ofNat g) + (Int32.ofNat 12)), .ref (b + 1)], A)) rfl ?_
      rw [i32_add (g) (12)]
      refine rw_al (j := 2) (n := g + 12) (v := .int (Int32.ofNat (cs.getD (g + 12) 0))) h rfl rfl rfl (Or.inl ⟨rfl, rfl⟩) rfl (show _ < 120 from by omega) (hx.2.1 (g + 12) (by omega)) rfl ?_
      refine wp_st 1 (f' := (91, [some (.ref (b)), some (.int (Int32.ofNat k)), none, none], [.int (Int32.ofNat 108), .int (Int32.ofNat (cs.getD (g + 12) 0))], A)) rfl ?_
      refine wp_if rfl rfl rfl (fun (h3 : (Int32.ofNat (cs.getD (g + 12) 0)) ≠ (Int32.ofNat 108)) => ?_) (fun (h3 : ¬ ((Int32.ofNat (cs.getD (g + 12) 0)) ≠ (Int32.ofNat 108))) => ?_)
      · skip
        rw [ne_eq, i32_eq (by omega) (by omega)] at h3
        refine wp_st 3 (f' := (101, [some (.ref (b)), some (.int (Int32.ofNat k)), some (.int (Int32.ofNat 0)), none], [.int (Int32.ofNat 0)], A)) rfl ?_
        refine wp_izT rfl rfl (show (Int32.ofNat 0) = (Int32.ofNat 0) from by decide) ?_
        refine wp_st 1 (f' := (109, [some (.ref (b)), some (.int (Int32.ofNat k)), some (.int (Int32.ofNat 0)), none], [.int ((-1))], A)) rfl ?_
        refine wp_rt rfl rfl rfl ?_
        rw [show rf_s13 cs g = -1 from by unfold rf_s13; rw [if_neg (by omega)]]
      · skip
        rw [ne_eq, i32_eq (by omega) (by omega)] at h3
        replace h3 := Decidable.not_not.mp h3
        refine wp_st 4 (f' := (101, [some (.ref (b)), some (.int (Int32.ofNat k)), some (.int (Int32.ofNat 1)), none], [.int (Int32.ofNat 1)], A)) rfl ?_
        refine wp_izF rfl rfl (show ¬ ((Int32.ofNat 1) = (Int32.ofNat 0)) from by decide) ?_
        refine wp_st 2 (f' := (109, [some (.ref (b)), some (.int (Int32.ofNat k)), some (.int (Int32.ofNat 1)), none], [.int (Int32.ofNat 5)], A)) rfl ?_
        refine wp_rt rfl rfl rfl ?_
        rw [show rf_s13 cs g = 5 from by unfold rf_s13; rw [if_pos (by omega)]]
        rfl
theorem rn_sort {d b n g k : Nat} {w : Int32} {r : Int64} {cs : List Nat} {s : rf_S} {A : am_H} (hd : 2 ≤ d) (hx : rf_tx s cs n) (hl : sb_ltr cs g k) (hk : g + k ≤ n) (h : rf A b (rf_c s (g + k) w r g)) : am_go d 134 [.ref b] A (.inl (some (.int (rf_so (rd_kind cs g (g + k))))), A) := by
  by_cases h6 : k ≤ 6
  · rw [← rf_sn_k hl h6]
    exact rn_so6 hd hx hl hk h h6
  · by_cases h13 : k = 13
    · have e := rn_so13 hd hx hl hk h h13
      subst h13
      rw [rd_kind_13]
      have e1 : rf_b32 cs 6 g 0 = 643175540 ↔ rd_is cs rd_W6 g (g + 6) = true := (rf_six (fun j a b => hl j (by omega) (by omega)) (by omega) (by omega) (by omega) (by omega) (by omega) (by omega) (v0 := 115) (v1 := 101) (v2 := 108) (v3 := 101) (v4 := 99) (v5 := 116)).trans rd_is6.symm
      have e2 : rf_b32 cs 6 (g + 6) 0 = 522331585 ↔ rd_is cs [111, 114, 100, 105, 110, 97] (g + 6) (g + 6 + 6) = true := (rf_six (fun j a b => hl j (by omega) (by omega)) (by omega) (by omega) (by omega) (by omega) (by omega) (by omega) (v0 := 111) (v1 := 114) (v2 := 100) (v3 := 105) (v4 := 110) (v5 := 97)).trans rd_is6.symm
      unfold rf_s13 at e
      by_cases q : rd_is cs rd_W8 g (g + 13) = true
      · rw [if_pos q]
        rw [if_pos (show _ from ⟨e1.mpr (rd_is13.mp q).1, e2.mpr (rd_is13.mp q).2.1, (rd_is13.mp q).2.2⟩)] at e
        exact e
      · rw [if_neg q]
        rw [if_neg (fun z => q (rd_is13.mpr ⟨e1.mp z.1, e2.mp z.2.1, z.2.2⟩))] at e
        exact e
    · rw [rd_kind_k (by omega) (by omega) (by omega) h13]
      exact rn_sob hd hx hl hk h (by omega) h13
