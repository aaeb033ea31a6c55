/-! The reference: selectorOf, categoryName. -/
def rf_sq (acc : Nat) (l : List Nat) : Int64 := if sb_all 97 122 l = true then (if rf_fb acc l = 0 then -1 else Int64.ofNat (rf_fb acc l)) else -1
theorem rf_sq_c {acc c : Nat} {l : List Nat} (h : 97 ≤ c ∧ c ≤ 122) : rf_sq acc (c :: l) = rf_sq (32 * acc + (c - 96)) l := by
  unfold rf_sq
  rw [sb_all_c, decide_eq_true h.1, decide_eq_true h.2, rf_fb_c]
  rfl
theorem rf_sq_n {acc c : Nat} {l : List Nat} (h : ¬ (97 ≤ c ∧ c ≤ 122)) : rf_sq acc (c :: l) = -1 := by
  unfold rf_sq
  rw [sb_all_c, show (decide (97 ≤ c) && decide (c ≤ 122)) = false by simp; omega]
  rfl
theorem rn_sy_l {d N : Nat} {A : am_H} (hd : 1 ≤ d) (hN : N < 2147483648) : ∀ (k acc : Nat) (b5 : Option Value), k ≤ 4 → acc < 32 ^ (4 - k) → am_wp d 171 (6, [some (.long (Int64.ofNat N)), none, some (.long (Int64.ofNat acc)), none, some (.int (sb_sh k)), b5], [], A) (fun q => q = (.inl (some (.long (rf_sq acc (sb_bl (Int32.ofNat N) k)))), A)) := by
  intro k
  induction k with
  | zero =>
    intro acc b5 hk hacc
    have hacc2 : acc < 32 ^ 4 := hacc
    refine wp_st 1 (f' := (8, [some (.long (Int64.ofNat N)), none, some (.long (Int64.ofNat acc)), none, some (.int (sb_sh 0)), b5], [.int (sb_sh 0)], A)) rfl ?_
    refine wp_izT rfl rfl (sb_sh_z) ?_
    refine wp_st 3 (f' := (62, [some (.long (Int64.ofNat N)), none, some (.long (Int64.ofNat acc)), none, some (.int (sb_sh 0)), b5], [.int (lg_cmp (Int64.ofNat acc) (Int64.ofNat 0))], A)) rfl ?_
    refine wp_iz rfl rfl rfl (fun (h1 : (lg_cmp (Int64.ofNat acc) (Int64.ofNat 0)) ≠ (Int32.ofNat 0)) => ?_) (fun (h1 : ¬ ((lg_cmp (Int64.ofNat acc) (Int64.ofNat 0)) ≠ (Int32.ofNat 0))) => ?_)
    · skip
      refine wp_st 1 (f' := (72, [some (.long (Int64.ofNat N)), none, some (.long (Int64.ofNat acc)), none, some (.int (sb_sh 0)), b5], [.long (Int64.ofNat acc)], A)) rfl ?_
      refine wp_rt rfl rfl rfl ?_
      rw [sb_bl, rf_sq, if_pos (show sb_all 97 122 [] = true from rfl), rf_fb_n]
      have hz : ¬ Int64.ofNat acc = Int64.ofNat 0 := fun q => h1 ((lg_cmp_eq _ _).mpr q)
      rw [i64_eq (by omega) (by omega)] at hz
      rw [if_neg hz]
    · skip
      replace h1 := Decidable.not_not.mp h1
      refine wp_st 2 (f' := (72, [some (.long (Int64.ofNat N)), none, some (.long (Int64.ofNat acc)), none, some (.int (sb_sh 0)), b5], [.long ((-1))], A)) rfl ?_
      refine wp_rt rfl rfl rfl ?_
      rw [sb_bl, rf_sq, if_pos (show sb_all 97 122 [] = true from rfl), rf_fb_n]
      have hz := (lg_cmp_eq (Int64.ofNat acc) (Int64.ofNat 0)).mp h1
      rw [i64_eq (by omega) (by omega)] at hz
      rw [if_pos hz]
  | succ k ih =>
    intro acc b5 hk hacc
    obtain ⟨c, hc⟩ : ∃ c, c = N / 2 ^ (8 * k) % 256 := ⟨_, rfl⟩
    have hby : sb_by (Int32.ofNat N) (8 * k) = c := by rw [sb_by_n hN, hc]
    have hdl : N / 2 ^ (8 * k) ≤ N := Nat.div_le_self _ _
    have hcl : c < 256 := by rw [hc]; exact Nat.mod_lt _ (by decide)
    have hp : 32 ^ (4 - k) = 32 * 32 ^ (4 - (k + 1)) := by rw [show 4 - k = 4 - (k + 1) + 1 by omega, Nat.pow_succ, Nat.mul_comm]
    rw [sb_sh_s]
    refine wp_st 1 (f' := (8, [some (.long (Int64.ofNat N)), none, some (.long (Int64.ofNat acc)), none, some (.int (Int32.ofNat (8 * k))), b5], [.int (Int32.ofNat (8 * k))], A)) rfl ?_
    refine wp_izF rfl rfl (Int32.ofNat_not_neg (by omega)) ?_
    refine wp_st 3 (f' := (15, [some (.long (Int64.ofNat N)), none, some (.long (Int64.ofNat acc)), none, some (.int (Int32.ofNat (8 * k))), b5], [.long ((Int64.ofNat N) >>> ((Int32.ofNat (8 * k)).toInt64 &&& 63))], A)) rfl ?_
    rw [i64_shr (by omega) (by omega)]
    refine wp_st 2 (f' := (19, [some (.long (Int64.ofNat N)), none, some (.long (Int64.ofNat acc)), none, some (.int (Int32.ofNat (8 * k))), b5], [.long ((Int64.ofNat (N / 2 ^ (8 * k))) &&& (255))], A)) rfl ?_
    rw [show Int64.ofNat (N / 2 ^ (8 * k)) &&& (255) = Int64.ofNat c from by rw [hc]; exact i64_and (m := 8) (by omega) (by omega)]
    refine wp_st 1 (f' := (20, [some (.long (Int64.ofNat N)), none, some (.long (Int64.ofNat acc)), none, some (.int (Int32.ofNat (8 * k))), b5], [.int ((Int64.ofNat c).toInt32)], A)) rfl ?_
    rw [i64_i32]
    refine wp_st 2 (f' := (24, [some (.long (Int64.ofNat N)), none, some (.long (Int64.ofNat acc)), none, some (.int (Int32.ofNat (8 * k))), some (.int (Int32.ofNat c))], [.int (Int32.ofNat c)], A)) rfl ?_
    refine wp_iz rfl rfl rfl (fun (h1 : (Int32.ofNat c) = (Int32.ofNat 0)) => ?_) (fun (h1 : ¬ ((Int32.ofNat c) = (Int32.ofNat 0))) => ?_)
    · skip
      rw [i32_eq (by omega) (by omega)] at h1
      refine wp_st 2 (f' := (6, [some (.long (Int64.ofNat N)), none, some (.long (Int64.ofNat acc)), none, some (.int ((Int32.ofNat (8 * k)) + (-8))), some (.int (Int32.ofNat c))], [], A)) rfl ?_
      rw [show Int32.ofNat (8 * k) + (-8) = sb_sh k from rfl]
      rw [sb_bl_z (hby.trans h1)]
      exact ih acc _ (by omega) (by omega)
    · skip
      rw [i32_eq (by omega) (by omega)] at h1
      refine wp_st 1 (f' := (29, [some (.long (Int64.ofNat N)), none, some (.long (Int64.ofNat acc)), none, some (.int (Int32.ofNat (8 * k))), some (.int (Int32.ofNat c))], [.int (Int32.ofNat c)], A)) rfl ?_
      by_cases hlt : 97 ≤ c ∧ c ≤ 122
      · skip
        refine wp_cs (n := 0) (A' := A) (v := some (.int (Int32.ofNat 1))) rfl rfl rfl (by omega) (by have e := lt_go (d := d - 1) (x := Int32.ofNat c) (A := A); rw [sb_rng_t hlt.1 hlt.2 (by omega)] at e; exact e) rfl ?_
        show am_wp d 171 (32, [some (.long (Int64.ofNat N)), none, some (.long (Int64.ofNat acc)), none, some (.int (Int32.ofNat (8 * k))), some (.int (Int32.ofNat c))], [.int (Int32.ofNat 1)], A) _
        refine wp_izT rfl rfl (show (Int32.ofNat 1) ≠ (Int32.ofNat 0) from by decide) ?_
        refine wp_st 3 (f' := (44, [some (.long (Int64.ofNat N)), none, some (.long (Int64.ofNat acc)), none, some (.int (Int32.ofNat (8 * k))), some (.int (Int32.ofNat c))], [.long ((32) * (Int64.ofNat acc))], A)) rfl ?_
        rw [show (32) * Int64.ofNat acc = Int64.ofNat (32 * acc) from (Int64.ofNat_mul 32 acc).symm]
        refine wp_st 2 (f' := (47, [some (.long (Int64.ofNat N)), none, some (.long (Int64.ofNat acc)), none, some (.int (Int32.ofNat (8 * k))), some (.int (Int32.ofNat c))], [.long ((Int32.ofNat c).toInt64), .long (Int64.ofNat (32 * acc))], A)) rfl ?_
        rw [i64_of (by omega)]
        refine wp_st 1 (f' := (48, [some (.long (Int64.ofNat N)), none, some (.long (Int64.ofNat acc)), none, some (.int (Int32.ofNat (8 * k))), some (.int (Int32.ofNat c))], [.long ((Int64.ofNat (32 * acc)) + (Int64.ofNat c))], A)) rfl ?_
        rw [(Int64.ofNat_add (32 * acc) c).symm]
        refine wp_st 2 (f' := (52, [some (.long (Int64.ofNat N)), none, some (.long (Int64.ofNat acc)), none, some (.int (Int32.ofNat (8 * k))), some (.int (Int32.ofNat c))], [.long ((Int64.ofNat (32 * acc + c)) - (96))], A)) rfl ?_
        rw [show Int64.ofNat (32 * acc + c) - (96) = Int64.ofNat (32 * acc + (c - 96)) from by rw [show (96 : Int64) = Int64.ofNat 96 from rfl, i64_sub (by omega), show 32 * acc + c - 96 = 32 * acc + (c - 96) by omega]]
        refine wp_st 3 (f' := (6, [some (.long (Int64.ofNat N)), none, some (.long (Int64.ofNat (32 * acc + (c - 96)))), none, some (.int ((Int32.ofNat (8 * k)) + (-8))), some (.int (Int32.ofNat c))], [], A)) rfl ?_
        rw [show Int32.ofNat (8 * k) + (-8) = sb_sh k from rfl]
        rw [sb_bl_s (fun q => h1 (hby.symm.trans q)), hby, rf_sq_c hlt]
        exact ih (32 * acc + (c - 96)) _ (by omega) (by omega)
      · skip
        refine wp_cs (n := 0) (A' := A) (v := some (.int (Int32.ofNat 0))) rfl rfl rfl (by omega) (by have e := lt_go (d := d - 1) (x := Int32.ofNat c) (A := A); rw [sb_rng_f hlt (by omega) (by omega) (by omega)] at e; exact e) rfl ?_
        show am_wp d 171 (32, [some (.long (Int64.ofNat N)), none, some (.long (Int64.ofNat acc)), none, some (.int (Int32.ofNat (8 * k))), some (.int (Int32.ofNat c))], [.int (Int32.ofNat 0)], A) _
        refine wp_izF rfl rfl (show ¬ ((Int32.ofNat 0) ≠ (Int32.ofNat 0)) from by decide) ?_
        refine wp_st 1 (f' := (38, [some (.long (Int64.ofNat N)), none, some (.long (Int64.ofNat acc)), none, some (.int (Int32.ofNat (8 * k))), some (.int (Int32.ofNat c))], [.long ((-1))], A)) rfl ?_
        refine wp_rt rfl rfl rfl ?_
        rw [sb_bl_s (fun q => h1 (hby.symm.trans q)), hby, rf_sq_n hlt]
theorem rn_sy {d N : Nat} {A : am_H} (hd : 1 ≤ d) (hN : N < 2147483648) : am_go d 171 [.long (Int64.ofNat N)] A (.inl (some (.long (rf_sq 0 (sb_bl (Int32.ofNat N) 4)))), A) := by
  refine wp_go ?_
  refine wp_st 4 (f' := (6, [some (.long (Int64.ofNat N)), none, some (.long (Int64.ofNat 0)), none, some (.int (Int32.ofNat 24)), none], [], A)) rfl ?_
  exact rn_sy_l hd hN 4 0 none (by omega) (by decide)
