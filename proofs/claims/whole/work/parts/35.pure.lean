/-! Methods that touch no heap. -/
theorem pb_l {d lo hi : Nat} {w : Int32} {A : am_H} (hlo : lo < 128) (hhi : hi < 128) : ∀ (k : Nat) (p : Int32) (b5 : Option Value), k ≤ 4 → am_wp d 9 (6, [some (.int w), some (.int (Int32.ofNat lo)), some (.int (Int32.ofNat hi)), some (.int p), some (.int (sb_sh k)), b5], [], A) (fun q => q = (.inl (some (.int (bif sb_all lo hi (sb_bl w k) then sb_fp p (sb_bl w k) else -1))), A)) := by
  intro k
  induction k with
  | zero =>
    intro p b5 hk
    refine wp_st 1 (f' := (8, [some (.int (w)), some (.int (Int32.ofNat lo)), some (.int (Int32.ofNat hi)), some (.int (p)), some (.int (sb_sh 0)), b5], [.int (sb_sh 0)], A)) rfl ?_
    refine wp_izT rfl rfl (sb_sh_z) ?_
    refine wp_st 1 (f' := (55, [some (.int (w)), some (.int (Int32.ofNat lo)), some (.int (Int32.ofNat hi)), some (.int (p)), some (.int (sb_sh 0)), b5], [.int (p)], A)) rfl ?_
    refine wp_rt rfl rfl rfl ?_
    rfl
  | succ k ih =>
    intro p b5 hk
    have hby := sb_by_lt w (8 * k)
    rw [sb_sh_s]
    refine wp_st 1 (f' := (8, [some (.int (w)), some (.int (Int32.ofNat lo)), some (.int (Int32.ofNat hi)), some (.int (p)), some (.int (Int32.ofNat (8 * k))), b5], [.int (Int32.ofNat (8 * k))], A)) rfl ?_
    refine wp_izF rfl rfl (Int32.ofNat_not_neg (by omega)) ?_
    refine wp_st 5 (f' := (19, [some (.int (w)), some (.int (Int32.ofNat lo)), some (.int (Int32.ofNat hi)), some (.int (p)), some (.int (Int32.ofNat (8 * k))), b5], [.int (((w.toUInt32 >>> ((Int32.ofNat (8 * k)).toUInt32 &&& Int32.toUInt32 31)).toInt32) &&& (Int32.ofNat 255))], A)) rfl ?_
    rw [sb_ush (w := w) (k := 8 * k) (by omega)]
    refine wp_st 2 (f' := (23, [some (.int (w)), some (.int (Int32.ofNat lo)), some (.int (Int32.ofNat hi)), some (.int (p)), some (.int (Int32.ofNat (8 * k))), some (.int (Int32.ofNat (sb_by w (8 * k))))], [.int (Int32.ofNat (sb_by w (8 * k)))], A)) rfl ?_
    refine wp_iz rfl rfl rfl (fun (h1 : (Int32.ofNat (sb_by w (8 * k))) = (Int32.ofNat 0)) => ?_) (fun (h1 : ¬ ((Int32.ofNat (sb_by w (8 * k))) = (Int32.ofNat 0))) => ?_)
    · skip
      rw [i32_eq (by omega) (by omega)] at h1
      refine wp_st 2 (f' := (6, [some (.int (w)), some (.int (Int32.ofNat lo)), some (.int (Int32.ofNat hi)), some (.int (p)), some (.int ((Int32.ofNat (8 * k)) + (-8))), some (.int (Int32.ofNat (sb_by w (8 * k))))], [], A)) rfl ?_
      have h9 := ih p (some (.int (Int32.ofNat (sb_by w (8 * k))))) (by omega)
      rw [sb_bl_z (by omega)]
      exact h9
    · skip
      rw [i32_eq (by omega) (by omega)] at h1
      refine wp_st 2 (f' := (29, [some (.int (w)), some (.int (Int32.ofNat lo)), some (.int (Int32.ofNat hi)), some (.int (p)), some (.int (Int32.ofNat (8 * k))), some (.int (Int32.ofNat (sb_by w (8 * k))))], [.int (Int32.ofNat lo), .int (Int32.ofNat (sb_by w (8 * k)))], A)) rfl ?_
      refine wp_if rfl rfl rfl (fun (h2 : (Int32.ofNat (sb_by w (8 * k))) < (Int32.ofNat lo)) => ?_) (fun (h2 : ¬ ((Int32.ofNat (sb_by w (8 * k))) < (Int32.ofNat lo))) => ?_)
      · skip
        rw [i32_lt (by omega) (by omega)] at h2
        refine wp_st 1 (f' := (39, [some (.int (w)), some (.int (Int32.ofNat lo)), some (.int (Int32.ofNat hi)), some (.int (p)), some (.int (Int32.ofNat (8 * k))), some (.int (Int32.ofNat (sb_by w (8 * k))))], [.int ((-1))], A)) rfl ?_
        refine wp_rt rfl rfl rfl ?_
        rw [sb_bl_s (by omega), show sb_all lo hi (sb_by w (8 * k) :: sb_bl w k) = false from by simp only [sb_all, List.all_cons]; rw [show (decide (lo ≤ sb_by w (8 * k)) && decide (sb_by w (8 * k) ≤ hi)) = false from by simp; omega]; rfl]
        rfl
      · skip
        rw [i32_lt (by omega) (by omega)] at h2
        refine wp_st 2 (f' := (35, [some (.int (w)), some (.int (Int32.ofNat lo)), some (.int (Int32.ofNat hi)), some (.int (p)), some (.int (Int32.ofNat (8 * k))), some (.int (Int32.ofNat (sb_by w (8 * k))))], [.int (Int32.ofNat hi), .int (Int32.ofNat (sb_by w (8 * k)))], A)) rfl ?_
        refine wp_if rfl rfl rfl (fun (h3 : (Int32.ofNat (sb_by w (8 * k))) ≤ (Int32.ofNat hi)) => ?_) (fun (h3 : ¬ ((Int32.ofNat (sb_by w (8 * k))) ≤ (Int32.ofNat hi))) => ?_)
        · skip
          rw [i32_le (by omega) (by omega)] at h3
          refine wp_st 8 (f' := (6, [some (.int (w)), some (.int (Int32.ofNat lo)), some (.int (Int32.ofNat hi)), some (.int ((p <<< ((Int32.ofNat 8) &&& 31)) ||| (Int32.ofNat (sb_by w (8 * k))))), some (.int ((Int32.ofNat (8 * k)) + (-8))), some (.int (Int32.ofNat (sb_by w (8 * k))))], [], A)) rfl ?_
          have h9 := ih (p <<< (Int32.ofNat 8 &&& 31) ||| Int32.ofNat (sb_by w (8 * k))) (some (.int (Int32.ofNat (sb_by w (8 * k))))) (by omega)
          rw [sb_bl_s (by omega), show sb_all lo hi (sb_by w (8 * k) :: sb_bl w k) = sb_all lo hi (sb_bl w k) from by simp only [sb_all, List.all_cons]; rw [show (decide (lo ≤ sb_by w (8 * k)) && decide (sb_by w (8 * k) ≤ hi)) = true from by simp; omega]; rfl]
          exact h9
        · skip
          rw [i32_le (by omega) (by omega)] at h3
          refine wp_st 1 (f' := (39, [some (.int (w)), some (.int (Int32.ofNat lo)), some (.int (Int32.ofNat hi)), some (.int (p)), some (.int (Int32.ofNat (8 * k))), some (.int (Int32.ofNat (sb_by w (8 * k))))], [.int ((-1))], A)) rfl ?_
          refine wp_rt rfl rfl rfl ?_
          rw [sb_bl_s (by omega), show sb_all lo hi (sb_by w (8 * k) :: sb_bl w k) = false from by simp only [sb_all, List.all_cons]; rw [show (decide (lo ≤ sb_by w (8 * k)) && decide (sb_by w (8 * k) ≤ hi)) = false from by simp; omega]; rfl]
          rfl
theorem pb_go {d lo hi : Nat} {w : Int32} {A : am_H} (hlo : lo < 128) (hhi : hi < 128) : am_go d 9 [.int w, .int (Int32.ofNat lo), .int (Int32.ofNat hi)] A (.inl (some (.int (bif sb_all lo hi (sb_bl w 4) then sb_fp 0 (sb_bl w 4) else -1))), A) := by
  refine wp_go ?_
  refine wp_st 4 (f' := (6, [some (.int (w)), some (.int (Int32.ofNat lo)), some (.int (Int32.ofNat hi)), some (.int (Int32.ofNat 0)), some (.int (Int32.ofNat 24)), none], [], A)) rfl ?_
  exact pb_l hlo hhi 4 0 none (by omega)
theorem pn_go {d : Nat} {w : Int32} {A : am_H} (hd : 1 ≤ d) : am_go d 15 [.int w] A (.inl (some (.int (sb_pn w))), A) := by
  refine wp_go ?_
  refine wp_st 3 (f' := (5, [some (.int (w)), none], [.int (Int32.ofNat 122), .int (Int32.ofNat 97), .int (w)], A)) rfl ?_
  refine wp_cs (n := 0) (A' := A) (v := some (.int (bif sb_all 97 122 (sb_bl w 4) then sb_fp 0 (sb_bl w 4) else -1))) rfl rfl rfl (by omega) (pb_go (by omega) (by omega)) rfl ?_
  show am_wp d 15 (8, [some (.int (w)), none], [.int (bif sb_all 97 122 (sb_bl w 4) then sb_fp 0 (sb_bl w 4) else -1)], A) _
  refine wp_st 2 (f' := (10, [some (.int (w)), some (.int (bif sb_all 97 122 (sb_bl w 4) then sb_fp 0 (sb_bl w 4) else -1))], [.int (bif sb_all 97 122 (sb_bl w 4) then sb_fp 0 (sb_bl w 4) else -1)], A)) rfl ?_
  refine wp_iz rfl rfl rfl (fun (h1 : (bif sb_all 97 122 (sb_bl w 4) then sb_fp 0 (sb_bl w 4) else -1) ≠ (Int32.ofNat 0)) => ?_) (fun (h1 : ¬ ((bif sb_all 97 122 (sb_bl w 4) then sb_fp 0 (sb_bl w 4) else -1) ≠ (Int32.ofNat 0))) => ?_)
  · skip
    refine wp_st 1 (f' := (18, [some (.int (w)), some (.int (bif sb_all 97 122 (sb_bl w 4) then sb_fp 0 (sb_bl w 4) else -1))], [.int (bif sb_all 97 122 (sb_bl w 4) then sb_fp 0 (sb_bl w 4) else -1)], A)) rfl ?_
    refine wp_rt rfl rfl rfl ?_
    rw [sb_pn]; first | rw [if_pos (by assumption)] | rw [if_neg (by simpa using h1)]
  · skip
    refine wp_st 2 (f' := (18, [some (.int (w)), some (.int (bif sb_all 97 122 (sb_bl w 4) then sb_fp 0 (sb_bl w 4) else -1))], [.int ((-1))], A)) rfl ?_
    refine wp_rt rfl rfl rfl ?_
    rw [sb_pn]; first | rw [if_pos (by assumption)] | rw [if_neg (by simpa using h1)]
theorem sl_go {d : Nat} {x : Int32} {A : am_H} : am_go d 22 [.int x] A (.inl (some (.int (sb_i (sb_slot x)))), A) := by
  refine wp_go ?_
  refine wp_st 1 (f' := (1, [some (.int (x))], [.int (x)], A)) rfl ?_
  refine wp_iz rfl rfl rfl (fun (h1 : x = (Int32.ofNat 0)) => ?_) (fun (h1 : ¬ (x = (Int32.ofNat 0))) => ?_)
  · skip
    refine wp_st 2 (f' := (14, [some (.int (x))], [.int (Int32.ofNat 1)], A)) rfl ?_
    refine wp_rt rfl rfl rfl ?_
    rw [sb_slot, if_pos (by simp_all)]; rfl
  · skip
    refine wp_st 2 (f' := (6, [some (.int (x))], [.int (Int32.ofNat 1), .int (x)], A)) rfl ?_
    refine wp_if rfl rfl rfl (fun (h2 : x ≠ (Int32.ofNat 1)) => ?_) (fun (h2 : ¬ (x ≠ (Int32.ofNat 1))) => ?_)
    · skip
      refine wp_st 1 (f' := (14, [some (.int (x))], [.int (Int32.ofNat 0)], A)) rfl ?_
      refine wp_rt rfl rfl rfl ?_
      rw [sb_slot, if_neg (by simp_all)]; rfl
    · skip
      refine wp_st 2 (f' := (14, [some (.int (x))], [.int (Int32.ofNat 1)], A)) rfl ?_
      refine wp_rt rfl rfl rfl ?_
      rw [sb_slot, if_pos (by simp_all)]; rfl
theorem lt_go {d : Nat} {x : Int32} {A : am_H} : am_go d 131 [.int x] A (.inl (some (.int (sb_i (sb_rng 97 122 x)))), A) := by
  refine wp_go ?_
  refine wp_st 2 (f' := (3, [some (.int (x))], [.int (Int32.ofNat 97), .int (x)], A)) rfl ?_
  refine wp_if rfl rfl rfl (fun (h1 : x < (Int32.ofNat 97)) => ?_) (fun (h1 : ¬ (x < (Int32.ofNat 97))) => ?_)
  · skip
    refine wp_st 1 (f' := (17, [some (.int (x))], [.int (Int32.ofNat 0)], A)) rfl ?_
    refine wp_rt rfl rfl rfl ?_
    rw [sb_rng, if_neg (fun q => by first | exact absurd h1 (by simpa using q.1) | exact absurd h2 (by simpa using q.2))]; rfl
  · skip
    refine wp_st 2 (f' := (9, [some (.int (x))], [.int (Int32.ofNat 122), .int (x)], A)) rfl ?_
    refine wp_if rfl rfl rfl (fun (h2 : (Int32.ofNat 122) < x) => ?_) (fun (h2 : ¬ ((Int32.ofNat 122) < x)) => ?_)
    · skip
      refine wp_st 1 (f' := (17, [some (.int (x))], [.int (Int32.ofNat 0)], A)) rfl ?_
      refine wp_rt rfl rfl rfl ?_
      rw [sb_rng, if_neg (fun q => by first | exact absurd h1 (by simpa using q.1) | exact absurd h2 (by simpa using q.2))]; rfl
    · skip
      refine wp_st 2 (f' := (17, [some (.int (x))], [.int (Int32.ofNat 1)], A)) rfl ?_
      refine wp_rt rfl rfl rfl ?_
      rw [sb_rng, if_pos ⟨by simpa using h1, by simpa using h2⟩]; rfl
theorem dg_go {d : Nat} {x : Int32} {A : am_H} : am_go d 140 [.int x] A (.inl (some (.int (sb_i (sb_rng 48 57 x)))), A) := by
  refine wp_go ?_
  refine wp_st 2 (f' := (3, [some (.int (x))], [.int (Int32.ofNat 48), .int (x)], A)) rfl ?_
  refine wp_if rfl rfl rfl (fun (h1 : x < (Int32.ofNat 48)) => ?_) (fun (h1 : ¬ (x < (Int32.ofNat 48))) => ?_)
  · skip
    refine wp_st 1 (f' := (17, [some (.int (x))], [.int (Int32.ofNat 0)], A)) rfl ?_
    refine wp_rt rfl rfl rfl ?_
    rw [sb_rng, if_neg (fun q => by first | exact absurd h1 (by simpa using q.1) | exact absurd h2 (by simpa using q.2))]; rfl
  · skip
    refine wp_st 2 (f' := (9, [some (.int (x))], [.int (Int32.ofNat 57), .int (x)], A)) rfl ?_
    refine wp_if rfl rfl rfl (fun (h2 : (Int32.ofNat 57) < x) => ?_) (fun (h2 : ¬ ((Int32.ofNat 57) < x)) => ?_)
    · skip
      refine wp_st 1 (f' := (17, [some (.int (x))], [.int (Int32.ofNat 0)], A)) rfl ?_
      refine wp_rt rfl rfl rfl ?_
      rw [sb_rng, if_neg (fun q => by first | exact absurd h1 (by simpa using q.1) | exact absurd h2 (by simpa using q.2))]; rfl
    · skip
      refine wp_st 2 (f' := (17, [some (.int (x))], [.int (Int32.ofNat 1)], A)) rfl ?_
      refine wp_rt rfl rfl rfl ?_
      rw [sb_rng, if_pos ⟨by simpa using h1, by simpa using h2⟩]; rfl
