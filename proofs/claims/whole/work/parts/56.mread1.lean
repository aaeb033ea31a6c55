/-! MessageReader: its smaller methods. -/
theorem mi_kind {d r t m n a : Nat} {f : Int32} {cs : List Nat} {dbl z : Bool} {M : mg} {A : am_H} {e : Nat} (hd : 5 ≤ d) (hae : a ≤ e) (hen : e ≤ n) (h : mr_I A r t m cs n a f dbl M z) : am_go d 43 [.ref r, .int (Int32.ofNat e)] A (.inl (some (.int (rd_ki (rd_kind cs a e)))), A) := by
  have hge := h.ge
  have hlk := h.lk
  refine wp_go ?_
  refine wp_st 1 (f' := (1, [some (.ref (r)), some (.int (Int32.ofNat e))], [.ref (r)], A)) rfl ?_
  refine wp_gf rfl rfl h.rc rfl rfl ?_
  refine wp_st 2 (f' := (7, [some (.ref (r)), some (.int (Int32.ofNat e))], [.int (Int32.ofNat e), .ref (4), .ref (t)], A)) rfl ?_
  refine wp_cv (A' := A) (v := some (.int (sb_i (rd_is cs rd_W3 a e)))) rfl rfl rfl rfl rfl h.tc (by omega) (mi_word (by omega) (by omega) (by omega) h.K.w3 h) rfl ?_
  show am_wp d 43 (10, [some (.ref (r)), some (.int (Int32.ofNat e))], [.int (sb_i (rd_is cs rd_W3 a e))], A) _
  by_cases b1 : (rd_is cs rd_W3 a e) = true
  · skip
    refine wp_izF rfl rfl (show ¬ (sb_i (rd_is cs rd_W3 a e) = 0) from by rw [b1]; decide) ?_
    refine wp_st 1 (f' := (14, [some (.ref (r)), some (.int (Int32.ofNat e))], [.int (Int32.ofNat 3)], A)) rfl ?_
    refine wp_rt rfl rfl rfl ?_
    rw [show rd_ki (rd_kind cs a e) = Int32.ofNat 3 from by simp only [rd_ki, rd_kind, b1, ↓reduceIte]; try rfl]
  · skip
    have b1f : (rd_is cs rd_W3 a e) = false := by simpa using b1
    refine wp_izT rfl rfl (show sb_i (rd_is cs rd_W3 a e) = 0 from by rw [b1f]; decide) ?_
    refine wp_st 1 (f' := (16, [some (.ref (r)), some (.int (Int32.ofNat e))], [.ref (r)], A)) rfl ?_
    refine wp_gf rfl rfl h.rc rfl rfl ?_
    refine wp_st 2 (f' := (22, [some (.ref (r)), some (.int (Int32.ofNat e))], [.int (Int32.ofNat e), .ref (5), .ref (t)], A)) rfl ?_
    refine wp_cv (A' := A) (v := some (.int (sb_i (rd_is cs rd_W4 a e)))) rfl rfl rfl rfl rfl h.tc (by omega) (mi_word (by omega) (by omega) (by omega) h.K.w4 h) rfl ?_
    show am_wp d 43 (25, [some (.ref (r)), some (.int (Int32.ofNat e))], [.int (sb_i (rd_is cs rd_W4 a e))], A) _
    by_cases b2 : (rd_is cs rd_W4 a e) = true
    · skip
      refine wp_izF rfl rfl (show ¬ (sb_i (rd_is cs rd_W4 a e) = 0) from by rw [b2]; decide) ?_
      refine wp_st 1 (f' := (29, [some (.ref (r)), some (.int (Int32.ofNat e))], [.int (Int32.ofNat 4)], A)) rfl ?_
      refine wp_rt rfl rfl rfl ?_
      rw [show rd_ki (rd_kind cs a e) = Int32.ofNat 4 from by simp only [rd_ki, rd_kind, b1, b2, ↓reduceIte]; try rfl]
    · skip
      have b2f : (rd_is cs rd_W4 a e) = false := by simpa using b2
      refine wp_izT rfl rfl (show sb_i (rd_is cs rd_W4 a e) = 0 from by rw [b2f]; decide) ?_
      refine wp_st 1 (f' := (31, [some (.ref (r)), some (.int (Int32.ofNat e))], [.ref (r)], A)) rfl ?_
      refine wp_gf rfl rfl h.rc rfl rfl ?_
      refine wp_st 2 (f' := (37, [some (.ref (r)), some (.int (Int32.ofNat e))], [.int (Int32.ofNat e), .ref (6), .ref (t)], A)) rfl ?_
      refine wp_cv (A' := A) (v := some (.int (sb_i (rd_is cs rd_W5 a e)))) rfl rfl rfl rfl rfl h.tc (by omega) (mi_word (by omega) (by omega) (by omega) h.K.w5 h) rfl ?_
      show am_wp d 43 (40, [some (.ref (r)), some (.int (Int32.ofNat e))], [.int (sb_i (rd_is cs rd_W5 a e))], A) _
      by_cases b3 : (rd_is cs rd_W5 a e) = true
      · skip
        refine wp_izF rfl rfl (show ¬ (sb_i (rd_is cs rd_W5 a e) = 0) from by rw [b3]; decide) ?_
        refine wp_st 1 (f' := (44, [some (.ref (r)), some (.int (Int32.ofNat e))], [.int (Int32.ofNat 5)], A)) rfl ?_
        refine wp_rt rfl rfl rfl ?_
        rw [show rd_ki (rd_kind cs a e) = Int32.ofNat 5 from by simp only [rd_ki, rd_kind, b1, b2, b3, ↓reduceIte]; try rfl]
      · skip
        have b3f : (rd_is cs rd_W5 a e) = false := by simpa using b3
        refine wp_izT rfl rfl (show sb_i (rd_is cs rd_W5 a e) = 0 from by rw [b3f]; decide) ?_
        refine wp_st 1 (f' := (46, [some (.ref (r)), some (.int (Int32.ofNat e))], [.ref (r)], A)) rfl ?_
        refine wp_gf rfl rfl h.rc rfl rfl ?_
        refine wp_st 2 (f' := (52, [some (.ref (r)), some (.int (Int32.ofNat e))], [.int (Int32.ofNat e), .ref (7), .ref (t)], A)) rfl ?_
        refine wp_cv (A' := A) (v := some (.int (sb_i (rd_is cs rd_W6 a e)))) rfl rfl rfl rfl rfl h.tc (by omega) (mi_word (by omega) (by omega) (by omega) h.K.w6 h) rfl ?_
        show am_wp d 43 (55, [some (.ref (r)), some (.int (Int32.ofNat e))], [.int (sb_i (rd_is cs rd_W6 a e))], A) _
        by_cases b4 : (rd_is cs rd_W6 a e) = true
        · skip
          refine wp_izF rfl rfl (show ¬ (sb_i (rd_is cs rd_W6 a e) = 0) from by rw [b4]; decide) ?_
          refine wp_st 1 (f' := (60, [some (.ref (r)), some (.int (Int32.ofNat e))], [.int (Int32.ofNat 6)], A)) rfl ?_
          refine wp_rt rfl rfl rfl ?_
          rw [show rd_ki (rd_kind cs a e) = Int32.ofNat 6 from by simp only [rd_ki, rd_kind, b1, b2, b3, b4, ↓reduceIte]; try rfl]
        · skip
          have b4f : (rd_is cs rd_W6 a e) = false := by simpa using b4
          refine wp_izT rfl rfl (show sb_i (rd_is cs rd_W6 a e) = 0 from by rw [b4f]; decide) ?_
          refine wp_st 1 (f' := (62, [some (.ref (r)), some (.int (Int32.ofNat e))], [.ref (r)], A)) rfl ?_
          refine wp_gf rfl rfl h.rc rfl rfl ?_
          refine wp_st 2 (f' := (68, [some (.ref (r)), some (.int (Int32.ofNat e))], [.int (Int32.ofNat e), .ref (8), .ref (t)], A)) rfl ?_
          refine wp_cv (A' := A) (v := some (.int (sb_i (rd_is cs rd_W7 a e)))) rfl rfl rfl rfl rfl h.tc (by omega) (mi_word (by omega) (by omega) (by omega) h.K.w7 h) rfl ?_
          show am_wp d 43 (71, [some (.ref (r)), some (.int (Int32.ofNat e))], [.int (sb_i (rd_is cs rd_W7 a e))], A) _
          by_cases b5 : (rd_is cs rd_W7 a e) = true
          · skip
            refine wp_izF rfl rfl (show ¬ (sb_i (rd_is cs rd_W7 a e) = 0) from by rw [b5]; decide) ?_
            refine wp_st 1 (f' := (76, [some (.ref (r)), some (.int (Int32.ofNat e))], [.int (Int32.ofNat 7)], A)) rfl ?_
            refine wp_rt rfl rfl rfl ?_
            rw [show rd_ki (rd_kind cs a e) = Int32.ofNat 7 from by simp only [rd_ki, rd_kind, b1, b2, b3, b4, b5, ↓reduceIte]; try rfl]
          · skip
            have b5f : (rd_is cs rd_W7 a e) = false := by simpa using b5
            refine wp_izT rfl rfl (show sb_i (rd_is cs rd_W7 a e) = 0 from by rw [b5f]; decide) ?_
            refine wp_st 1 (f' := (78, [some (.ref (r)), some (.int (Int32.ofNat e))], [.ref (r)], A)) rfl ?_
            refine wp_gf rfl rfl h.rc rfl rfl ?_
            refine wp_st 2 (f' := (84, [some (.ref (r)), some (.int (Int32.ofNat e))], [.int (Int32.ofNat e), .ref (9), .ref (t)], A)) rfl ?_
            refine wp_cv (A' := A) (v := some (.int (sb_i (rd_is cs rd_W8 a e)))) rfl rfl rfl rfl rfl h.tc (by omega) (mi_word (by omega) (by omega) (by omega) h.K.w8 h) rfl ?_
            show am_wp d 43 (87, [some (.ref (r)), some (.int (Int32.ofNat e))], [.int (sb_i (rd_is cs rd_W8 a e))], A) _
            by_cases b6 : (rd_is cs rd_W8 a e) = true
            · skip
              refine wp_izF rfl rfl (show ¬ (sb_i (rd_is cs rd_W8 a e) = 0) from by rw [b6]; decide) ?_
              refine wp_st 2 (f' := (96, [some (.ref (r)), some (.int (Int32.ofNat e))], [.int (Int32.ofNat 8)], A)) rfl ?_
              refine wp_rt rfl rfl rfl ?_
              rw [show rd_ki (rd_kind cs a e) = Int32.ofNat 8 from by simp only [rd_ki, rd_kind, b1, b2, b3, b4, b5, b6, ↓reduceIte]; try rfl]
            · skip
              have b6f : (rd_is cs rd_W8 a e) = false := by simpa using b6
              refine wp_izT rfl rfl (show sb_i (rd_is cs rd_W8 a e) = 0 from by rw [b6f]; decide) ?_
              refine wp_st 1 (f' := (96, [some (.ref (r)), some (.int (Int32.ofNat e))], [.int ((-1))], A)) rfl ?_
              refine wp_rt rfl rfl rfl ?_
              rw [show rd_ki (rd_kind cs a e) = (-1 : Int32) from by simp only [rd_ki, rd_kind, b1, b2, b3, b4, b5, b6, ↓reduceIte]; try rfl]
theorem mi_type {d r t m n a : Nat} {f : Int32} {cs : List Nat} {dbl z : Bool} {M : mg} {A : am_H} (hd : 6 ≤ d) (han : a ≤ n) (h : mr_I A r t m cs n a f dbl M z) : if rd_kind cs a (sb_re 97 122 cs n a) = 0 then mi_go d 42 [.ref r] A (some (.int (-1))) r t m cs n a (Int32.ofNat a) dbl M z else mi_go d 42 [.ref r] A (some (.int (Int32.ofNat (rd_kind cs a (sb_re 97 122 cs n a))))) r t m cs n (sb_re 97 122 cs n a) f dbl M z := by
  have hge := h.ge
  have hlk := h.lk
  suffices hs : am_wp d 42 (0, am_ent 42 [.ref r], [], A) (fun q => if rd_kind cs a (sb_re 97 122 cs n a) = 0 then q.1 = .inl (some (.int (-1))) ∧ mr_I q.2 r t m cs n a (Int32.ofNat a) dbl M z ∧ mr_F A q.2 t m else q.1 = .inl (some (.int (Int32.ofNat (rd_kind cs a (sb_re 97 122 cs n a))))) ∧ mr_I q.2 r t m cs n (sb_re 97 122 cs n a) f dbl M z ∧ mr_F A q.2 t m) by
    split
    · next hk => simp only [hk, ↓reduceIte] at hs; exact wp_goE hs
    · next hk => simp only [hk, ↓reduceIte] at hs; exact wp_goE hs
  refine wp_st 1 (f' := (1, [some (.ref (r)), none, none], [.ref (r)], A)) rfl ?_
  refine wp_gf rfl rfl h.rc rfl rfl ?_
  refine wp_st 2 (f' := (8, [some (.ref (r)), none, none], [.int (Int32.ofNat 122), .int (Int32.ofNat 97), .ref (t)], A)) rfl ?_
  have k1 := sb_re_le (lo := 97) (hi := 122) (cs := cs) (n := n) (a := a)
  have k1a := k1.2.1 (by omega)
  refine wp_cv (A' := A) (v := some (.int (Int32.ofNat (sb_re 97 122 cs n a)))) rfl rfl rfl rfl rfl h.tc (by omega) (mi_row (by omega) (by omega) h) rfl ?_
  show am_wp d 42 (11, [some (.ref (r)), none, none], [.int (Int32.ofNat (sb_re 97 122 cs n a))], A) _
  refine wp_st 3 (f' := (14, [some (.ref (r)), some (.int (Int32.ofNat (sb_re 97 122 cs n a))), none], [.int (Int32.ofNat (sb_re 97 122 cs n a)), .ref (r)], A)) rfl ?_
  by_cases k2 : rd_kind cs a (sb_re 97 122 cs n a) = 0
  · skip
    refine wp_cv (A' := A) (v := some (.int ((-1)))) rfl rfl rfl rfl rfl h.rc (by omega) (by have q := mi_kind (d := d - 1) (e := sb_re 97 122 cs n a) (by omega) (by omega) (by omega) h; rw [k2] at q; exact q) rfl ?_
    show am_wp d 42 (17, [some (.ref (r)), some (.int (Int32.ofNat (sb_re 97 122 cs n a))), none], [.int ((-1))], A) _
    refine wp_st 3 (f' := (20, [some (.ref (r)), some (.int (Int32.ofNat (sb_re 97 122 cs n a))), some (.int ((-1)))], [.int ((-1)), .int ((-1))], A)) rfl ?_
    refine wp_ifF rfl rfl (fun q => q rfl) ?_
    refine wp_st 1 (f' := (24, [some (.ref (r)), some (.int (Int32.ofNat (sb_re 97 122 cs n a))), some (.int ((-1)))], [.ref (r)], A)) rfl ?_
    refine wp_gf rfl rfl h.rc rfl rfl ?_
    refine wp_st 1 (f' := (28, [some (.ref (r)), some (.int (Int32.ofNat (sb_re 97 122 cs n a))), some (.int ((-1)))], [.ref (r), .ref (t)], A)) rfl ?_
    refine wp_gf rfl rfl h.rc rfl rfl ?_
    refine wp_gf rfl rfl h.tc rfl rfl ?_
    obtain ⟨A3, g4, h5, f6⟩ := mi_refuse (d := d - 1) (x := Int32.ofNat a) h
    have f7 := (mr_F.refl A t m).trans f6
    refine wp_cv (A' := A3) (v := some (.int (Int32.ofNat 0))) rfl rfl rfl rfl rfl h.tc (by omega) (g4) rfl ?_
    show am_wp d 42 (37, [some (.ref (r)), some (.int (Int32.ofNat (sb_re 97 122 cs n a))), some (.int ((-1)))], [.int (Int32.ofNat 0)], A3) _
    refine wp_st 3 (f' := (50, [some (.ref (r)), some (.int (Int32.ofNat (sb_re 97 122 cs n a))), some (.int ((-1)))], [.int ((-1))], A3)) rfl ?_
    refine wp_rt rfl rfl rfl ?_
    rw [if_pos k2]
    exact ⟨rfl, h5, f7⟩
  · skip
    have k2l := rd_kind_le (cs := cs) (a := a) (e := sb_re 97 122 cs n a)
    refine wp_cv (A' := A) (v := some (.int (Int32.ofNat (rd_kind cs a (sb_re 97 122 cs n a))))) rfl rfl rfl rfl rfl h.rc (by omega) (by have q := mi_kind (d := d - 1) (e := sb_re 97 122 cs n a) (by omega) (by omega) (by omega) h; rw [rd_ki, if_neg k2] at q; exact q) rfl ?_
    show am_wp d 42 (17, [some (.ref (r)), some (.int (Int32.ofNat (sb_re 97 122 cs n a))), none], [.int (Int32.ofNat (rd_kind cs a (sb_re 97 122 cs n a)))], A) _
    refine wp_st 3 (f' := (20, [some (.ref (r)), some (.int (Int32.ofNat (sb_re 97 122 cs n a))), some (.int (Int32.ofNat (rd_kind cs a (sb_re 97 122 cs n a))))], [.int ((-1)), .int (Int32.ofNat (rd_kind cs a (sb_re 97 122 cs n a)))], A)) rfl ?_
    refine wp_ifT rfl rfl (i32_neg1 (by omega)) ?_
    refine wp_st 1 (f' := (42, [some (.ref (r)), some (.int (Int32.ofNat (sb_re 97 122 cs n a))), some (.int (Int32.ofNat (rd_kind cs a (sb_re 97 122 cs n a))))], [.ref (r)], A)) rfl ?_
    refine wp_gf rfl rfl h.rc rfl rfl ?_
    refine wp_st 1 (f' := (46, [some (.ref (r)), some (.int (Int32.ofNat (sb_re 97 122 cs n a))), some (.int (Int32.ofNat (rd_kind cs a (sb_re 97 122 cs n a))))], [.int (Int32.ofNat (sb_re 97 122 cs n a)), .ref (t)], A)) rfl ?_
    obtain ⟨A8, e9⟩ : ∃ B, B = A.set t (sb_tc t n (sb_re 97 122 cs n a) (f)) := ⟨_, rfl⟩
    have q10 := h.set (a' := sb_re 97 122 cs n a) (f' := f) (by omega)
    rw [← e9] at q10
    refine wp_pf (A' := A8) rfl rfl h.tc rfl rfl (decide_eq_true (by have := h.ge; omega)) rfl e9.symm ?_
    have h11 := q10.1
    have f12 := (mr_F.refl A t m).trans q10.2
    refine wp_st 1 (f' := (50, [some (.ref (r)), some (.int (Int32.ofNat (sb_re 97 122 cs n a))), some (.int (Int32.ofNat (rd_kind cs a (sb_re 97 122 cs n a))))], [.int (Int32.ofNat (rd_kind cs a (sb_re 97 122 cs n a)))], A8)) rfl ?_
    refine wp_rt rfl rfl rfl ?_
    rw [if_neg k2]
    exact ⟨rfl, h11, f12⟩
theorem mi_name {d r t m n a : Nat} {f : Int32} {cs : List Nat} {dbl z : Bool} {M : mg} {A : am_H} (hd : 1 ≤ d) (han : a ≤ n) (h : mr_I A r t m cs n a f dbl M z) : (∀ e, rd_name cs n a = .error e → mi_go d 38 [.ref r] A (some (.int (-1))) r t m cs n a (Int32.ofNat e) dbl M z) ∧ ∀ a' x, rd_name cs n a = .ok (a', x) → mi_go d 38 [.ref r] A (some (.int x)) r t m cs n a' f dbl M z := by
  have hge := h.ge
  have hP := h.2.2.2.2
  unfold mr_P at hP
  have hrt : r ≠ t := by omega
  have h1 := sb_re_le (lo := 97) (hi := 122) (cs := cs) (n := n) (a := a)
  have h2 := h1.2.1 han
  constructor
  · intro e he
    unfold rd_name at he
    split at he
    · next q => cases he; exact ⟨_, mr_name0 hd han hrt rfl h.rc h.T q, (h.set hge.2.1).1, (h.set hge.2.1).2⟩
    split at he
    · next q => cases he; exact ⟨_, mr_name5 hd han hrt rfl h.rc h.T q, (h.set hge.2.1).1, (h.set hge.2.1).2⟩
    cases he
  · intro a' x he
    unfold rd_name at he
    split at he
    · cases he
    split at he
    · cases he
    cases he
    exact ⟨_, mr_name1 hd han hrt rfl h.rc h.T (by omega) (by omega), (h.set (by omega)).1, (h.set (by omega)).2⟩
theorem mi_quote_l {d r t m n : Nat} {f : Int32} {cs : List Nat} {dbl z : Bool} (hd : 1 ≤ d) : ∀ (k a : Nat) (M : mg) (A : am_H) (b2 : Option Value), k ≤ 120 → a ≤ n → mg_P M ≤ a → mr_I A r t m cs n a f dbl M z → am_wp d 33 (2, [some (.ref r), some (.int (Int32.ofNat (120 - k))), b2], [], A) (fun q => q.1 = .inl none ∧ mr_I q.2 r t m cs n (rd_quote cs n k a M).1 f dbl (rd_quote cs n k a M).2 z ∧ mr_F A q.2 t m) := by
  intro k
  induction k with
  | zero =>
    intro a M A b2 hk han hp h
    refine wp_st 2 (f' := (5, [some (.ref (r)), some (.int (Int32.ofNat (120 - 0))), b2], [.int (Int32.ofNat 120), .int (Int32.ofNat (120 - 0))], A)) rfl ?_
    refine wp_ifT rfl rfl ((i32_le (a := 120) (b := 120 - 0) (by omega) (by omega)).mpr (by omega)) ?_
    refine wp_rt rfl rfl rfl ?_
    exact ⟨rfl, h, (mr_F.refl A t m)⟩
  | succ k ih =>
    intro a M A b2 hk han hp h
    have hge := h.ge
    have hlk := h.lk
    refine wp_st 2 (f' := (5, [some (.ref (r)), some (.int (Int32.ofNat (120 - (k + 1)))), b2], [.int (Int32.ofNat 120), .int (Int32.ofNat (120 - (k + 1)))], A)) rfl ?_
    refine wp_ifF rfl rfl (fun q => absurd ((i32_le (a := 120) (b := 120 - (k + 1)) (by omega) (by omega)).mp q) (by omega)) ?_
    refine wp_st 1 (f' := (9, [some (.ref (r)), some (.int (Int32.ofNat (120 - (k + 1)))), b2], [.ref (r)], A)) rfl ?_
    refine wp_gf rfl rfl h.rc rfl rfl ?_
    refine wp_st 1 (f' := (13, [some (.ref (r)), some (.int (Int32.ofNat (120 - (k + 1)))), b2], [.ref (r), .ref (t)], A)) rfl ?_
    refine wp_gf rfl rfl h.rc rfl rfl ?_
    refine wp_gf rfl rfl h.tc rfl rfl ?_
    by_cases c1 : a < n
    · skip
      have c1l := hlk (a)
      have c1n : ¬ n ≤ a := by omega
      refine wp_cv (A' := A) (v := some (.int (Int32.ofNat (sb_lk cs n a)))) rfl rfl rfl rfl rfl h.tc (by omega) (mi_chr1 c1 h) rfl ?_
      show am_wp d 33 (22, [some (.ref (r)), some (.int (Int32.ofNat (120 - (k + 1)))), b2], [.int (Int32.ofNat (sb_lk cs n a))], A) _
      refine wp_st 3 (f' := (25, [some (.ref (r)), some (.int (Int32.ofNat (120 - (k + 1)))), some (.int (Int32.ofNat (sb_lk cs n a)))], [.int ((-1)), .int (Int32.ofNat (sb_lk cs n a))], A)) rfl ?_
      refine wp_ifT rfl rfl (i32_neg1 (by omega)) ?_
      refine wp_st 1 (f' := (30, [some (.ref (r)), some (.int (Int32.ofNat (120 - (k + 1)))), some (.int (Int32.ofNat (sb_lk cs n a)))], [.ref (r)], A)) rfl ?_
      refine wp_gf rfl rfl h.rc rfl rfl ?_
      refine wp_st 1 (f' := (34, [some (.ref (r)), some (.int (Int32.ofNat (120 - (k + 1)))), some (.int (Int32.ofNat (sb_lk cs n a)))], [.ref (t), .ref (t)], A)) rfl ?_
      refine wp_gf rfl rfl h.tc rfl rfl ?_
      refine wp_st 2 (f' := (39, [some (.ref (r)), some (.int (Int32.ofNat (120 - (k + 1)))), some (.int (Int32.ofNat (sb_lk cs n a)))], [.int ((Int32.ofNat a) + (Int32.ofNat 1)), .ref (t)], A)) rfl ?_
      rw [i32_add (a) (1)]
      obtain ⟨A2, e3⟩ : ∃ B, B = A.set t (sb_tc t n (a + 1) (f)) := ⟨_, rfl⟩
      have q4 := h.set (a' := a + 1) (f' := f) (by omega)
      rw [← e3] at q4
      refine wp_pf (A' := A2) rfl rfl h.tc rfl rfl (decide_eq_true (by have := h.ge; omega)) rfl e3.symm ?_
      have h5 := q4.1
      have f6 := (mr_F.refl A t m).trans q4.2
      refine wp_st 2 (f' := (45, [some (.ref (r)), some (.int (Int32.ofNat (120 - (k + 1)))), some (.int (Int32.ofNat (sb_lk cs n a)))], [.int (Int32.ofNat 39), .int (Int32.ofNat (sb_lk cs n a))], A2)) rfl ?_
      refine wp_if rfl rfl rfl (fun (h7 : (Int32.ofNat (sb_lk cs n a)) ≠ (Int32.ofNat 39)) => ?_) (fun (h7 : ¬ ((Int32.ofNat (sb_lk cs n a)) ≠ (Int32.ofNat 39))) => ?_)
      · skip
        rw [ne_eq, i32_eq (by omega) (by omega)] at h7
        refine wp_st 1 (f' := (62, [some (.ref (r)), some (.int (Int32.ofNat (120 - (k + 1)))), some (.int (Int32.ofNat (sb_lk cs n a)))], [.ref (r)], A2)) rfl ?_
        refine wp_gf rfl rfl h5.rc rfl rfl ?_
        refine wp_st 2 (f' := (67, [some (.ref (r)), some (.int (Int32.ofNat (120 - (k + 1)))), some (.int (Int32.ofNat (sb_lk cs n a)))], [.int (Int32.ofNat (sb_lk cs n a)), .int (Int32.ofNat 0), .ref (m)], A2)) rfl ?_
        obtain ⟨A8, g9, h10, f11⟩ := mi_add (d := d - 1) (k := 0) (x := Int32.ofNat (sb_lk cs n a)) (by omega) h5
        have f12 := f6.trans f11
        refine wp_cv (A' := A8) (v := some (.int (Int32.ofNat (mg_P M)))) rfl rfl rfl rfl rfl h5.mc (by omega) (g9) rfl ?_
        show am_wp d 33 (70, [some (.ref (r)), some (.int (Int32.ofNat (120 - (k + 1)))), some (.int (Int32.ofNat (sb_lk cs n a)))], [.int (Int32.ofNat (mg_P M))], A8) _
        refine wp_st 2 (f' := (74, [some (.ref (r)), some (.int ((Int32.ofNat (120 - (k + 1))) + (Int32.ofNat 1))), some (.int (Int32.ofNat (sb_lk cs n a)))], [], A8)) rfl ?_
        rw [i32_add (120 - (k + 1)) (1)]
        refine wp_st 1 (f' := (2, [some (.ref (r)), some (.int (Int32.ofNat (120 - (k + 1) + 1))), some (.int (Int32.ofNat (sb_lk cs n a)))], [], A8)) rfl ?_
        have hres : rd_quote cs n (k + 1) a M = rd_quote cs n k (a + 1) (mg_add M 0 (Int32.ofNat (sb_lk cs n a))) := by rw [rd_quote]; simp only [c1n, h7, ↓reduceIte]
        rw [hres, show 120 - (k + 1) + 1 = 120 - k by omega]
        obtain ⟨q, q1, q2, q3, q4⟩ := ih _ _ _ _ (by omega) (by omega) (by rw [mg_add_P]; omega) h10
        exact ⟨q, q1, q2, q3, f12.trans q4⟩
      · skip
        rw [ne_eq, i32_eq (by omega) (by omega)] at h7
        replace h7 := Decidable.not_not.mp h7
        refine wp_st 1 (f' := (49, [some (.ref (r)), some (.int (Int32.ofNat (120 - (k + 1)))), some (.int (Int32.ofNat (sb_lk cs n a)))], [.ref (r)], A2)) rfl ?_
        refine wp_gf rfl rfl h5.rc rfl rfl ?_
        refine wp_st 1 (f' := (54, [some (.ref (r)), some (.int (Int32.ofNat (120 - (k + 1)))), some (.int (Int32.ofNat (sb_lk cs n a)))], [.int (Int32.ofNat 39), .ref (t)], A2)) rfl ?_
        by_cases c13 : sb_lk cs n (a + 1) = 39
        · skip
          have c13p : a + 1 < n := sb_lk_pos (cs := cs) (by omega)
          obtain ⟨A14, g15, h16, f17⟩ := mi_take1 (d := d - 1) (by omega) (by omega) c13 h5
          have f18 := f6.trans f17
          refine wp_cv (A' := A14) (v := some (.int (Int32.ofNat 1))) rfl rfl rfl rfl rfl h5.tc (by omega) (g15) rfl ?_
          show am_wp d 33 (57, [some (.ref (r)), some (.int (Int32.ofNat (120 - (k + 1)))), some (.int (Int32.ofNat (sb_lk cs n a)))], [.int (Int32.ofNat 1)], A14) _
          refine wp_izT rfl rfl (show (Int32.ofNat 1) ≠ (Int32.ofNat 0) from by decide) ?_
          refine wp_st 1 (f' := (62, [some (.ref (r)), some (.int (Int32.ofNat (120 - (k + 1)))), some (.int (Int32.ofNat (sb_lk cs n a)))], [.ref (r)], A14)) rfl ?_
          refine wp_gf rfl rfl h16.rc rfl rfl ?_
          refine wp_st 2 (f' := (67, [some (.ref (r)), some (.int (Int32.ofNat (120 - (k + 1)))), some (.int (Int32.ofNat (sb_lk cs n a)))], [.int (Int32.ofNat (sb_lk cs n a)), .int (Int32.ofNat 0), .ref (m)], A14)) rfl ?_
          obtain ⟨A19, g20, h21, f22⟩ := mi_add (d := d - 1) (k := 0) (x := Int32.ofNat (sb_lk cs n a)) (by omega) h16
          have f23 := f18.trans f22
          refine wp_cv (A' := A19) (v := some (.int (Int32.ofNat (mg_P M)))) rfl rfl rfl rfl rfl h16.mc (by omega) (g20) rfl ?_
          show am_wp d 33 (70, [some (.ref (r)), some (.int (Int32.ofNat (120 - (k + 1)))), some (.int (Int32.ofNat (sb_lk cs n a)))], [.int (Int32.ofNat (mg_P M))], A19) _
          refine wp_st 2 (f' := (74, [some (.ref (r)), some (.int ((Int32.ofNat (120 - (k + 1))) + (Int32.ofNat 1))), some (.int (Int32.ofNat (sb_lk cs n a)))], [], A19)) rfl ?_
          rw [i32_add (120 - (k + 1)) (1)]
          refine wp_st 1 (f' := (2, [some (.ref (r)), some (.int (Int32.ofNat (120 - (k + 1) + 1))), some (.int (Int32.ofNat (sb_lk cs n a)))], [], A19)) rfl ?_
          have hres : rd_quote cs n (k + 1) a M = rd_quote cs n k (a + 1 + 1) (mg_add M 0 (Int32.ofNat (sb_lk cs n a))) := by rw [rd_quote]; simp only [c1n, h7, c13, ↓reduceIte]
          rw [hres, show 120 - (k + 1) + 1 = 120 - k by omega]
          obtain ⟨q, q1, q2, q3, q4⟩ := ih _ _ _ _ (by omega) (by omega) (by rw [mg_add_P]; omega) h21
          exact ⟨q, q1, q2, q3, f23.trans q4⟩
        · skip
          obtain ⟨A24, g25, h26, f27⟩ := mi_take0 (d := d - 1) (by omega) (by omega) c13 h5
          have f28 := f6.trans f27
          refine wp_cv (A' := A24) (v := some (.int (Int32.ofNat 0))) rfl rfl rfl rfl rfl h5.tc (by omega) (g25) rfl ?_
          show am_wp d 33 (57, [some (.ref (r)), some (.int (Int32.ofNat (120 - (k + 1)))), some (.int (Int32.ofNat (sb_lk cs n a)))], [.int (Int32.ofNat 0)], A24) _
          refine wp_izF rfl rfl (show ¬ ((Int32.ofNat 0) ≠ (Int32.ofNat 0)) from by decide) ?_
          refine wp_rt rfl rfl rfl ?_
          have hres : rd_quote cs n (k + 1) a M = (a + 1, M) := by rw [rd_quote]; simp only [c1n, h7, c13, ↓reduceIte]
          rw [hres]
          exact ⟨rfl, h26, f28⟩
    · skip
      have c1n : n ≤ a := by omega
      refine wp_cv (A' := A) (v := some (.int ((-1)))) rfl rfl rfl rfl rfl h.tc (by omega) (mi_chr0 c1 (by omega) h) rfl ?_
      show am_wp d 33 (22, [some (.ref (r)), some (.int (Int32.ofNat (120 - (k + 1)))), b2], [.int ((-1))], A) _
      refine wp_st 3 (f' := (25, [some (.ref (r)), some (.int (Int32.ofNat (120 - (k + 1)))), some (.int ((-1)))], [.int ((-1)), .int ((-1))], A)) rfl ?_
      refine wp_ifF rfl rfl (fun q => q rfl) ?_
      refine wp_rt rfl rfl rfl ?_
      have hres : rd_quote cs n (k + 1) a M = (a, M) := by rw [rd_quote]; simp only [c1n, ↓reduceIte]
      rw [hres]
      exact ⟨rfl, h, (mr_F.refl A t m)⟩
theorem mi_quote {d r t m n a : Nat} {f : Int32} {cs : List Nat} {dbl z : Bool} {M : mg} {A : am_H} (hd : 1 ≤ d) (han : a ≤ n) (hp : mg_P M ≤ a) (h : mr_I A r t m cs n a f dbl M z) : mi_go d 33 [.ref r] A none r t m cs n (rd_quote cs n 120 a M).1 f dbl (rd_quote cs n 120 a M).2 z := by
  refine wp_goE ?_
  refine wp_st 2 (f' := (2, [some (.ref (r)), some (.int (Int32.ofNat 0)), none], [], A)) rfl ?_
  exact mi_quote_l hd 120 a M A none (by omega) han hp h
theorem mi_apos {d r t m n a : Nat} {f : Int32} {cs : List Nat} {dbl z : Bool} {M : mg} {A : am_H} {sg : Bool} (hd : 2 ≤ d) (han : a < n) (hp : mg_P M ≤ a) (h : mr_I A r t m cs n a f dbl M z) : mi_go d 31 [.ref r, .int (sb_i sg)] A none r t m cs n (rd_apos cs n dbl sg a M).1 f dbl (rd_apos cs n dbl sg a M).2 z := by
  have hge := h.ge
  have hlk := h.lk
  refine wp_goE ?_
  refine wp_st 1 (f' := (1, [some (.ref (r)), some (.int (sb_i sg)), none], [.ref (r)], A)) rfl ?_
  refine wp_gf rfl rfl h.rc rfl rfl ?_
  refine wp_st 1 (f' := (5, [some (.ref (r)), some (.int (sb_i sg)), none], [.ref (t), .ref (t)], A)) rfl ?_
  refine wp_gf rfl rfl h.tc rfl rfl ?_
  refine wp_st 2 (f' := (10, [some (.ref (r)), some (.int (sb_i sg)), none], [.int ((Int32.ofNat a) + (Int32.ofNat 1)), .ref (t)], A)) rfl ?_
  rw [i32_add (a) (1)]
  obtain ⟨A1, e2⟩ : ∃ B, B = A.set t (sb_tc t n (a + 1) (f)) := ⟨_, rfl⟩
  have q3 := h.set (a' := a + 1) (f' := f) (by omega)
  rw [← e2] at q3
  refine wp_pf (A' := A1) rfl rfl h.tc rfl rfl (decide_eq_true (by have := h.ge; omega)) rfl e2.symm ?_
  have h4 := q3.1
  have f5 := (mr_F.refl A t m).trans q3.2
  refine wp_st 1 (f' := (14, [some (.ref (r)), some (.int (sb_i sg)), none], [.ref (r)], A1)) rfl ?_
  refine wp_gf rfl rfl h4.rc rfl rfl ?_
  refine wp_st 1 (f' := (18, [some (.ref (r)), some (.int (sb_i sg)), none], [.ref (r), .ref (t)], A1)) rfl ?_
  refine wp_gf rfl rfl h4.rc rfl rfl ?_
  refine wp_gf rfl rfl h4.tc rfl rfl ?_
  by_cases c6 : a + 1 < n
  · skip
    have c6l := hlk (a + 1)
    refine wp_cv (A' := A1) (v := some (.int (Int32.ofNat (sb_lk cs n (a + 1))))) rfl rfl rfl rfl rfl h4.tc (by omega) (mi_chr1 c6 h4) rfl ?_
    show am_wp d 31 (27, [some (.ref (r)), some (.int (sb_i sg)), none], [.int (Int32.ofNat (sb_lk cs n (a + 1)))], A1) _
    refine wp_st 3 (f' := (31, [some (.ref (r)), some (.int (sb_i sg)), some (.int (Int32.ofNat (sb_lk cs n (a + 1))))], [.int (Int32.ofNat 39), .int (Int32.ofNat (sb_lk cs n (a + 1)))], A1)) rfl ?_
    refine wp_if rfl rfl rfl (fun (h7 : (Int32.ofNat (sb_lk cs n (a + 1))) ≠ (Int32.ofNat 39)) => ?_) (fun (h7 : ¬ ((Int32.ofNat (sb_lk cs n (a + 1))) ≠ (Int32.ofNat 39))) => ?_)
    · skip
      rw [ne_eq, i32_eq (by omega) (by omega)] at h7
      refine wp_st 1 (f' := (62, [some (.ref (r)), some (.int (sb_i sg)), some (.int (Int32.ofNat (sb_lk cs n (a + 1))))], [.ref (r)], A1)) rfl ?_
      refine wp_gf rfl rfl h4.rc rfl rfl ?_
      by_cases b8 : dbl = true
      · skip
        refine wp_izT rfl rfl (show sb_i dbl ≠ 0 from by rw [b8]; decide) ?_
        refine wp_st 1 (f' := (91, [some (.ref (r)), some (.int (sb_i sg)), some (.int (Int32.ofNat (sb_lk cs n (a + 1))))], [.ref (r)], A1)) rfl ?_
        obtain ⟨A9, g10, h11, f12⟩ := mi_quote (d := d - 1) (by omega) (by omega) (by omega) h4
        have f13 := f5.trans f12
        refine wp_cv (A' := A9) (v := none) rfl rfl rfl rfl rfl h4.rc (by omega) (g10) rfl ?_
        show am_wp d 31 (94, [some (.ref (r)), some (.int (sb_i sg)), some (.int (Int32.ofNat (sb_lk cs n (a + 1))))], [], A9) _
        refine wp_st 1 (f' := (108, [some (.ref (r)), some (.int (sb_i sg)), some (.int (Int32.ofNat (sb_lk cs n (a + 1))))], [], A9)) rfl ?_
        refine wp_rt rfl rfl rfl ?_
        have hres : rd_apos cs n dbl sg a M = ((rd_quote cs n 120 (a + 1) M).1, (rd_quote cs n 120 (a + 1) M).2) := by simp [rd_apos, c6, h7, b8]
        rw [hres]
        exact ⟨rfl, h11, f13⟩
      · skip
        have b8f : dbl = false := by simpa using b8
        refine wp_izF rfl rfl (show ¬ (sb_i dbl ≠ 0) from by rw [b8f]; decide) ?_
        refine wp_st 2 (f' := (71, [some (.ref (r)), some (.int (sb_i sg)), some (.int (Int32.ofNat (sb_lk cs n (a + 1))))], [.int (Int32.ofNat 123), .int (Int32.ofNat (sb_lk cs n (a + 1)))], A1)) rfl ?_
        refine wp_if rfl rfl rfl (fun (h14 : (Int32.ofNat (sb_lk cs n (a + 1))) = (Int32.ofNat 123)) => ?_) (fun (h14 : ¬ ((Int32.ofNat (sb_lk cs n (a + 1))) = (Int32.ofNat 123))) => ?_)
        · skip
          rw [i32_eq (by omega) (by omega)] at h14
          refine wp_st 1 (f' := (91, [some (.ref (r)), some (.int (sb_i sg)), some (.int (Int32.ofNat (sb_lk cs n (a + 1))))], [.ref (r)], A1)) rfl ?_
          obtain ⟨A15, g16, h17, f18⟩ := mi_quote (d := d - 1) (by omega) (by omega) (by omega) h4
          have f19 := f5.trans f18
          refine wp_cv (A' := A15) (v := none) rfl rfl rfl rfl rfl h4.rc (by omega) (g16) rfl ?_
          show am_wp d 31 (94, [some (.ref (r)), some (.int (sb_i sg)), some (.int (Int32.ofNat (sb_lk cs n (a + 1))))], [], A15) _
          refine wp_st 1 (f' := (108, [some (.ref (r)), some (.int (sb_i sg)), some (.int (Int32.ofNat (sb_lk cs n (a + 1))))], [], A15)) rfl ?_
          refine wp_rt rfl rfl rfl ?_
          have hres : rd_apos cs n dbl sg a M = ((rd_quote cs n 120 (a + 1) M).1, (rd_quote cs n 120 (a + 1) M).2) := by simp [rd_apos, c6, h7, b8, h14]
          rw [hres]
          exact ⟨rfl, h17, f19⟩
        · skip
          rw [i32_eq (by omega) (by omega)] at h14
          refine wp_st 2 (f' := (77, [some (.ref (r)), some (.int (sb_i sg)), some (.int (Int32.ofNat (sb_lk cs n (a + 1))))], [.int (Int32.ofNat 125), .int (Int32.ofNat (sb_lk cs n (a + 1)))], A1)) rfl ?_
          refine wp_if rfl rfl rfl (fun (h20 : (Int32.ofNat (sb_lk cs n (a + 1))) = (Int32.ofNat 125)) => ?_) (fun (h20 : ¬ ((Int32.ofNat (sb_lk cs n (a + 1))) = (Int32.ofNat 125))) => ?_)
          · skip
            rw [i32_eq (by omega) (by omega)] at h20
            refine wp_st 1 (f' := (91, [some (.ref (r)), some (.int (sb_i sg)), some (.int (Int32.ofNat (sb_lk cs n (a + 1))))], [.ref (r)], A1)) rfl ?_
            obtain ⟨A21, g22, h23, f24⟩ := mi_quote (d := d - 1) (by omega) (by omega) (by omega) h4
            have f25 := f5.trans f24
            refine wp_cv (A' := A21) (v := none) rfl rfl rfl rfl rfl h4.rc (by omega) (g22) rfl ?_
            show am_wp d 31 (94, [some (.ref (r)), some (.int (sb_i sg)), some (.int (Int32.ofNat (sb_lk cs n (a + 1))))], [], A21) _
            refine wp_st 1 (f' := (108, [some (.ref (r)), some (.int (sb_i sg)), some (.int (Int32.ofNat (sb_lk cs n (a + 1))))], [], A21)) rfl ?_
            refine wp_rt rfl rfl rfl ?_
            have hres : rd_apos cs n dbl sg a M = ((rd_quote cs n 120 (a + 1) M).1, (rd_quote cs n 120 (a + 1) M).2) := by simp [rd_apos, c6, h7, b8, h14, h20]
            rw [hres]
            exact ⟨rfl, h23, f25⟩
          · skip
            rw [i32_eq (by omega) (by omega)] at h20
            refine wp_st 2 (f' := (83, [some (.ref (r)), some (.int (sb_i sg)), some (.int (Int32.ofNat (sb_lk cs n (a + 1))))], [.int (Int32.ofNat 35), .int (Int32.ofNat (sb_lk cs n (a + 1)))], A1)) rfl ?_
            refine wp_if rfl rfl rfl (fun (h26 : (Int32.ofNat (sb_lk cs n (a + 1))) ≠ (Int32.ofNat 35)) => ?_) (fun (h26 : ¬ ((Int32.ofNat (sb_lk cs n (a + 1))) ≠ (Int32.ofNat 35))) => ?_)
            · skip
              rw [ne_eq, i32_eq (by omega) (by omega)] at h26
              refine wp_st 1 (f' := (98, [some (.ref (r)), some (.int (sb_i sg)), some (.int (Int32.ofNat (sb_lk cs n (a + 1))))], [.ref (r)], A1)) rfl ?_
              refine wp_gf rfl rfl h4.rc rfl rfl ?_
              refine wp_st 2 (f' := (104, [some (.ref (r)), some (.int (sb_i sg)), some (.int (Int32.ofNat (sb_lk cs n (a + 1))))], [.int (Int32.ofNat 39), .int (Int32.ofNat 0), .ref (m)], A1)) rfl ?_
              obtain ⟨A27, g28, h29, f30⟩ := mi_add (d := d - 1) (k := 0) (x := Int32.ofNat 39) (by omega) h4
              have f31 := f5.trans f30
              refine wp_cv (A' := A27) (v := some (.int (Int32.ofNat (mg_P M)))) rfl rfl rfl rfl rfl h4.mc (by omega) (g28) rfl ?_
              show am_wp d 31 (107, [some (.ref (r)), some (.int (sb_i sg)), some (.int (Int32.ofNat (sb_lk cs n (a + 1))))], [.int (Int32.ofNat (mg_P M))], A27) _
              refine wp_st 1 (f' := (108, [some (.ref (r)), some (.int (sb_i sg)), some (.int (Int32.ofNat (sb_lk cs n (a + 1))))], [], A27)) rfl ?_
              refine wp_rt rfl rfl rfl ?_
              have hres : rd_apos cs n dbl sg a M = (a + 1, mg_add M 0 (Int32.ofNat 39)) := by simp [rd_apos, c6, h7, b8, h14, h20, h26]
              rw [hres]
              exact ⟨rfl, h29, f31⟩
            · skip
              rw [ne_eq, i32_eq (by omega) (by omega)] at h26
              replace h26 := Decidable.not_not.mp h26
              refine wp_st 1 (f' := (87, [some (.ref (r)), some (.int (sb_i sg)), some (.int (Int32.ofNat (sb_lk cs n (a + 1))))], [.int (sb_i sg)], A1)) rfl ?_
              by_cases b32 : sg = true
              · skip
                refine wp_izF rfl rfl (show ¬ (sb_i sg = 0) from by rw [b32]; decide) ?_
                refine wp_st 1 (f' := (91, [some (.ref (r)), some (.int (sb_i sg)), some (.int (Int32.ofNat (sb_lk cs n (a + 1))))], [.ref (r)], A1)) rfl ?_
                obtain ⟨A33, g34, h35, f36⟩ := mi_quote (d := d - 1) (by omega) (by omega) (by omega) h4
                have f37 := f5.trans f36
                refine wp_cv (A' := A33) (v := none) rfl rfl rfl rfl rfl h4.rc (by omega) (g34) rfl ?_
                show am_wp d 31 (94, [some (.ref (r)), some (.int (sb_i sg)), some (.int (Int32.ofNat (sb_lk cs n (a + 1))))], [], A33) _
                refine wp_st 1 (f' := (108, [some (.ref (r)), some (.int (sb_i sg)), some (.int (Int32.ofNat (sb_lk cs n (a + 1))))], [], A33)) rfl ?_
                refine wp_rt rfl rfl rfl ?_
                have hres : rd_apos cs n dbl sg a M = ((rd_quote cs n 120 (a + 1) M).1, (rd_quote cs n 120 (a + 1) M).2) := by simp [rd_apos, c6, h7, b8, h14, h20, h26, b32]
                rw [hres]
                exact ⟨rfl, h35, f37⟩
              · skip
                have b32f : sg = false := by simpa using b32
                refine wp_izT rfl rfl (show sb_i sg = 0 from by rw [b32f]; decide) ?_
                refine wp_st 1 (f' := (98, [some (.ref (r)), some (.int (sb_i sg)), some (.int (Int32.ofNat (sb_lk cs n (a + 1))))], [.ref (r)], A1)) rfl ?_
                refine wp_gf rfl rfl h4.rc rfl rfl ?_
                refine wp_st 2 (f' := (104, [some (.ref (r)), some (.int (sb_i sg)), some (.int (Int32.ofNat (sb_lk cs n (a + 1))))], [.int (Int32.ofNat 39), .int (Int32.ofNat 0), .ref (m)], A1)) rfl ?_
                obtain ⟨A38, g39, h40, f41⟩ := mi_add (d := d - 1) (k := 0) (x := Int32.ofNat 39) (by omega) h4
                have f42 := f5.trans f41
                refine wp_cv (A' := A38) (v := some (.int (Int32.ofNat (mg_P M)))) rfl rfl rfl rfl rfl h4.mc (by omega) (g39) rfl ?_
                show am_wp d 31 (107, [some (.ref (r)), some (.int (sb_i sg)), some (.int (Int32.ofNat (sb_lk cs n (a + 1))))], [.int (Int32.ofNat (mg_P M))], A38) _
                refine wp_st 1 (f' := (108, [some (.ref (r)), some (.int (sb_i sg)), some (.int (Int32.ofNat (sb_lk cs n (a + 1))))], [], A38)) rfl ?_
                refine wp_rt rfl rfl rfl ?_
                have hres : rd_apos cs n dbl sg a M = (a + 1, mg_add M 0 (Int32.ofNat 39)) := by simp [rd_apos, c6, h7, b8, h14, h20, h26, b32]
                rw [hres]
                exact ⟨rfl, h40, f42⟩
    · skip
      rw [ne_eq, i32_eq (by omega) (by omega)] at h7
      replace h7 := Decidable.not_not.mp h7
      refine wp_st 1 (f' := (35, [some (.ref (r)), some (.int (sb_i sg)), some (.int (Int32.ofNat (sb_lk cs n (a + 1))))], [.ref (r)], A1)) rfl ?_
      refine wp_gf rfl rfl h4.rc rfl rfl ?_
      refine wp_st 1 (f' := (39, [some (.ref (r)), some (.int (sb_i sg)), some (.int (Int32.ofNat (sb_lk cs n (a + 1))))], [.ref (t), .ref (t)], A1)) rfl ?_
      refine wp_gf rfl rfl h4.tc rfl rfl ?_
      refine wp_st 2 (f' := (44, [some (.ref (r)), some (.int (sb_i sg)), some (.int (Int32.ofNat (sb_lk cs n (a + 1))))], [.int ((Int32.ofNat (a + 1)) + (Int32.ofNat 1)), .ref (t)], A1)) rfl ?_
      rw [i32_add (a + 1) (1)]
      obtain ⟨A43, e44⟩ : ∃ B, B = A1.set t (sb_tc t n (a + 1 + 1) (f)) := ⟨_, rfl⟩
      have q45 := h4.set (a' := a + 1 + 1) (f' := f) (by omega)
      rw [← e44] at q45
      refine wp_pf (A' := A43) rfl rfl h4.tc rfl rfl (decide_eq_true (by have := h4.ge; omega)) rfl e44.symm ?_
      have h46 := q45.1
      have f47 := f5.trans q45.2
      refine wp_st 1 (f' := (48, [some (.ref (r)), some (.int (sb_i sg)), some (.int (Int32.ofNat (sb_lk cs n (a + 1))))], [.ref (r)], A43)) rfl ?_
      refine wp_gf rfl rfl h46.rc rfl rfl ?_
      refine wp_st 2 (f' := (54, [some (.ref (r)), some (.int (sb_i sg)), some (.int (Int32.ofNat (sb_lk cs n (a + 1))))], [.int (Int32.ofNat 39), .int (Int32.ofNat 0), .ref (m)], A43)) rfl ?_
      obtain ⟨A48, g49, h50, f51⟩ := mi_add (d := d - 1) (k := 0) (x := Int32.ofNat 39) (by omega) h46
      have f52 := f47.trans f51
      refine wp_cv (A' := A48) (v := some (.int (Int32.ofNat (mg_P M)))) rfl rfl rfl rfl rfl h46.mc (by omega) (g49) rfl ?_
      show am_wp d 31 (57, [some (.ref (r)), some (.int (sb_i sg)), some (.int (Int32.ofNat (sb_lk cs n (a + 1))))], [.int (Int32.ofNat (mg_P M))], A48) _
      refine wp_st 2 (f' := (108, [some (.ref (r)), some (.int (sb_i sg)), some (.int (Int32.ofNat (sb_lk cs n (a + 1))))], [], A48)) rfl ?_
      refine wp_rt rfl rfl rfl ?_
      have hres : rd_apos cs n dbl sg a M = (a + 1 + 1, mg_add M 0 (Int32.ofNat 39)) := by simp [rd_apos, c6, h7]
      rw [hres]
      exact ⟨rfl, h50, f52⟩
  · skip
    have c6z : sb_lk cs n (a + 1) = 0 := sb_lk_out c6
    refine wp_cv (A' := A1) (v := some (.int ((-1)))) rfl rfl rfl rfl rfl h4.tc (by omega) (mi_chr0 c6 (by omega) h4) rfl ?_
    show am_wp d 31 (27, [some (.ref (r)), some (.int (sb_i sg)), none], [.int ((-1))], A1) _
    refine wp_st 3 (f' := (31, [some (.ref (r)), some (.int (sb_i sg)), some (.int ((-1)))], [.int (Int32.ofNat 39), .int ((-1))], A1)) rfl ?_
    refine wp_ifT rfl rfl (show (-1 : Int32) ≠ (Int32.ofNat 39) from by decide) ?_
    refine wp_st 1 (f' := (62, [some (.ref (r)), some (.int (sb_i sg)), some (.int ((-1)))], [.ref (r)], A1)) rfl ?_
    refine wp_gf rfl rfl h4.rc rfl rfl ?_
    by_cases b53 : dbl = true
    · skip
      refine wp_izT rfl rfl (show sb_i dbl ≠ 0 from by rw [b53]; decide) ?_
      refine wp_st 1 (f' := (91, [some (.ref (r)), some (.int (sb_i sg)), some (.int ((-1)))], [.ref (r)], A1)) rfl ?_
      obtain ⟨A54, g55, h56, f57⟩ := mi_quote (d := d - 1) (by omega) (by omega) (by omega) h4
      have f58 := f5.trans f57
      refine wp_cv (A' := A54) (v := none) rfl rfl rfl rfl rfl h4.rc (by omega) (g55) rfl ?_
      show am_wp d 31 (94, [some (.ref (r)), some (.int (sb_i sg)), some (.int ((-1)))], [], A54) _
      refine wp_st 1 (f' := (108, [some (.ref (r)), some (.int (sb_i sg)), some (.int ((-1)))], [], A54)) rfl ?_
      refine wp_rt rfl rfl rfl ?_
      have hres : rd_apos cs n dbl sg a M = ((rd_quote cs n 120 (a + 1) M).1, (rd_quote cs n 120 (a + 1) M).2) := by simp [rd_apos, c6, c6z, b53]
      rw [hres]
      exact ⟨rfl, h56, f58⟩
    · skip
      have b53f : dbl = false := by simpa using b53
      refine wp_izF rfl rfl (show ¬ (sb_i dbl ≠ 0) from by rw [b53f]; decide) ?_
      refine wp_st 2 (f' := (71, [some (.ref (r)), some (.int (sb_i sg)), some (.int ((-1)))], [.int (Int32.ofNat 123), .int ((-1))], A1)) rfl ?_
      refine wp_ifF rfl rfl (show ¬ ((-1 : Int32) = (Int32.ofNat 123)) from by decide) ?_
      refine wp_st 2 (f' := (77, [some (.ref (r)), some (.int (sb_i sg)), some (.int ((-1)))], [.int (Int32.ofNat 125), .int ((-1))], A1)) rfl ?_
      refine wp_ifF rfl rfl (show ¬ ((-1 : Int32) = (Int32.ofNat 125)) from by decide) ?_
      refine wp_st 2 (f' := (83, [some (.ref (r)), some (.int (sb_i sg)), some (.int ((-1)))], [.int (Int32.ofNat 35), .int ((-1))], A1)) rfl ?_
      refine wp_ifT rfl rfl (show (-1 : Int32) ≠ (Int32.ofNat 35) from by decide) ?_
      refine wp_st 1 (f' := (98, [some (.ref (r)), some (.int (sb_i sg)), some (.int ((-1)))], [.ref (r)], A1)) rfl ?_
      refine wp_gf rfl rfl h4.rc rfl rfl ?_
      refine wp_st 2 (f' := (104, [some (.ref (r)), some (.int (sb_i sg)), some (.int ((-1)))], [.int (Int32.ofNat 39), .int (Int32.ofNat 0), .ref (m)], A1)) rfl ?_
      obtain ⟨A59, g60, h61, f62⟩ := mi_add (d := d - 1) (k := 0) (x := Int32.ofNat 39) (by omega) h4
      have f63 := f5.trans f62
      refine wp_cv (A' := A59) (v := some (.int (Int32.ofNat (mg_P M)))) rfl rfl rfl rfl rfl h4.mc (by omega) (g60) rfl ?_
      show am_wp d 31 (107, [some (.ref (r)), some (.int (sb_i sg)), some (.int ((-1)))], [.int (Int32.ofNat (mg_P M))], A59) _
      refine wp_st 1 (f' := (108, [some (.ref (r)), some (.int (sb_i sg)), some (.int ((-1)))], [], A59)) rfl ?_
      refine wp_rt rfl rfl rfl ?_
      have hres : rd_apos cs n dbl sg a M = (a + 1, mg_add M 0 (Int32.ofNat 39)) := by simp [rd_apos, c6, c6z, b53]
      rw [hres]
      exact ⟨rfl, h61, f63⟩
