/-! The reference's format: the outer row, and the whole. -/
theorem wr_pb_3 {M : mg} {vf : wr_v} {S0 S1 : rg} {inner : wr_i} {z : Int} {k i c : Nat} {w : List Nat} (h : wr_do M inner w (wr_pb M vf S0 S1 z k i) = .error c) (hc : c ≠ 3) : 2 ≤ mg_k M i := by
  by_cases h2 : 2 ≤ mg_k M i
  · exact h2
  · exfalso
    unfold wr_pb at h
    by_cases h0 : mg_k M i = 0
    · rw [if_pos h0] at h
      exact hc (wr_put_er h)
    · rw [if_neg h0, if_pos (by omega)] at h
      exact hc (wr_put_er h)
theorem wr_part_top {M : mg} {vf : wr_v} {S0 S1 : rg} {len : Bool} {inner : wr_i} {z : Int} {k i : Nat} {w : List Nat} : wr_part M vf S0 S1 len inner true z k i w = (match wr_do M inner w (wr_pb M vf S0 S1 z k i) with | .ok w' => .ok w' | .error c => if len = true ∧ (c = 1 ∨ c = 2) then wr_bare (mg_c M i) w else .error c) := by
  have hput : ∀ l, wr_put w l = (match wr_put w l with | .ok w' => .ok w' | .error c => if len = true ∧ (c = 1 ∨ c = 2) then wr_bare (mg_c M i) w else .error c) := fun l => by
    rcases hp : wr_put w l with c | w'
    · have := wr_put_er hp
      subst this
      dsimp only
      rw [if_neg (by omega)]
    · rfl
  unfold wr_part wr_pb
  by_cases h0 : mg_k M i = 0
  · rw [if_pos h0, if_pos h0]; exact hput _
  · rw [if_neg h0, if_neg h0]
    by_cases h1 : mg_k M i = 1
    · rw [if_pos h1, if_pos h1]; exact hput _
    · rw [if_neg h1, if_neg h1]
      unfold wr_arg
      rw [← wr_val_ab]
      rcases wr_val M vf S0 S1 inner i w with c | w'
      · dsimp only
        by_cases q : len = true ∧ (c = 1 ∨ c = 2)
        · rw [if_pos q, if_pos ⟨q.1, rfl, q.2⟩]
        · rw [if_neg q, if_neg (fun y => q ⟨y.1, y.2.2⟩)]
      · rfl
section FL2
variable {d b t : Nat} {len : Bool} {M : mg} {E dp : Nat → Nat} {vf : wr_v} {S0 S1 : rg} {nv : Nat} {nf cf : Nat → Int32} {bf : Nat → Bool} {lf : Nat → Int64} {A0 : am_H} {s0 : rf_S}
theorem fl_row (hd : 8 ≤ d) (hC : fx_C s0 M t E dp vf S0 S1 nv nf bf lf cf) (hM : ro_M M) : ∀ (D L : Nat), L + D = 3 → 0 < L → ∀ (o3 : Int32) (mk : Nat) (W0 : List Nat), fl_IN d b t len M E dp A0 s0 o3 mk W0 L (wr_msg M vf S0 S1 len D false)
  | 0, L, hL, hL0, o3, m9, W0 => fun e i sg z k w A u v5 Q hR hH hW hok her => fl_row1 (inner := none) hd hC hM hL0 (fun _ => by omega) (fun fn hf => by cases hf) 120 e i sg z k w A u v5 Q (by have := hR.2.1; have := hC.1.2.1; omega) hR hH hW hok her
  | D + 1, L, hL, hL0, o3, m9, W0 => fun e i sg z k w A u v5 Q hR hH hW hok her => fl_row1 (inner := some (wr_msg M vf S0 S1 len D false)) hd hC hM hL0 (fun h => by cases h) (fun fn hf => by
      cases hf
      exact ⟨fl_row hd hC hM D (L + 1) (by omega) (by omega) o3 m9 W0, fun s e z k w w' h => wr_msg_ok D false s e z k w w' h⟩) 120 e i sg z k w A u v5 Q (by have := hR.2.1; have := hC.1.2.1; omega) hR hH hW hok her
theorem fl_top {inner : wr_i} (hd : 8 ≤ d) (hC : fx_C s0 M t E dp vf S0 S1 nv nf bf lf cf) (hM : ro_M M) (hinn : inner = some (wr_msg M vf S0 S1 len 2 false)) {Q : am_O × am_H → Prop} : ∀ (f i : Nat) (w : List Nat) (A : am_H) (u : rf_S) (v5 : Option Value) (o3 : Int32) (mk : Nat), mg_P M ≤ i + f → (i < mg_P M → E i = mg_P M ∧ dp i = 0) → (∀ g, ro M false (mg_P M) g i) → fl_H A0 s0 b t 0 (if i < mg_P M then some i else none) w A u → (∀ A' u' w' o3 mk v', wr_loop M vf S0 S1 len inner true (mg_P M) 0 0 f i w = .ok w' → fl_H A0 s0 b t 0 none w' A' u' → am_wp d 167 (63, fl_L b t len o3 mk v', [], A') Q) → (∀ A' u' c, wr_loop M vf S0 S1 len inner true (mg_P M) 0 0 f i w = .error c → 1 ≤ c ∧ c ≤ 3 → rf A' b u' → u' 0 0 = .int (Int32.ofNat (c + 1)) → fl_K s0 u' → sb_fr A0 A' b (b + 38) → Q (.inl (some (.int (Int32.ofNat 0))), A')) → am_wp d 167 (63, fl_L b t len o3 mk v5, [], A) Q := by
  intro f
  induction f with
  | zero =>
    intro i w A u v5 o3 mk hf hE hro hH hok her
    rw [if_neg (by omega)] at hH
    exact hok A u w _ _ v5 rfl hH
  | succ f ih =>
    intro i w A u v5 o3 mk hf hE hro hH hok her
    by_cases hie : i < mg_P M
    · rw [if_pos hie] at hH
      obtain ⟨hEi, hdp⟩ := hE hie
      rcases hro 1 with q | ⟨ho1, ho0, hox, _⟩
      · omega
      have hrox : ∀ g, ro M false (mg_P M) g (mg_x M i) := fun g => by
        rcases hro (g + 1) with q | ⟨_, _, _, q⟩
        · omega
        · exact q
      obtain ⟨h1, h2, h3, h4, h5, h6⟩ := hH
      have hCu := hC.fr h5
      have hK1 := hCu.2.1 i hie
      obtain ⟨q1, q2, q3, q4, q5, q6, q7, q8⟩ := hK1
      rw [hEi] at q7 q8
      rw [rm_e_i] at q7
      have ht := hCu.1.1
      have hP := hCu.1.2.1
      have hy : 128 * t + i < 384 := by omega
      have hEx : mg_x M i < mg_P M → E (mg_x M i) = mg_P M ∧ dp (mg_x M i) = 0 := fun hx => ⟨(q8 hx).2.1, (q8 hx).2.2.trans hdp⟩
      have hloop : ∀ x, wr_do M inner w (wr_pb M vf S0 S1 0 0 i) = x → wr_loop M vf S0 S1 len inner true (mg_P M) 0 0 (f + 1) i w = (match (match x with | .ok w' => (.ok w' : wr_R) | .error c => if len = true ∧ (c = 1 ∨ c = 2) then wr_bare (mg_c M i) w else .error c) with | .error c => .error c | .ok w' => wr_loop M vf S0 S1 len inner true (mg_P M) 0 0 f (mg_x M i) w') := fun x hx => by
        rw [wr_loop, if_neg (by omega), wr_part_top, hx]
        generalize (match x with | .ok w' => (.ok w' : wr_R) | .error c => if len = true ∧ (c = 1 ∨ c = 2) then wr_bare (mg_c M i) w else .error c) = y
        cases y <;> rfl
      refine fl_pr0 (by omega) hy h2.2.1 h2.1 h2.2.2.2 h3 h4 q7 h1 (fun B hB fB => ?_)
      have hK' : fl_K s0 (rf_u u 51 0 (.int (rm_i (128 * t) (if mg_x M i < mg_P M then some (mg_x M i) else none)))) := h5.u (by unfold fx_j; omega)
      generalize hu1 : rf_u u 51 0 (.int (rm_i (128 * t) (if mg_x M i < mg_P M then some (mg_x M i) else none))) = u1 at hB hK'
      have g51 : u1 51 0 = rm_e (128 * t) (if mg_x M i < mg_P M then some (mg_x M i) else none) := by rw [← hu1, rf_u_eq, rm_e_i]
      have gne : ∀ j l, (j ≠ 51 ∨ l ≠ 0) → u1 j l = u j l := fun j l hj => by rw [← hu1]; exact rf_u_ne hj
      have gdw : rf_dw u1 w := ⟨(gne _ _ (by omega)).trans h2.1, h2.2.1, fun i hi => (gne _ _ (by omega)).trans (h2.2.2.1 i hi), (gne _ _ (by omega)).trans h2.2.2.2⟩
      have g22 : u1 22 0 = .int (Int32.ofNat 0) := (gne _ _ (by omega)).trans h3
      have fA := h6.trans fB
      -- a fault that comes up to here
      have herr : ∀ A' u' c v', wr_do M inner w (wr_pb M vf S0 S1 0 0 i) = .error c → fl_X A0 s0 b 1 w c A' u' u1 → am_wp d 167 (144, fl_L b t len (Int32.ofNat (128 * t + i)) w.length v', [], A') Q := by
        intro A' u' c v' hc hX
        have hl := hloop _ hc
        dsimp only at hl
        obtain ⟨x1, x2, x3, ⟨L', x4, x4'⟩, x5, x6, x7, x8⟩ := hX
        by_cases hlc : len = true ∧ (c = 1 ∨ c = 2)
        · rw [if_pos hlc] at hl
          obtain ⟨hlen, hcc⟩ := hlc
          have hk2 := wr_pb_3 hc (by omega)
          have hKu := (hC.fr x5).2.1 i hie
          obtain ⟨r1, r2, ⟨X, N, r3, r4, r5⟩, r6, r7, r8⟩ := hKu.2.1 hk2
          have hcl : mg_ct (mg_k M) i < mg_ct (mg_k M) (mg_P M) := mg_ct_lt hk2 hie
          have hct := hCu.1.2.2.2
          have hN := rm_w_lt (by omega) r3
          rw [r4] at hl
          have hkk : ∀ B' u'', rf B' b u'' → rf_wx u'' (wx_app (some w) ([123] ++ (rf_ln N 4 ++ [125]))) → rf_wk (rf_u (rf_u (rf_u u' 0 0 (.int (Int32.ofNat 0))) 48 0 (.int (Int32.ofNat w.length))) 22 0 (.int (Int32.ofNat 0))) u'' → sb_fr A' B' b (b + 38) → am_wp d 167 (63, fl_L b t true (Int32.ofNat (128 * t + i)) w.length v', [], B') Q := by
            intro B' u'' y1 y2 y3 y4
            have yK : fl_K s0 u'' := (((x5.u (by unfold fx_j; omega)).u (by unfold fx_j; omega)).u (by unfold fx_j; omega)).wk y3
            have y22 : u'' 22 0 = .int (Int32.ofNat 0) := (y3 _ _ (by omega) (by omega) (by omega)).trans (rf_u_eq ..)
            have y51 : u'' 51 0 = u1 51 0 := (y3 _ _ (by omega) (by omega) (by omega)).trans ((rf_u_ne (Or.inl (by decide))).trans ((rf_u_ne (Or.inl (by decide))).trans ((rf_u_ne (Or.inl (by decide))).trans (x7 0 (by omega)))))
            rcases wr_bare_wx (w := w) r3 with ⟨w', p1, p2⟩ | ⟨p1, p2⟩
            · rw [p1] at y2
              rw [p2] at hl
              dsimp only at hl
              rw [hl] at hok her
              subst hlen
              exact ih (mg_x M i) w' _ u'' _ _ _ (by omega) hEx hrox ⟨y1, y2, y22, y51.trans g51, yK, x6.trans y4⟩ hok her
            · rw [p1] at y2
              rw [p2] at hl
              have y2 : u'' 0 0 = .int (Int32.ofNat 4) := y2
              exact fl_hd4 (L := 0) (by omega) y2 y22 y1 (her _ u'' 3 hl (by omega) y1 y2 yK (x6.trans y4))
          subst hlen
          rcases hcc with hcc | hcc
          · subst hcc
            exact fl_ln2 (by omega) hy (by omega) (by omega) x2 r2 r5 h2.2.1 (x8 (by omega)) x1 hkk
          · subst hcc
            exact fl_ln3 (by omega) hy (by omega) (by omega) x2 r2 r5 h2.2.1 (x8 (by omega)) x1 hkk
        · rw [if_neg hlc] at hl
          have hfin := her A' u' c hl x3 x1 x2 x5 x6
          rcases (show c = 1 ∨ c = 2 ∨ c = 3 by omega) with e | e | e
          · subst e
            exact fl_er2 x4 (by rcases len with _ | _; rfl; exact absurd ⟨rfl, Or.inl rfl⟩ hlc) x2 x4' x1 hfin
          · subst e
            exact fl_er3 x4 (by rcases len with _ | _; rfl; exact absurd ⟨rfl, Or.inr rfl⟩ hlc) x2 x4' x1 hfin
          · subst e
            exact fl_er4 x4 x2 x4' x1 hfin
      obtain ⟨q, hev, hq⟩ := fp_part (d := d - 1) (z := 0) (k := 0) (by omega) (hC.fr hK') hie hdp g22 (fun h => by have := ho1 h; cases this) ho0 (by decide) (by omega) gdw hB
      refine ⟨q, hev, fa_Q_in hq, ?_⟩
      rcases hx : wr_pb M vf S0 S1 0 0 i with c | l | y
      · rw [hx] at hq herr
        obtain ⟨e1, e2, e3, e4⟩ := hq
        exact herr _ _ c _ rfl ⟨e2, rf_u_eq .., by omega, ⟨0, by omega, (rf_u_ne (Or.inl (by decide))).trans g22⟩, hK'.u (by unfold fx_j; omega), fA.trans e3, fun l hl => (rf_u_ne (Or.inl (by decide))), fun _ => fun i hi => (rf_u_ne (Or.inl (by decide))).trans (gdw.2.2.1 i hi)⟩
      · rw [hx] at hq herr hloop
        obtain ⟨e1, u2, e2, e3, e4, e5⟩ := hq
        have w22 : u2 22 0 = .int (Int32.ofNat 0) := (e4 _ _ (by omega) (by omega) (by omega)).trans g22
        rcases wx_put (w := w) (l := l) with ⟨p1, p2⟩ | ⟨p1, p2⟩
        · rw [p1] at e3
          have e3 : rf_dw u2 (w ++ l) := e3
          have hl := hloop (.ok (w ++ l)) p2
          dsimp only at hl
          rw [hl] at hok her
          exact fl_ok e3.2.2.2 e2 (ih (mg_x M i) (w ++ l) _ u2 _ _ _ (by omega) hEx hrox ⟨e2, e3, w22, (e4 _ _ (by omega) (by omega) (by omega)).trans g51, hK'.wk e4, fA.trans e5⟩ hok her)
        · rw [p1] at e3
          have e3 : u2 0 0 = .int (Int32.ofNat 4) := e3
          exact herr _ u2 3 _ p2 ⟨e2, e3, by omega, ⟨0, by omega, w22⟩, hK'.wk e4, fA.trans e5, fun l hl => (e4 _ _ (by omega) (by omega) (by omega)), fun h => absurd rfl h⟩
      · rw [hx] at hq herr hloop
        obtain ⟨e1, c, y', k', e2, e3, e4, e5, e6, e7, e8, e9⟩ := hq
        obtain ⟨y1, y2, y3⟩ := y
        dsimp only at e2 e6 e7 e8
        subst e2
        have hK2 := hCu.2.2.2.1 c e3
        obtain ⟨t1, t2, t3, t4, t5, t6, t7, t8⟩ := hK2
        rw [e4, hdp] at t8
        have hdo : wr_do M inner w (.ok (.inr (some c, y2, y3))) = wr_msg M vf S0 S1 len 2 false (mg_a M c) (mg_e M c) y2 y3 w := by rw [hinn]; rfl
        have p51 : fx_pu u1 M (128 * t) 0 c y' k' 51 (0 + 1) = rm_e (128 * t) (if mg_a M c < mg_e M c then some (mg_a M c) else none) := by
          unfold fx_pu
          rw [rf_u_ne (Or.inl (by decide)), rf_u_ne (Or.inl (by decide)), rf_u_eq]
        have p22 : fx_pu u1 M (128 * t) 0 c y' k' 22 0 = .int (Int32.ofNat (0 + 1)) := by
          unfold fx_pu
          rw [rf_u_ne (Or.inl (by decide)), rf_u_ne (Or.inl (by decide)), rf_u_ne (Or.inl (by decide)), rf_u_eq]
        have p52 : fx_pu u1 M (128 * t) 0 c y' k' 52 (0 + 1) = .long y' := by
          unfold fx_pu
          rw [rf_u_ne (Or.inl (by decide)), rf_u_eq]
        have p53 : fx_pu u1 M (128 * t) 0 c y' k' 53 (0 + 1) = .int (Int32.ofNat k') := by
          unfold fx_pu
          rw [rf_u_eq]
        have pne : ∀ j l, j ≠ 22 → l ≠ 0 + 1 → fx_pu u1 M (128 * t) 0 c y' k' j l = u1 j l := fun j l h1 h2 => by
          unfold fx_pu
          rw [rf_u_ne (Or.inr h2), rf_u_ne (Or.inr h2), rf_u_ne (Or.inr h2), rf_u_ne (Or.inl h1)]
        have pje : ∀ j l, j ≠ 22 → j ≠ 51 → j ≠ 52 → j ≠ 53 → fx_pu u1 M (128 * t) 0 c y' k' j l = u1 j l := fun j l h1 h2 h3 h4 => by
          unfold fx_pu
          rw [rf_u_ne (Or.inl h4), rf_u_ne (Or.inl h3), rf_u_ne (Or.inl h2), rf_u_ne (Or.inl h1)]
        have pK : fl_K s0 (fx_pu u1 M (128 * t) 0 c y' k') := fun j hj => by
          rw [← hK' j hj]
          funext l
          unfold fx_j at hj
          exact pje j l (by omega) (by omega) (by omega) (by omega)
        have pdw : rf_dw (fx_pu u1 M (128 * t) 0 c y' k') w := ⟨(pje _ _ (by omega) (by omega) (by omega) (by omega)).trans gdw.1, gdw.2.1, fun i hi => (pje _ _ (by omega) (by omega) (by omega) (by omega)).trans (gdw.2.2.1 i hi), (pje _ _ (by omega) (by omega) (by omega) (by omega)).trans gdw.2.2.2⟩
        generalize fx_pu u1 M (128 * t) 0 c y' k' = u2 at e5 p51 p22 p52 p53 pne pje pK pdw
        have hR2 : fl_R M E dp (mg_e M c) 1 (mg_a M c) (decide (mg_k M (mg_w M c) ≠ 6)) y2 y3 u2 := by
          refine ⟨t8, t6, hM.2 c e3, fun hs => ?_, e7, e8⟩
          have := of_decide_eq_true hs
          rw [e4] at this
          have := e6 this
          have p52 : u2 52 1 = .long y' := p52
          have p53 : u2 53 1 = .int (Int32.ofNat k') := p53
          rw [p52, p53, this.1, this.2]
          exact ⟨rfl, rfl⟩
        refine fl_ok pdw.2.2.2 e5 (fl_row hd hC hM 2 1 rfl (by omega) _ _ w (mg_e M c) (mg_a M c) _ y2 y3 w _ u2 _ Q hR2 ⟨e5, pdw, p22, p51, pK, fA.trans e9⟩ (List.prefix_refl _) (fun A' u' w' v' a1 a2 a3 a4 => ?_) (fun A' u' c' v' a1 a2 => ?_))
        · have hl := hloop (.ok w') (hdo.trans a1)
          dsimp only at hl
          rw [hl] at hok her
          obtain ⟨b1, b2, b3, b4, b5, b6⟩ := a2
          refine fl_pop (L := 0) (by omega) b2.2.2.2 b3 b4 b1 (fun C hC' fC => ?_)
          exact ih (mg_x M i) w' _ _ _ _ _ (by omega) hEx hrox ⟨hC', ⟨(rf_u_ne (Or.inl (by decide))).trans b2.1, b2.2.1, fun i hi => (rf_u_ne (Or.inl (by decide))).trans (b2.2.2.1 i hi), (rf_u_ne (Or.inl (by decide))).trans b2.2.2.2⟩, rf_u_eq .., (rf_u_ne (Or.inl (by decide))).trans ((a3.1 0 (by omega)).trans ((pne _ _ (by omega) (by omega)).trans g51)), b5.u (by unfold fx_j; omega), b6.trans fC⟩ hok her
        · obtain ⟨x1, x2, x3, x4, x5, x6, x7, x8⟩ := a2
          exact herr A' u' c' v' (hdo.trans a1) ⟨x1, x2, x3, x4, x5, x6, fun l hl => (x7 l hl).trans (pne _ _ (by omega) (by omega)), x8⟩
    · rw [if_neg hie] at hH
      exact hok A u w _ _ v5 (by rw [wr_loop, if_pos (Or.inl (by omega))]) hH
end FL2
