/-! The reference's format: rows. -/
section FL
variable {d b t : Nat} {len : Bool} {M : mg} {E dp : Nat → Nat} {vf : wr_v} {S0 S1 : rg} {nv : Nat} {nf cf : Nat → Int32} {bf : Nat → Bool} {lf : Nat → Int64} {A0 : am_H} {s0 : rf_S}
def fl_IN (d b t : Nat) (len : Bool) (M : mg) (E dp : Nat → Nat) (A0 : am_H) (s0 : rf_S) (o3 : Int32) (mk : Nat) (W0 : List Nat) (L : Nat) (fn : Nat → Nat → Int → Nat → List Nat → wr_R) : Prop := ∀ (e i : Nat) (sg : Bool) (z : Int) (k : Nat) (w : List Nat) (A : am_H) (u : rf_S) (v5 : Option Value) (Q : am_O × am_H → Prop), fl_R M E dp e L i sg z k u → fl_H A0 s0 b t L (if i < e then some i else none) w A u → W0 <+: w → (∀ A' u' w' v', fn i e z k w = .ok w' → fl_H A0 s0 b t L none w' A' u' → fl_W L u u' → W0 <+: w' → am_wp d 167 (63, fl_L b t len o3 mk v', [], A') Q) → (∀ A' u' c v', fn i e z k w = .error c → fl_X A0 s0 b L W0 c A' u' u → am_wp d 167 (144, fl_L b t len o3 mk v', [], A') Q) → am_wp d 167 (63, fl_L b t len o3 mk v5, [], A) Q
theorem fl_row1 {o3 : Int32} {mk : Nat} {W0 : List Nat} {L : Nat} {inner : wr_i} (hd : 8 ≤ d) (hC : fx_C s0 M t E dp vf S0 S1 nv nf bf lf cf) (hM : ro_M M) (hL0 : 0 < L) (hin0 : inner = none → L = 3) (hin1 : ∀ fn, inner = some fn → fl_IN d b t len M E dp A0 s0 o3 mk W0 (L + 1) fn ∧ ∀ s e z k w w', fn s e z k w = .ok w' → w <+: w') : ∀ (f e i : Nat) (sg : Bool) (z : Int) (k : Nat) (w : List Nat) (A : am_H) (u : rf_S) (v5 : Option Value) (Q : am_O × am_H → Prop), e ≤ i + f → fl_R M E dp e L i sg z k u → fl_H A0 s0 b t L (if i < e then some i else none) w A u → W0 <+: w → (∀ A' u' w' v', wr_loop M vf S0 S1 len inner false e z k f i w = .ok w' → fl_H A0 s0 b t L none w' A' u' → fl_W L u u' → W0 <+: w' → am_wp d 167 (63, fl_L b t len o3 mk v', [], A') Q) → (∀ A' u' c v', wr_loop M vf S0 S1 len inner false e z k f i w = .error c → fl_X A0 s0 b L W0 c A' u' u → am_wp d 167 (144, fl_L b t len o3 mk v', [], A') Q) → am_wp d 167 (63, fl_L b t len o3 mk v5, [], A) Q := by
  intro f
  induction f with
  | zero =>
    intro e i sg z k w A u v5 Q hf hR hH hW hok her
    rw [if_neg (by omega)] at hH
    exact hok A u w v5 rfl hH ⟨fun _ _ => rfl, fun _ _ => ⟨rfl, rfl⟩⟩ hW
  | succ f ih =>
    intro e i sg z k w A u v5 Q hf hR hH hW hok her
    by_cases hie : i < e
    · rw [if_pos hie] at hH
      obtain ⟨hr1, hr2, hr3, hr4, hr5, hr6⟩ := hR
      obtain ⟨hE, hdp⟩ := hr1 hie
      have hro := hr3 1
      rcases hro with q | ⟨ho1, ho0, hox, _⟩
      · omega
      have hrox : ∀ g, ro M sg e g (mg_x M i) := fun g => by
        rcases hr3 (g + 1) with q | ⟨_, _, _, q⟩
        · omega
        · exact q
      obtain ⟨h1, h2, h3, h4, h5, h6⟩ := hH
      have hCu := hC.fr h5
      have hiP : i < mg_P M := by omega
      have hK1 := hCu.2.1 i hiP
      obtain ⟨q1, q2, q3, q4, q5, q6, q7, q8⟩ := hK1
      rw [hE] at q7 q8
      rw [rm_e_i] at q7
      have ht := hCu.1.1
      have hP := hCu.1.2.1
      have hL4 : L < 4 := by omega
      have hy : 128 * t + i < 384 := by omega
      have hloop : ∀ x, wr_part M vf S0 S1 len inner false z k i w = x → wr_loop M vf S0 S1 len inner false e z k (f + 1) i w = (match x with | .error c => .error c | .ok w' => wr_loop M vf S0 S1 len inner false e z k f (mg_x M i) w') := fun x hx => by
        rw [wr_loop, if_neg (by omega), hx]
        cases x <;> rfl
      rw [wr_part_pb] at hloop
      refine fl_prL (by omega) hy hL4 hL0 h2.2.2.2 h3 h4 q7 h1 (fun B hB fB => ?_)
      have hK' : fl_K s0 (rf_u u 51 L (.int (rm_i (128 * t) (if mg_x M i < e then some (mg_x M i) else none)))) := h5.u (by unfold fx_j; omega)
      generalize hu1 : rf_u u 51 L (.int (rm_i (128 * t) (if mg_x M i < e then some (mg_x M i) else none))) = u1 at hB hK'
      have g51 : u1 51 L = rm_e (128 * t) (if mg_x M i < e then some (mg_x M i) else none) := by rw [← hu1, rf_u_eq, rm_e_i]
      have gne : ∀ j l, (j ≠ 51 ∨ l ≠ L) → u1 j l = u j l := fun j l hj => by rw [← hu1]; exact rf_u_ne hj
      have gdw : rf_dw u1 w := ⟨(gne _ _ (by omega)).trans h2.1, h2.2.1, fun i hi => (gne _ _ (by omega)).trans (h2.2.2.1 i hi), (gne _ _ (by omega)).trans h2.2.2.2⟩
      have g22 : u1 22 0 = .int (Int32.ofNat L) := (gne _ _ (by omega)).trans h3
      have gW : fl_W L u u1 := ⟨fun l hl => gne _ _ (by omega), fun l hl => ⟨gne _ _ (by omega), gne _ _ (by omega)⟩⟩
      have fA := h6.trans fB
      obtain ⟨q, hev, hq⟩ := fp_part (d := d - 1) (z := z) (k := k) (by omega) (hC.fr hK') hiP hdp g22 (fun h => ⟨(gne _ _ (by omega)).trans (hr4 (ho1 h)).1, (gne _ _ (by omega)).trans (hr4 (ho1 h)).2⟩) ho0 hr5 hr6 gdw hB
      refine ⟨q, hev, fa_Q_in hq, ?_⟩
      have hRn : ∀ v, (∀ l, l ≤ L → v 52 l = u 52 l ∧ v 53 l = u 53 l) → fl_R M E dp e L (mg_x M i) sg z k v := fun v hv => ⟨fun hx => ⟨(q8 hx).2.1, (q8 hx).2.2.trans hdp⟩, hr2, hrox, fun hs => ⟨(hv L (Nat.le_refl _)).1.trans (hr4 hs).1, (hv L (Nat.le_refl _)).2.trans (hr4 hs).2⟩, hr5, hr6⟩
      rcases hx : wr_pb M vf S0 S1 z k i with c | l | y
      · rw [hx] at hq
        have hl := hloop (.error c) (by rw [hx]; rfl)
        obtain ⟨e1, e2, e3, e4⟩ := hq
        refine her _ _ c _ hl ⟨e2, rf_u_eq .., by omega, ⟨L, hL4, (rf_u_ne (Or.inl (by decide))).trans g22⟩, hK'.u (by unfold fx_j; omega), fA.trans e3, fun l hl => (rf_u_ne (Or.inl (by decide))).trans (gW.1 l hl), fun _ => fun i hi => (rf_u_ne (Or.inl (by decide))).trans (fl_pre hW gdw i hi)⟩
      · rw [hx] at hq
        obtain ⟨e1, u2, e2, e3, e4, e5⟩ := hq
        have w22 : u2 22 0 = .int (Int32.ofNat L) := (e4 _ _ (by omega) (by omega) (by omega)).trans g22
        have wW : fl_W L u u2 := ⟨fun l hl => (e4 _ _ (by omega) (by omega) (by omega)).trans (gW.1 l hl), fun l hl => ⟨(e4 _ _ (by omega) (by omega) (by omega)).trans (gW.2 l hl).1, (e4 _ _ (by omega) (by omega) (by omega)).trans (gW.2 l hl).2⟩⟩
        rcases wx_put (w := w) (l := l) with ⟨p1, p2⟩ | ⟨p1, p2⟩
        · rw [p1] at e3
          have e3 : rf_dw u2 (w ++ l) := e3
          have hl := hloop (.ok (w ++ l)) (by rw [hx]; exact p2)
          dsimp only at hl
          rw [hl] at hok her
          refine fl_ok e3.2.2.2 e2 (ih e (mg_x M i) sg z k (w ++ l) _ u2 _ Q (by omega) (hRn u2 wW.2) ⟨e2, e3, w22, (e4 _ _ (by omega) (by omega) (by omega)).trans g51, hK'.wk e4, fA.trans e5⟩ (hW.trans (List.prefix_append _ _)) (fun A' u' w' v' a1 a2 a3 a4 => hok A' u' w' v' a1 a2 (wW.trans a3) a4) (fun A' u' c v' a1 a2 => her A' u' c v' a1 ?_))
          obtain ⟨x1, x2, x3, x4, x5, x6, x7, x8⟩ := a2
          exact ⟨x1, x2, x3, x4, x5, x6, fun l hl => (x7 l hl).trans (wW.1 l hl), x8⟩
        · rw [p1] at e3
          have e3 : u2 0 0 = .int (Int32.ofNat 4) := e3
          have hl := hloop (.error 3) (by rw [hx]; exact p2)
          exact her _ u2 3 _ hl ⟨e2, e3, by omega, ⟨L, hL4, w22⟩, hK'.wk e4, fA.trans e5, wW.1, fun h => absurd rfl h⟩
      · rw [hx] at hq
        obtain ⟨e1, c, y', k', e2, e3, e4, e5, e6, e7, e8, e9⟩ := hq
        obtain ⟨y1, y2, y3⟩ := y
        dsimp only at e2 e6 e7 e8
        subst e2
        have hK2 := hCu.2.2.2.1 c e3
        obtain ⟨t1, t2, t3, t4, t5, t6, t7, t8⟩ := hK2
        rw [e4, hdp] at t4
        rw [e4, hdp] at t8
        rcases inner with _ | fn
        · have := hin0 rfl
          omega
        · obtain ⟨hin, hpre⟩ := hin1 fn rfl
          have hl := hloop (fn (mg_a M c) (mg_e M c) y2 y3 w) (by rw [hx]; rfl)
          have hpu : ∀ j l, ¬ fx_j j → fx_pu u1 M (128 * t) L c y' k' j l = u1 j l := fun j l hj => by
            unfold fx_j at hj
            unfold fx_pu
            rw [rf_u_ne (Or.inl (by omega)), rf_u_ne (Or.inl (by omega)), rf_u_ne (Or.inl (by omega)), rf_u_ne (Or.inl (by omega))]
          have p51 : fx_pu u1 M (128 * t) L c y' k' 51 (L + 1) = rm_e (128 * t) (if mg_a M c < mg_e M c then some (mg_a M c) else none) := by
            unfold fx_pu
            rw [rf_u_ne (Or.inl (by decide)), rf_u_ne (Or.inl (by decide)), rf_u_eq]
          have p22 : fx_pu u1 M (128 * t) L c y' k' 22 0 = .int (Int32.ofNat (L + 1)) := by
            unfold fx_pu
            rw [rf_u_ne (Or.inl (by decide)), rf_u_ne (Or.inl (by decide)), rf_u_ne (Or.inl (by decide)), rf_u_eq]
          have p52 : fx_pu u1 M (128 * t) L c y' k' 52 (L + 1) = .long y' := by
            unfold fx_pu
            rw [rf_u_ne (Or.inl (by decide)), rf_u_eq]
          have p53 : fx_pu u1 M (128 * t) L c y' k' 53 (L + 1) = .int (Int32.ofNat k') := by
            unfold fx_pu
            rw [rf_u_eq]
          have pne : ∀ j l, j ≠ 22 → l ≠ L + 1 → fx_pu u1 M (128 * t) L c y' k' j l = u1 j l := fun j l h1 h2 => by
            unfold fx_pu
            rw [rf_u_ne (Or.inr h2), rf_u_ne (Or.inr h2), rf_u_ne (Or.inr h2), rf_u_ne (Or.inl h1)]
          have pje : ∀ j l, j ≠ 22 → j ≠ 51 → j ≠ 52 → j ≠ 53 → fx_pu u1 M (128 * t) L c y' k' j l = u1 j l := fun j l h1 h2 h3 h4 => by
            unfold fx_pu
            rw [rf_u_ne (Or.inl h4), rf_u_ne (Or.inl h3), rf_u_ne (Or.inl h2), rf_u_ne (Or.inl h1)]
          have pK : fl_K s0 (fx_pu u1 M (128 * t) L c y' k') := fun j hj => by
            rw [← hK' j hj]
            funext l
            exact hpu j l hj
          have pdw : rf_dw (fx_pu u1 M (128 * t) L c y' k') w := ⟨(pje _ _ (by omega) (by omega) (by omega) (by omega)).trans gdw.1, gdw.2.1, fun i hi => (pje _ _ (by omega) (by omega) (by omega) (by omega)).trans (gdw.2.2.1 i hi), (pje _ _ (by omega) (by omega) (by omega) (by omega)).trans gdw.2.2.2⟩
          generalize fx_pu u1 M (128 * t) L c y' k' = u2 at e5 p51 p22 p52 p53 pne pje pK pdw
          have hR2 : fl_R M E dp (mg_e M c) (L + 1) (mg_a M c) (decide (mg_k M (mg_w M c) ≠ 6)) y2 y3 u2 := by
            refine ⟨t8, t6, hM.2 c e3, fun hs => ?_, e7, e8⟩
            have := of_decide_eq_true hs
            rw [e4] at this
            have := e6 this
            rw [p52, p53, this.1, this.2]
            exact ⟨rfl, rfl⟩
          have pW : fl_W L u u2 := ⟨fun l hl => (pne _ _ (by omega) (by omega)).trans (gW.1 l hl), fun l hl => ⟨(pne _ _ (by omega) (by omega)).trans (gW.2 l hl).1, (pne _ _ (by omega) (by omega)).trans (gW.2 l hl).2⟩⟩
          refine fl_ok pdw.2.2.2 e5 (hin (mg_e M c) (mg_a M c) _ y2 y3 w _ u2 _ Q hR2 ⟨e5, pdw, p22, p51, pK, fA.trans e9⟩ hW (fun A' u' w' v' a1 a2 a3 a4 => ?_) (fun A' u' c' v' a1 a2 => ?_))
          · rw [a1] at hl
            dsimp only at hl
            rw [hl] at hok her
            obtain ⟨b1, b2, b3, b4, b5, b6⟩ := a2
            refine fl_pop t4 b2.2.2.2 b3 b4 b1 (fun C hC' fC => ?_)
            have nW : fl_W L u (rf_u u' 22 0 (.int (Int32.ofNat L))) := ⟨fun l hl => (rf_u_ne (Or.inl (by decide))).trans ((a3.1 l (by omega)).trans (pW.1 l hl)), fun l hl => ⟨(rf_u_ne (Or.inl (by decide))).trans ((a3.2 l (by omega)).1.trans (pW.2 l hl).1), (rf_u_ne (Or.inl (by decide))).trans ((a3.2 l (by omega)).2.trans (pW.2 l hl).2)⟩⟩
            refine ih e (mg_x M i) sg z k w' _ _ _ Q (by omega) (hRn _ nW.2) ⟨hC', ⟨(rf_u_ne (Or.inl (by decide))).trans b2.1, b2.2.1, fun i hi => (rf_u_ne (Or.inl (by decide))).trans (b2.2.2.1 i hi), (rf_u_ne (Or.inl (by decide))).trans b2.2.2.2⟩, rf_u_eq .., (rf_u_ne (Or.inl (by decide))).trans ((a3.1 L (by omega)).trans ((pne _ _ (by omega) (by omega)).trans g51)), b5.u (by unfold fx_j; omega), b6.trans fC⟩ a4 (fun A' u' w' v' c1 c2 c3 c4 => hok A' u' w' v' c1 c2 (nW.trans c3) c4) (fun A' u' c v' c1 c2 => her A' u' c v' c1 ?_)
            obtain ⟨x1, x2, x3, x4, x5, x6, x7, x8⟩ := c2
            exact ⟨x1, x2, x3, x4, x5, x6, fun l hl => (x7 l hl).trans (nW.1 l hl), x8⟩
          · rw [a1] at hl
            dsimp only at hl
            obtain ⟨x1, x2, x3, x4, x5, x6, x7, x8⟩ := a2
            exact her A' u' c' v' hl ⟨x1, x2, x3, x4, x5, x6, fun l hl => (x7 l (by omega)).trans (pW.1 l hl), x8⟩
    · rw [if_neg hie] at hH
      exact hok A u w v5 (by rw [wr_loop, if_pos (Or.inl (by omega))]) hH ⟨fun _ _ => rfl, fun _ _ => ⟨rfl, rfl⟩⟩ hW
end FL
