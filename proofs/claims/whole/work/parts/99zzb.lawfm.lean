/-! The law's calls: format. -/
section LV
variable {ws : List Int32} {A B C : am_H} {k d : Nat}
/-- the result may have changed, and what no one reads -/
theorem lw_R.fmt {f : Int32} {cs : List Nat} {n : Nat} {xs : List sb_vt} {nv : Nat} {M0 M1 : mg} {z0 z1 : Bool} {S0 S1 : rg} {w1 w2 : List Nat} {s u : rf_S} (h : lw_R f cs n xs nv M0 M1 z0 z1 S0 S1 w1 s) (hu : ∀ j, ¬ fx_j j → j ≠ 49 → j ≠ 50 → u j = s j) (hO : lw_O u w2) : lw_R f cs n xs nv M0 M1 z0 z1 S0 S1 w2 u := by
  obtain ⟨q1, q2, q3, q4, q5, q6, q7, q8, q9⟩ := h
  have e : ∀ j, j ≠ 0 → j ≠ 22 → j < 47 → u j = s j := fun j h1 h2 h3 => hu j (by unfold fx_j; omega) (by omega) (by omega)
  exact ⟨q1.fr (e _ (by omega) (by omega) (by omega)) (e _ (by omega) (by omega) (by omega)), by rw [e 1 (by omega) (by omega) (by omega)]; exact q2, q3.fr (by rw [e _ (by omega) (by omega) (by omega)]) (by rw [e _ (by omega) (by omega) (by omega)]) (fun j i _ _ _ _ => by rw [e _ (by omega) (by omega) (by omega)]) (fun j i _ _ _ _ => by rw [e _ (by omega) (by omega) (by omega)]), q4.fr (by rw [e _ (by omega) (by omega) (by omega)]) (by rw [e _ (by omega) (by omega) (by omega)]) (fun j i _ _ _ _ => by rw [e _ (by omega) (by omega) (by omega)]) (fun j i _ _ _ _ => by rw [e _ (by omega) (by omega) (by omega)]), ⟨q5.1.fr q5.2 (fun j i _ _ _ _ => by rw [e _ (by omega) (by omega) (by omega)]) (fun j i _ _ _ _ => by rw [e _ (by omega) (by omega) (by omega)]) (fun j i _ _ _ _ => by rw [e _ (by omega) (by omega) (by omega)]), q5.2⟩, ⟨q6.1.fr q6.2 (fun j i _ _ _ _ => by rw [e _ (by omega) (by omega) (by omega)]) (fun j i _ _ _ _ => by rw [e _ (by omega) (by omega) (by omega)]) (fun j i _ _ _ _ => by rw [e _ (by omega) (by omega) (by omega)]), q6.2⟩, q7.fr (fun j _ _ => e j (by omega) (by omega) (by omega)), hO, q9.fr (e _ (by omega) (by omega) (by omega)) (e _ (by omega) (by omega) (by omega)) (e _ (by omega) (by omega) (by omega)) (e _ (by omega) (by omega) (by omega))⟩
/-- what the class's format says of slot t, in one way for both slots -/
def fm_Q (A : am_H) (f : Int32) (cs : List Nat) (n : Nat) (xs : List sb_vt) (nv : Nat) (M0 M1 : mg) (z0 z1 : Bool) (S0 S1 : rg) (w1 : List Nat) (z : Bool) (x : wr_R) (q : am_O × am_H) : Prop := if z = true then (match x with
  | .error c => (∃ y, q.1 = .inr y ∧ am_knd q.2 y = (if c = 1 then 213 else if c = 2 then 211 else 212) ∧ cl_E q.2 f cs n xs nv M0 M1 z0 z1 S0 S1 w1 ∧ cl_F A q.2 2)
  | .ok w9 => q.1 = .inl (some (.int (Int32.ofNat w9.length))) ∧ cl_E q.2 f cs n xs nv M0 M1 z0 z1 S0 S1 w9 ∧ cl_F A q.2 1) else (∃ y, q.1 = .inr y ∧ am_knd q.2 y = 210 ∧ cl_E q.2 f cs n xs nv M0 M1 z0 z1 S0 S1 w1 ∧ cl_F A q.2 1)
theorem wp_imp {d m : Nat} {f : am_F} {P Q : am_O × am_H → Prop} (h : am_wp d m f P) (hi : ∀ q, P q → Q q) : am_wp d m f Q := by
  obtain ⟨q, h1, h2⟩ := h
  exact ⟨q, h1, hi q h2⟩
theorem lv_fmt1 {t : Nat} {len : Bool} {M : mg} {z : Bool} {f : Int32} {cs : List Nat} {n : Nat} {xs : List sb_vt} {nv : Nat} {M0 M1 : mg} {z0 z1 : Bool} {S0 S1 : rg} {w1 : List Nat} {s : rf_S} (hd : 50 ≤ d) (ht : t ≤ 1) (h1 : cl_E A f cs n xs nv M0 M1 z0 z1 S0 S1 w1) (h2 : rf A 128 s) (h3 : lw_R f cs n xs nv M0 M1 z0 z1 S0 S1 w1 s) (h4 : lw_A ws A k) (hM : lw_Ms s M z t) (hcl : am_wp (d - 1) 99 (0, am_ent 99 [.ref 45, .int (Int32.ofNat t), .int (sb_i len)], [], A) (fm_Q A f cs n xs nv M0 M1 z0 z1 S0 S1 w1 z (wr_msg M (vr_f xs nv) S0 S1 len 3 true 0 (mg_P M) 0 0 []))) : lv_U ws A k d 98 [.ref 45, .int (Int32.ofNat t), .int (sb_i len), .ref 166] 167 [.ref 128, .int (Int32.ofNat t), .int (sb_i len)] := by
  obtain ⟨vs, hk⟩ := h1.k
  obtain ⟨y0, hy⟩ := h4.2.1
  have hb0 := h3.2.2.2.2.1
  have hb1 := h3.2.2.2.2.2.1
  obtain ⟨nf, bf, lf, cf, hv1, hv2⟩ := h3.2.2.2.2.2.2.1
  rcases hz : z with _ | _
  · obtain ⟨⟨o9, B⟩, gg, hq1, hq2, hq3⟩ := hp_98 (d := d) (Q := fun q => q.1 = .inl (some (.int (Int32.ofNat 1))) ∧ cl_E q.2 f cs n xs nv M0 M1 z0 z1 S0 S1 w1 ∧ cl_F A q.2 1) (by omega) hk hcl (fun q hq => by
      unfold fm_Q at hq
      rw [hz, if_neg (by decide)] at hq
      obtain ⟨e, e1, e2, e3, e4⟩ := hq
      exact Or.inr ⟨e, e1, Or.inl ⟨e2, rfl, e3, e4⟩⟩)
    dsimp only at hq1 hq2 hq3
    subst hq1
    have hB := h2.cl hq3 h4.2.2.1
    have hA := h4.cl hq3 (by omega)
    have h4z := hM.1
    rw [hz] at h4z
    obtain ⟨C, g1, g2, g3⟩ := fl_emp (d := d) (len := len) ht h4z hB
    exact ⟨B, C, 1, _, ⟨vs, hk⟩, gg, hB.k, hA.1, g1, g2.k, rn_thr (rf_u_eq ..) g2, Or.inr ⟨by omega, by omega⟩, lw_mk hq2 hA g3 g2 (h3.fr (fun j hj => rf_u_row j hj))⟩
  · obtain ⟨hK, hro, hwf⟩ := hM.2 hz
    have h4z := hM.1
    rw [hz] at h4z
    have hrun : ∀ B, rf B 128 s → am_wp d 167 (0, am_ent 167 [.ref 128, .int (Int32.ofNat t), .int (sb_i len)], [], B) (rf_FQ B s 128 (wr_msg M (vr_f xs nv) S0 S1 len 3 true 0 (mg_P M) 0 0 [])) := fun B hB => rq_fmt (by omega) ht h4z hK (fun i hi => (hwf.1 i hi).2.1) hv1 (vr_rv hv2) ⟨hb0.1, hb1.1⟩ hb0.2 hb1.2 hro hB
    rcases hm : wr_msg M (vr_f xs nv) S0 S1 len 3 true 0 (mg_P M) 0 0 [] with c | w9
    · have hc3 : 1 ≤ c ∧ c ≤ 3 := by
        obtain ⟨⟨o', C⟩, g', hc⟩ := hrun A h2
        rw [hm] at hc
        exact hc.2.choose_spec.2.2.1
      obtain ⟨⟨o9, B⟩, gg, hq1, hq2, hq3⟩ := hp_98 (d := d) (Q := fun q => q.1 = .inl (some (.int (Int32.ofNat (c + 1)))) ∧ cl_E q.2 f cs n xs nv M0 M1 z0 z1 S0 S1 w1 ∧ cl_F A q.2 2) (by omega) hk hcl (fun q hq => by
        unfold fm_Q at hq
        rw [hz, if_pos rfl, hm] at hq
        obtain ⟨e, e1, e2, e3, e4⟩ := hq
        refine Or.inr ⟨e, e1, ?_⟩
        rcases (show c = 1 ∨ c = 2 ∨ c = 3 by omega) with y | y | y
        · subst y
          exact Or.inr (Or.inl ⟨e2, rfl, e3, e4⟩)
        · subst y
          exact Or.inr (Or.inr (Or.inl ⟨e2, rfl, e3, e4⟩))
        · subst y
          exact Or.inr (Or.inr (Or.inr ⟨e2, rfl, e3, e4⟩)))
      dsimp only at hq1 hq2 hq3
      subst hq1
      have hB := h2.cl hq3 h4.2.2.1
      have hA := h4.cl hq3 (by omega)
      obtain ⟨⟨o', C⟩, g', hc⟩ := hrun B hB
      rw [hm] at hc
      obtain ⟨k1, u, k2, k3, k4, k5, k6⟩ := hc
      dsimp only at k1 k2 k6
      subst k1
      exact ⟨B, C, c + 1, _, ⟨vs, hk⟩, gg, hB.k, hA.1, g', k2.k, rn_thr k3 k2, Or.inr ⟨by omega, by omega⟩, lw_mk hq2 hA k6 k2 (h3.fmt (fun j hj _ _ => k5 j hj) (h3.2.2.2.2.2.2.2.1.fr (k5 _ (by unfold fx_j; omega)) (k5 _ (by unfold fx_j; omega))))⟩
    · obtain ⟨⟨o9, B⟩, gg, hq1, B0, hq0, hq2, hq3⟩ := hp_98 (d := d) (Q := fun q => q.1 = .inl (some (.int (Int32.ofNat 0))) ∧ ∃ B0, q.2 = B0.set 166 (101, [.long (Int32.ofNat w9.length).toInt64]) ∧ cl_E B0 f cs n xs nv M0 M1 z0 z1 S0 S1 w9 ∧ cl_F A B0 1) (by omega) hk hcl (fun q hq => by
        unfold fm_Q at hq
        rw [hz, if_pos rfl, hm] at hq
        obtain ⟨e5, e6, e7⟩ := hq
        exact Or.inl ⟨_, y0, e5, (e7.2.2.2 166 (by have := h4.2.2.1; omega) (by omega)).trans hy, rfl, q.2, rfl, e6, e7⟩)
      dsimp only at hq0 hq1 hq2 hq3
      subst hq1
      have hA0 := h4.cl hq3 (by omega)
      obtain ⟨hA, hF⟩ := hA0.out (v := (Int32.ofNat w9.length).toInt64)
      rw [← hq0] at hA hF
      have hE : cl_E B f cs n xs nv M0 M1 z0 z1 S0 S1 w9 := hq2.rf hF (by omega)
      have hB : rf B 128 s := (h2.cl hq3 h4.2.2.1).same (fun q q1 q2 => hF.2.2 q (by omega))
      have hB166 : B[166]? = some (101, [.long (Int32.ofNat w9.length).toInt64]) := by
        rw [hq0]
        exact List.getElem?_set_self (by have := hA0.2.2.1; omega)
      obtain ⟨⟨o', C⟩, g', hc⟩ := hrun B hB
      rw [hm] at hc
      obtain ⟨k1, u, k2, k3, k4, k5, k6, k7, k8⟩ := hc
      dsimp only at k1 k2 k8
      subst k1
      exact ⟨B, C, 0, _, ⟨vs, hk⟩, gg, hB.k, hA.1, g', k2.k, rn_thr k3 k2, Or.inl ⟨rfl, (k8.2.2 166 (by omega)).trans hB166⟩, lw_mk hE hA k8 k2 (h3.fmt k7 ⟨k4, k5, k6⟩)⟩
theorem lv_fmt {x : Int32} {len : Bool} (hd : 50 ≤ d) (h : lw_V ws A k) : lv_U ws A k d 98 [.ref 45, .int x, .int (sb_i len), .ref 166] 167 [.ref 128, .int x, .int (sb_i len)] := by
  obtain ⟨f, cs, n, xs, nv, M0, M1, z0, z1, S0, S1, w1, s, h1, h2, h3, h4⟩ := h
  have h1' := h1
  obtain ⟨m0, m1, m2, s0, s1, s2, u0, u1, a, ff, rs, M2, z2, S2, w0, hJ⟩ := h1'
  have hb0 := h3.2.2.2.2.1
  have hb1 := h3.2.2.2.2.2.1
  obtain ⟨nf, bf, lf, cf, hv1, hv2⟩ := h3.2.2.2.2.2.2.1
  by_cases hs : sb_slot x = true
  · obtain ⟨t, ht, rfl⟩ := sb_slot_t hs
    rcases (show t = 0 ∨ t = 1 by omega) with e | e
    · subst e
      refine lv_fmt1 hd (by omega) h1 h2 h3 h4 h3.2.2.1 (wp_imp (cm_fmt0 (d := d - 1) (len := len) (by omega) (vr_ok hv2) hb0.2.2.2.1 hb1.2.2.2.1 (fun z => (h3.2.2.1.2 z).2.2) hJ) (fun q hq => ?_))
      unfold fm_Q
      by_cases z : z0 = true
      · rw [if_pos z] at hq ⊢
        rcases hm : wr_msg M0 (vr_f xs nv) S0 S1 len 3 true 0 (mg_P M0) 0 0 [] with c | w9
        · rw [hm] at hq
          obtain ⟨y, w9, e1, e2, e3, e4⟩ := hq
          exact ⟨y, e1, e2, ⟨_, _, _, _, _, _, _, _, _, _, _, _, _, _, _, e3⟩, e4⟩
        · rw [hm] at hq
          obtain ⟨e1, e2, e3⟩ := hq
          exact ⟨e1, ⟨_, _, _, _, _, _, _, _, _, _, _, _, _, _, _, e2⟩, e3⟩
      · rw [if_neg z] at hq ⊢
        obtain ⟨y, e1, e2, e3, e4⟩ := hq
        exact ⟨y, e1, e2, ⟨_, _, _, _, _, _, _, _, _, _, _, _, _, _, _, e3⟩, e4⟩
    · subst e
      refine lv_fmt1 hd (by omega) h1 h2 h3 h4 h3.2.2.2.1 (wp_imp (cm_fmt1 (d := d - 1) (len := len) (by omega) (vr_ok hv2) hb0.2.2.2.1 hb1.2.2.2.1 (fun z => (h3.2.2.2.1.2 z).2.2) hJ) (fun q hq => ?_))
      unfold fm_Q
      by_cases z : z1 = true
      · rw [if_pos z] at hq ⊢
        rcases hm : wr_msg M1 (vr_f xs nv) S0 S1 len 3 true 0 (mg_P M1) 0 0 [] with c | w9
        · rw [hm] at hq
          obtain ⟨y, w9, e1, e2, e3, e4⟩ := hq
          exact ⟨y, e1, e2, ⟨_, _, _, _, _, _, _, _, _, _, _, _, _, _, _, e3⟩, e4⟩
        · rw [hm] at hq
          obtain ⟨e1, e2, e3⟩ := hq
          exact ⟨e1, ⟨_, _, _, _, _, _, _, _, _, _, _, _, _, _, _, e2⟩, e3⟩
      · rw [if_neg z] at hq ⊢
        obtain ⟨y, e1, e2, e3, e4⟩ := hq
        exact ⟨y, e1, e2, ⟨_, _, _, _, _, _, _, _, _, _, _, _, _, _, _, e3⟩, e4⟩
  · obtain ⟨vs, hk⟩ := h1.k
    have hsf : sb_slot x = false := by simpa using hs
    obtain ⟨⟨o9, B⟩, gg, hq1, hq2, hq3⟩ := hp_98 (d := d) (Q := fun q => q.1 = .inl (some (.int (Int32.ofNat 1))) ∧ cl_E q.2 f cs n xs nv M0 M1 z0 z1 S0 S1 w1 ∧ cl_F A q.2 1) (by omega) hk (cm_fmtb (d := d - 1) (len := len) (by omega) hsf hJ) (fun q hq => by
      obtain ⟨e, e1, e2, e3, e4⟩ := hq
      exact Or.inr ⟨e, e1, Or.inl ⟨e2, rfl, ⟨_, _, _, _, _, _, _, _, _, _, _, _, _, _, _, e3⟩, e4⟩⟩)
    dsimp only at hq1 hq2 hq3
    subst hq1
    have hB := h2.cl hq3 h4.2.2.1
    have hA := h4.cl hq3 (by omega)
    have hgo : rf_go d 167 [.ref 128, .int x, .int (sb_i len)] B 128 (some (.int (Int32.ofNat 0))) (rf_u s 0 0 (.int (Int32.ofNat 1))) := by
      rcases sb_slot_f hs with q | ⟨q1, _, q2⟩
      · exact fl_neg q hB
      · exact fl_big q1 q2 hB
    obtain ⟨C, g1, g2, g3⟩ := hgo
    exact ⟨B, C, 1, _, ⟨vs, hk⟩, gg, hB.k, hA.1, g1, g2.k, rn_thr (rf_u_eq ..) g2, Or.inr ⟨by omega, by omega⟩, lw_mk hq2 hA g3 g2 (h3.fr (fun j hj => rf_u_row j hj))⟩
end LV
