/-! The reference's argument does what the class's does. -/
theorem fx_ch {s : rf_S} {M : mg} {t : Nat} {E dp : Nat → Nat} {vf : wr_v} {S0 S1 : rg} {nv : Nat} {nf cf : Nat → Int32} {bf : Nat → Bool} {lf : Nat → Int64} (h : fx_C s M t E dp vf S0 S1 nv nf bf lf cf) : rm_ch s M (64 * t) ∧ rm_ss s M (64 * t) := by
  obtain ⟨⟨h1, h2, h3, h4⟩, h5, h6, h7, h8⟩ := h
  exact ⟨⟨by omega, h3, fun b hb => (h7 b hb).1.2⟩, fun b hb => (h7 b hb).1.1⟩
theorem fx_rest {M : mg} {i k : Nat} {z : Int} (ho : mg_o M i < 100) (hk : k ≤ 6) (hz : z.natAbs ≤ 1000000000000000) : (wr_rest M i z k).natAbs < 10 ^ 18 := by
  have hp : 10 ^ k ≤ 10 ^ 6 := Nat.pow_le_pow_right (by omega) hk
  have h1 : mg_o M i * 10 ^ k ≤ 100 * 10 ^ 6 := Nat.mul_le_mul (by omega) hp
  unfold wr_rest
  generalize mg_o M i * 10 ^ k = v at *
  omega
theorem fa_arg {d b t L i : Nat} {M : mg} {E dp : Nat → Nat} {vf : wr_v} {S0 S1 : rg} {nv : Nat} {nf cf : Nat → Int32} {bf : Nat → Bool} {lf : Nat → Int64} {s : rf_S} {w : List Nat} {A : am_H} (hd : 6 ≤ d) (hC : fx_C s M t E dp vf S0 S1 nv nf bf lf cf) (hi : i < mg_P M) (hk2 : 2 ≤ mg_k M i) (hL : dp i = L) (h22 : s 22 0 = .int (Int32.ofNat L)) (hw : rf_dw s w) (h : rf A b s) : am_wp d 169 (0, am_ent 169 [.ref b, .int (Int32.ofNat (64 * t + mg_ct (mg_k M) i))], [], A) (fa_Q A s b M t L i w (wr_ab M vf S0 S1 i)) := by
  obtain ⟨hch, hss⟩ := fx_ch hC
  obtain ⟨⟨ht, hP, hB, hct⟩, hK1, ho, hK2, hvs, hrv, hrs, hB0, hB1⟩ := hC
  obtain ⟨q1, q2, q3, q4, q5, q6, q7, q8⟩ := hK1 i hi
  obtain ⟨r1, r2, ⟨X, N, r3, r4, r5⟩, r6, r7, r8⟩ := q2 hk2
  have hcl : mg_ct (mg_k M) i < mg_ct (mg_k M) (mg_P M) := mg_ct_lt hk2 hi
  have hx : 64 * t + mg_ct (mg_k M) i < 192 := by omega
  have hoi := ho i hi
  have hv1 := hrv X N r3
  have hwx : rf_wx s (some w) := hw
  unfold wr_ab
  rw [r4]
  rcases hfd : rf_fd nf (Int32.ofNat N) nv 0 with _ | j
  · rw [hfd] at hv1
    have hv1 : vf (Int32.ofNat X) = none := hv1
    rw [hv1]
    exact fa_go (c := 1) (ra_none (jv := 0) (by omega) hx r5 hvs h hfd) (Or.inl rfl)
  · rw [hfd] at hv1
    have hj := rf_fd_lt hfd
    have hnv := hvs.2.1
    have hj6 : j < 6 := by omega
    obtain ⟨v43, v44, v45, v46⟩ := hvs.2.2 j hj6
    have hbr : ∀ c, c < mg_B M → mg_w M c = i → L < 3 ∧ 64 * t + c < 192 ∧ s 15 (64 * t + c) = .int (rm_i (128 * t) (if mg_a M c < mg_e M c then some (mg_a M c) else none)) := fun c h1 h2 => by
      have k2 := hK2 c h1
      have k3 := k2.2.2.2.1
      rw [h2] at k3
      refine ⟨by omega, by omega, ?_⟩
      rw [k2.2.2.2.2.2.2.1, rm_e_i]
    obtain ⟨mo, hmo1, hmo2⟩ := bf_oth (i := i) hss
    rcases hv1 with ⟨b1, N', b2, b3, b4, b5, b6⟩ | ⟨b1, z, k, b2, b3, b4, b5, b6⟩
    · rw [b6]
      rw [b1] at v44
      rw [b4] at v45
      rw [b5] at v46
      have v44 : s 44 j = .int (Int32.ofNat 1) := v44
      dsimp only
      by_cases h6 : mg_k M i = 6
      · rw [if_pos h6]
        have h10 : s 10 (64 * t + mg_ct (mg_k M) i) = .int (Int32.ofNat 6) := by rw [r6, h6]; rfl
        obtain ⟨m1, hm1, hm2⟩ := bf_word (i := i) hss b3
        obtain ⟨c, hc⟩ := wr_or_some (o := mg_bw M i (Int64.ofNat (sb_fpn 0 (sb_bl (Int32.ofNat N') 4))) (mg_B M) 0) (q5 (by omega))
        have hcw := wr_or_own (fun c h => mg_bw_own h) (fun c h => mg_bw_own h) hc
        obtain ⟨g1, g2, g3⟩ := hbr c hcw.1 hcw.2
        have hgo := rn_ch6w (d := d - 1) (i := i) (by omega) hx hch hm1 hmo1 r8 h b2 hj6 v44 v45 h10
        rw [hm2, hmo2, hc] at hgo
        refine fa_pu (c := c) (y' := Int64.ofNat N' - Int64.ofNat (mg_o M i * 10 ^ 0)) (k' := 0) hc hcw.1 hcw.2 (fun z => absurd h6 z) (by decide) (by omega) ?_
        unfold fx_pu
        rw [rm_e_i]
        exact ra_b6w (N := N) (by omega) hx r5 hvs h hfd hj6 h10 v44 (by omega) g1 hoi g2 h22 v45 v46 r7 g3 hgo
      · rw [if_neg h6]
        rcases (show mg_k M i = 2 ∨ mg_k M i = 3 ∨ mg_k M i = 4 ∨ mg_k M i = 5 ∨ mg_k M i = 7 ∨ mg_k M i = 8 by omega) with e | e | e | e | e | e
        · rw [if_pos (Or.inl e), ← rf_wd_pt b2 b3, e, show decide (2 = 5) = false from rfl]
          exact fa_wg (ra_w0 (by omega) hx r5 hvs h hfd hj6 (by rw [r6, e]; rfl) v44 b2 v45 hwx)
        · rw [if_neg (by omega)]
          exact fa_go (c := 2) (ra_rw1 (by omega) hx r5 hvs h hfd hj6 (by rw [r6, e]; rfl) v44) (Or.inr rfl)
        · rw [if_neg (by omega)]
          exact fa_go (c := 2) (ra_rw2 (by omega) hx r5 hvs h hfd hj6 (by rw [r6, e]; rfl) v44) (Or.inr rfl)
        · rw [if_pos (Or.inr e), ← rf_wd_pt b2 b3, e, show decide (5 = 5) = true from rfl]
          exact fa_wg (ra_w3 (by omega) hx r5 hvs h hfd hj6 (by rw [r6, e]; rfl) v44 b2 v45 hwx)
        · rw [if_neg (by omega)]
          exact fa_go (c := 2) (ra_rw4 (by omega) hx r5 hvs h hfd hj6 (by rw [r6, e]; rfl) v44) (Or.inr rfl)
        · rw [if_neg (by omega)]
          exact fa_go (c := 2) (ra_rw5 (by omega) hx r5 hvs h hfd hj6 (by rw [r6, e]; rfl) v44) (Or.inr rfl)
    · rw [b6]
      rw [b1] at v44
      rw [b4] at v45
      rw [b5] at v46
      have v44 : s 44 j = .int (Int32.ofNat 0) := v44
      dsimp only
      by_cases h6 : mg_k M i = 6
      · rw [if_pos h6]
        have h10 : s 10 (64 * t + mg_ct (mg_k M) i) = .int (Int32.ofNat 6) := by rw [r6, h6]; rfl
        obtain ⟨c, hc⟩ := wr_or_some (o := none) (q5 (by omega))
        have hcw := wr_or_own (fun c h => (by cases h)) (fun c h => mg_bw_own h) hc
        obtain ⟨g1, g2, g3⟩ := hbr c hcw.1 hcw.2
        have hgo := rn_ch6n (d := d - 1) (i := i) (by omega) hx hch (mt_none hss) hmo1 r8 h hj6 v44 h10
        rw [mg_bf_no (fun _ _ _ => rfl), hmo2, hc] at hgo
        refine fa_pu (c := c) (y' := Int64.ofInt z - Int64.ofNat (mg_o M i * 10 ^ k)) (k' := k) hc hcw.1 hcw.2 (fun z => absurd h6 z) (by decide) (by omega) ?_
        unfold fx_pu
        rw [rm_e_i]
        exact ra_b6n (N := N) (by omega) hx r5 hvs h hfd hj6 h10 v44 b3 g1 hoi g2 h22 v45 v46 r7 g3 hgo
      · rw [if_neg h6]
        have hrest := fx_rest (M := M) (i := i) hoi b3 b2
        obtain ⟨m0, hm01, hm02⟩ := bf_exact (i := i) hss b3 b2
        rcases (show mg_k M i = 2 ∨ mg_k M i = 3 ∨ mg_k M i = 4 ∨ mg_k M i = 5 ∨ mg_k M i = 7 ∨ mg_k M i = 8 by omega) with e | e | e | e | e | e
        · rw [if_neg (by omega), if_neg (by omega), e, show decide (2 = 3) = false from rfl]
          exact fa_wg (ra_n0 (by omega) hx r5 hvs h hfd hj6 (by rw [r6, e]; rfl) v44 b3 (by omega) v45 v46 hwx)
        · rw [if_neg (by omega), if_neg (by omega), e, show decide (3 = 3) = true from rfl]
          exact fa_wg (ra_n1 (by omega) hx r5 hvs h hfd hj6 (by rw [r6, e]; rfl) v44 b3 (by omega) v45 v46 hwx)
        · rw [if_pos e]
          by_cases hk0 : k = 0
          · subst hk0
            rw [if_pos rfl]
            exact fa_wg (ra_n2 (by omega) hx r5 hvs h hfd hj6 (by rw [r6, e]; rfl) v44 (by omega) v45 v46 hwx)
          · rw [if_neg hk0]
            exact fa_go (c := 2) (ra_rh (by omega) hx r5 hvs h hfd hj6 (by rw [r6, e]; rfl) v44 v46 b3 (by omega)) (Or.inr rfl)
        · rw [if_neg (by omega), if_neg (by omega), e, show decide (5 = 3) = false from rfl]
          exact fa_wg (ra_n3 (by omega) hx r5 hvs h hfd hj6 (by rw [r6, e]; rfl) v44 b3 (by omega) v45 v46 hwx)
        · rw [if_neg (by omega), if_pos (Or.inl e)]
          have h10 : s 10 (64 * t + mg_ct (mg_k M) i) = .int (Int32.ofNat 4) := by rw [r6, e]; rfl
          have hcat := rn_catS (d := d - 1 - 1) (t := 0) (z := wr_rest M i z k) (by omega) b3 (by omega) (by omega) hrs.1 hB0 h
          have hcc := ct_cat_le S0 (wr_rest M i z k).natAbs k 5 0 rfl
          obtain ⟨Xc, hXc, hwc⟩ := rf_cn_w hcc
          obtain ⟨c, hc⟩ := wr_or_some (o := wr_exb M i z k) (q := wr_or (mg_bw M i (Int64.ofNat Xc) (mg_B M) 0) (mg_bw M i sb_OTH (mg_B M) 0)) (by
            obtain ⟨c, hc⟩ := wr_or_some (o := mg_bw M i (Int64.ofNat Xc) (mg_B M) 0) (q5 (by omega))
            rw [hc]
            exact fun z => (by cases z))
          have hcw := wr_or_own (fun c h => by
            unfold wr_exb at h
            split at h
            · cases h
            · split at h
              · exact mg_bw_own h
              · cases h) (fun c h => wr_or_own (fun c h => mg_bw_own h) (fun c h => mg_bw_own h) h) hc
          obtain ⟨g1, g2, g3⟩ := hbr c hcw.1 hcw.2
          have hgo := rn_ch4 (d := d - 1) (i := i) (by omega) hx hch (mt_word hss hwc) hmo1 r8 h hcc hj6 b3 hoi v44 v45 v46 h10 r7 hm01 hcat
          rw [hm02, hmo2, mg_bf_bw (se := Int64.ofNat Xc) (fun b _ _ => ⟨fun z => of_decide_eq_true z, fun z => decide_eq_true z⟩), hc] at hgo
          have hpl : wr_plub M S0 S1 i z k = some c := by
            unfold wr_plub wr_catb
            rw [e, if_neg (by omega), hXc]
            exact hc
          refine fa_pu (c := c) hpl hcw.1 hcw.2 (fun _ => ⟨rfl, rfl⟩) hrest b3 ?_
          unfold fx_pu
          rw [rm_e_i, show Int64.ofInt (wr_rest M i z k) = Int64.ofInt z - Int64.ofNat (mg_o M i * 10 ^ k) from i64_zsub.symm]
          exact ra_b4n (N := N) (by omega) hx r5 hvs h hfd hj6 h10 v44 b3 g1 hoi g2 h22 v45 v46 r7 g3 hgo
        · rw [if_neg (by omega), if_pos (Or.inr e)]
          have h10 : s 10 (64 * t + mg_ct (mg_k M) i) = .int (Int32.ofNat 5) := by rw [r6, e]; rfl
          have hcat := rn_catS (d := d - 1 - 1) (t := 1) (z := wr_rest M i z k) (by omega) b3 (by omega) (by omega) hrs.2 hB1 h
          have hcc := ct_cat_le S1 (wr_rest M i z k).natAbs k 5 0 rfl
          obtain ⟨Xc, hXc, hwc⟩ := rf_cn_w hcc
          obtain ⟨c, hc⟩ := wr_or_some (o := wr_exb M i z k) (q := wr_or (mg_bw M i (Int64.ofNat Xc) (mg_B M) 0) (mg_bw M i sb_OTH (mg_B M) 0)) (by
            obtain ⟨c, hc⟩ := wr_or_some (o := mg_bw M i (Int64.ofNat Xc) (mg_B M) 0) (q5 (by omega))
            rw [hc]
            exact fun z => (by cases z))
          have hcw := wr_or_own (fun c h => by
            unfold wr_exb at h
            split at h
            · cases h
            · split at h
              · exact mg_bw_own h
              · cases h) (fun c h => wr_or_own (fun c h => mg_bw_own h) (fun c h => mg_bw_own h) h) hc
          obtain ⟨g1, g2, g3⟩ := hbr c hcw.1 hcw.2
          have hgo := rn_ch5 (d := d - 1) (i := i) (by omega) hx hch (mt_word hss hwc) hmo1 r8 h hcc hj6 b3 hoi v44 v45 v46 h10 r7 hm01 hcat
          rw [hm02, hmo2, mg_bf_bw (se := Int64.ofNat Xc) (fun b _ _ => ⟨fun z => of_decide_eq_true z, fun z => decide_eq_true z⟩), hc] at hgo
          have hpl : wr_plub M S0 S1 i z k = some c := by
            unfold wr_plub wr_catb
            rw [e, if_pos rfl, hXc]
            exact hc
          refine fa_pu (c := c) hpl hcw.1 hcw.2 (fun _ => ⟨rfl, rfl⟩) hrest b3 ?_
          unfold fx_pu
          rw [rm_e_i, show Int64.ofInt (wr_rest M i z k) = Int64.ofInt z - Int64.ofNat (mg_o M i * 10 ^ k) from i64_zsub.symm]
          exact ra_b5n (N := N) (by omega) hx r5 hvs h hfd hj6 h10 v44 b3 g1 hoi g2 h22 v45 v46 r7 g3 hgo
