/-! The law's calls: compile, rules, category. -/
def lv_U (ws : List Int32) (A : am_H) (k d y : Nat) (as : List Value) (y' : Nat) (as' : List Value) : Prop := ∃ B C c v, (∃ vs, A[45]? = some (0, vs)) ∧ am_go d y as A (.inl (some (.int (Int32.ofNat c))), B) ∧ (∃ vs, B[128]? = some (11, vs)) ∧ B[0]? = some (100, ws.map .int) ∧ am_go d y' as' B (.inl (some (.int v)), C) ∧ (∃ vs, C[128]? = some (11, vs)) ∧ am_go d 117 [.ref 128] C (.inl (some (.int (Int32.ofNat c))), C) ∧ ((c = 0 ∧ C[166]? = some (101, [.long v.toInt64])) ∨ (1 ≤ c ∧ c ≤ 4)) ∧ lw_V ws C (k + 1)
section LV
variable {ws : List Int32} {A B C : am_H} {k d : Nat}
theorem rf_cc_ {s : rf_S} {p : Nat} {w : Int32} {r : Int64} {g : Nat} : lw_C (rf_c s p w r g) := ⟨p, w, r, g, by rw [rf_c_at]; rfl, by rw [rf_c_at]; rfl, by rw [rf_c_at]; rfl, by rw [rf_c_at]; rfl⟩
/-- what a call leaves when only the fault, the cursor and what no one reads has changed -/
theorem lw_R.fault {f f' : Int32} {cs : List Nat} {n : Nat} {xs : List sb_vt} {nv : Nat} {M0 M1 : mg} {z0 z1 : Bool} {S0 S1 : rg} {w1 : List Nat} {s u : rf_S} (h : lw_R f cs n xs nv M0 M1 z0 z1 S0 S1 w1 s) (hf : u 1 0 = .int f') (hC : lw_C u) (hu : ∀ j i, j ≠ 0 → j ≠ 1 → j ≠ 17 → j ≠ 18 → j ≠ 27 → j ≠ 28 → j ≠ 29 → ¬ rm_sc j i → ¬ rs_su j i → u j i = s j i) : lw_R f' cs n xs nv M0 M1 z0 z1 S0 S1 w1 u := by
  obtain ⟨q1, q2, q3, q4, q5, q6, q7, q8, q9⟩ := h
  have e : ∀ j, j ≠ 0 → j ≠ 1 → j ≠ 5 → ¬ (6 ≤ j ∧ j ≤ 41) → u j = s j := fun j h1 h2 h3 h4 => by
    funext i
    exact hu j i h1 h2 (by omega) (by omega) (by omega) (by omega) (by omega) (by unfold rm_sc; omega) (by unfold rs_su rs_sc; omega)
  have e5 : ∀ j i, i ≤ 1 → (j = 4 ∨ j = 5) → u j i = s j i := fun j i h1 h2 => hu j i (by omega) (by omega) (by omega) (by omega) (by omega) (by omega) (by omega) (by unfold rm_sc; omega) (by unfold rs_su rs_sc; omega)
  have e6 : ∀ j i, 6 ≤ j → j ≤ 8 → i < 256 → u j i = s j i := fun j i h1 h2 h3 => hu j i (by omega) (by omega) (by omega) (by omega) (by omega) (by omega) (by omega) (by unfold rm_sc; omega) (by unfold rs_su rs_sc; omega)
  have e9 : ∀ j i, 9 ≤ j → j ≤ 16 → i < 128 → u j i = s j i := fun j i h1 h2 h3 => hu j i (by omega) (by omega) (by omega) (by omega) (by omega) (by omega) (by omega) (by unfold rm_sc; omega) (by unfold rs_su rs_sc; omega)
  have e30 : ∀ j i, 30 ≤ j → j ≤ 31 → i < 16 → u j i = s j i := fun j i h1 h2 h3 => hu j i (by omega) (by omega) (by omega) (by omega) (by omega) (by omega) (by omega) (by unfold rm_sc; omega) (by unfold rs_su rs_sc; omega)
  have e32 : ∀ j i, 32 ≤ j → j ≤ 37 → i < 96 → u j i = s j i := fun j i h1 h2 h3 => hu j i (by omega) (by omega) (by omega) (by omega) (by omega) (by omega) (by omega) (by unfold rm_sc; omega) (by unfold rs_su rs_sc; omega)
  have e38 : ∀ j i, 38 ≤ j → j ≤ 39 → i < 128 → u j i = s j i := fun j i h1 h2 h3 => hu j i (by omega) (by omega) (by omega) (by omega) (by omega) (by omega) (by omega) (by unfold rm_sc; omega) (by unfold rs_su rs_sc; omega)
  exact ⟨q1.fr (e _ (by omega) (by omega) (by omega) (by omega)) (e _ (by omega) (by omega) (by omega) (by omega)), hf, q3.fr (e5 _ _ (by omega) (by omega)) (e5 _ _ (by omega) (by omega)) (fun j i h1 h2 h3 h4 => e6 j i h1 h2 (by omega)) (fun j i h1 h2 h3 h4 => e9 j i h1 h2 (by omega)), q4.fr (e5 _ _ (by omega) (by omega)) (e5 _ _ (by omega) (by omega)) (fun j i h1 h2 h3 h4 => e6 j i h1 h2 (by omega)) (fun j i h1 h2 h3 h4 => e9 j i h1 h2 (by omega)), ⟨q5.1.fr q5.2 (fun j i h1 h2 h3 h4 => e30 j i h1 h2 (by omega)) (fun j i h1 h2 h3 h4 => e32 j i h1 h2 (by omega)) (fun j i h1 h2 h3 h4 => e38 j i h1 h2 (by omega)), q5.2⟩, ⟨q6.1.fr q6.2 (fun j i h1 h2 h3 h4 => e30 j i h1 h2 (by omega)) (fun j i h1 h2 h3 h4 => e32 j i h1 h2 (by omega)) (fun j i h1 h2 h3 h4 => e38 j i h1 h2 (by omega)), q6.2⟩, q7.fr (fun j h1 h2 => e j (by omega) (by omega) (by omega) (by omega)), q8.fr (e _ (by omega) (by omega) (by omega) (by omega)) (e _ (by omega) (by omega) (by omega) (by omega)), hC⟩
/-- a message has been kept -/
theorem lw_R.msg {f : Int32} {cs : List Nat} {n : Nat} {xs : List sb_vt} {nv : Nat} {M0 M1 M : mg} {z0 z1 : Bool} {S0 S1 : rg} {w1 : List Nat} {s v : rf_S} {t p g : Nat} {w : Int32} {r : Int64} (ht : t ≤ 1) (h : lw_R f cs n xs nv M0 M1 z0 z1 S0 S1 w1 s) (hf : v 1 0 = .int (-1)) (h4 : v 4 t = .int (sb_i true)) (hK : rm_K v M (128 * t) (64 * t) t) (ho : ro_M M) (hw : mg_wf M) (hZ : rm_Z t s v) : (t = 0 → lw_R (-1) cs n xs nv M M1 true z1 S0 S1 w1 (rf_c v p w r g)) ∧ (t = 1 → lw_R (-1) cs n xs nv M0 M z0 true S0 S1 w1 (rf_c v p w r g)) := by
  obtain ⟨q1, q2, q3, q4, q5, q6, q7, q8, q9⟩ := h
  have e0 : ∀ j, j ≠ 17 → j ≠ 18 → j ≠ 28 → j ≠ 29 → rf_c v p w r g j = v j := fun j h1 h2 h3 h4 => by
    funext i
    exact rf_c_ne ⟨h1, h2, h3, h4⟩
  have e : ∀ j, j ≠ 0 → j ≠ 1 → ¬ (4 ≤ j ∧ j ≤ 29) → rf_c v p w r g j = s j := fun j h1 h2 h3 => by
    rw [e0 j (by omega) (by omega) (by omega) (by omega)]
    funext i
    exact hZ j i h1 h2 (by omega) (by unfold rm_sc; omega) (by unfold rm_kz; omega)
  have hnew : lw_Ms (rf_c v p w r g) M true t := by
    refine ⟨by rw [e0 4 (by omega) (by omega) (by omega) (by omega)]; exact h4, fun _ => ⟨hK.fr (by rw [e0 5 (by omega) (by omega) (by omega) (by omega)]) (fun j i h1 h2 _ _ => by rw [e0 j (by omega) (by omega) (by omega) (by omega)]) (fun j i h1 h2 _ _ => by rw [e0 j (by omega) (by omega) (by omega) (by omega)]), ho, hw⟩⟩
  have hold : ∀ {M' : mg} {z' : Bool} t', t' ≤ 1 → t' ≠ t → lw_Ms s M' z' t' → lw_Ms (rf_c v p w r g) M' z' t' := fun {M'} {z'} t' h1 h2 hm => hm.fr (by rw [e0 4 (by omega) (by omega) (by omega) (by omega)]; exact hZ _ _ (by omega) (by omega) (by omega) (by unfold rm_sc; omega) (by unfold rm_kz; omega)) (by rw [e0 5 (by omega) (by omega) (by omega) (by omega)]; exact hZ _ _ (by omega) (by omega) (by omega) (by unfold rm_sc; omega) (by unfold rm_kz; omega)) (fun j i a1 a2 a3 a4 => by rw [e0 j (by omega) (by omega) (by omega) (by omega)]; exact hZ _ _ (by omega) (by omega) (by omega) (by unfold rm_sc; omega) (by unfold rm_kz; omega)) (fun j i a1 a2 a3 a4 => by rw [e0 j (by omega) (by omega) (by omega) (by omega)]; exact hZ _ _ (by omega) (by omega) (by omega) (by unfold rm_sc; omega) (by unfold rm_kz; omega))
  have hf' : rf_c v p w r g 1 0 = .int (-1) := by rw [e0 1 (by omega) (by omega) (by omega) (by omega)]; exact hf
  have hx := q1.fr (u := rf_c v p w r g) (e _ (by omega) (by omega) (by omega)) (e _ (by omega) (by omega) (by omega))
  have hr0 := q5.1.fr (u := rf_c v p w r g) q5.2 (fun j i h1 h2 _ _ => by rw [e j (by omega) (by omega) (by omega)]) (fun j i h1 h2 _ _ => by rw [e j (by omega) (by omega) (by omega)]) (fun j i h1 h2 _ _ => by rw [e j (by omega) (by omega) (by omega)])
  have hr1 := q6.1.fr (u := rf_c v p w r g) q6.2 (fun j i h1 h2 _ _ => by rw [e j (by omega) (by omega) (by omega)]) (fun j i h1 h2 _ _ => by rw [e j (by omega) (by omega) (by omega)]) (fun j i h1 h2 _ _ => by rw [e j (by omega) (by omega) (by omega)])
  have hv := q7.fr (u := rf_c v p w r g) (fun j h1 h2 => e j (by omega) (by omega) (by omega))
  have ho' := q8.fr (u := rf_c v p w r g) (e _ (by omega) (by omega) (by omega)) (e _ (by omega) (by omega) (by omega))
  refine ⟨fun e => ?_, fun e => ?_⟩
  · subst e
    exact ⟨hx, hf', hnew, hold 1 (by omega) (by omega) q4, ⟨hr0, q5.2⟩, ⟨hr1, q6.2⟩, hv, ho', rf_cc_⟩
  · subst e
    exact ⟨hx, hf', hold 0 (by omega) (by omega) q3, hnew, ⟨hr0, q5.2⟩, ⟨hr1, q6.2⟩, hv, ho', rf_cc_⟩
theorem sb_slot_t {x : Int32} (h : sb_slot x = true) : ∃ t, t ≤ 1 ∧ x = Int32.ofNat t := by
  unfold sb_slot at h
  split at h
  · next q =>
    rcases q with q | q
    · exact ⟨0, by omega, q⟩
    · exact ⟨1, by omega, q⟩
  · cases h
theorem sb_slot_f {x : Int32} (h : ¬ sb_slot x = true) : x < Int32.ofNat 0 ∨ (¬ x < Int32.ofNat 0 ∧ ¬ x ≤ Int32.ofNat 1 ∧ Int32.ofNat 1 < x) := by
  by_cases q : x < Int32.ofNat 0
  · exact Or.inl q
  · right
    obtain ⟨k, hk, hk2⟩ := i32_nn q
    subst hk
    have h2 : ¬ (k = 0 ∨ k = 1) := by
      intro z
      apply h
      unfold sb_slot
      rcases z with z | z
      · subst z; rfl
      · subst z; rfl
    rw [i32_le hk2 (by omega), i32_lt (by omega) hk2]
    exact ⟨q, by omega, by omega⟩
theorem lv_comp {x : Int32} {dbl : Bool} (hd : 40 ≤ d) (h : lw_V ws A k) : lv_T ws A k d 20 [.ref 45, .int x, .int (sb_i dbl)] 121 [.ref 128, .int x, .int (sb_i dbl)] := by
  obtain ⟨f, cs, n, xs, nv, M0, M1, z0, z1, S0, S1, w1, s, h1, h2, h3, h4⟩ := h
  obtain ⟨vs, hk⟩ := h1.k
  have htx := h1.tx
  obtain ⟨m0, m1, m2, s0, s1, s2, u0, u1, a, ff, rs, M2, z2, S2, w0, hJ⟩ := h1
  have hcl := cm_comp (d := d - 1) (x := x) (dbl := dbl) (by omega) hJ
  by_cases hs : sb_slot x = true
  · obtain ⟨t, ht, rfl⟩ := sb_slot_t hs
    have hlk : ∀ j, sb_lk cs n j < 128 := fun j => by
      unfold sb_lk
      split
      · exact htx.2.2 j
      · omega
    obtain ⟨p, w, r, g, c17, c18, c28, c29⟩ := h3.2.2.2.2.2.2.2.2
    rcases hm : rd_msg cs n dbl 3 true false 0 (mg_clr M2) with e | ⟨a9, M9⟩
    · obtain ⟨⟨o, B⟩, gg, hq1, ⟨a8, M8, hq2⟩, hq3⟩ := hp_20 (d := d) (Q := fun q => q.1 = .inl (some (.int (Int32.ofNat 1))) ∧ (∃ a9 M9, cl_J q.2 m0 m1 m2 s0 s1 s2 u0 u1 (Int32.ofNat e) cs n a9 (Int32.ofNat e) rs xs nv M0 M1 M9 z0 z1 z2 S0 S1 S2 w0 w1) ∧ cl_F A q.2 2) (by omega) hk hcl (fun q hq => by
        rw [if_pos hs, hm] at hq
        obtain ⟨y, a9, M9, e1, e2, e3, e4⟩ := hq
        exact Or.inr ⟨y, e1, e2, rfl, ⟨a9, M9, e3⟩, e4⟩)
      dsimp only at hq1 hq2 hq3
      subst hq1
      have hB := h2.cl hq3 h4.2.2.1
      have hA := h4.cl hq3 (by omega)
      rw [← rf_c_self c17 c18 c28 c29] at hB
      obtain ⟨⟨o', C⟩, g', hc⟩ := rc_comp (d := d) (M := M2) (dbl := dbl) (by omega) ht h3.1 htx.2.2 hB
      rw [hm] at hc
      obtain ⟨k1, v, p', w', r', g'', k2, k3, k4, k5, k6⟩ := hc
      dsimp only at k1 k2 k6
      subst k1
      exact ⟨B, C, 1, ⟨vs, hk⟩, gg, hB.k, hA.1, g', k2.k, rn_thr (by rw [rf_c_ne (by decide)]; exact k3) k2, by omega, lw_mk ⟨m0, m1, m2, s0, s1, s2, u0, u1, a8, _, rs, M8, z2, S2, w0, hq2⟩ hA k6 k2 (h3.fault (by rw [rf_c_ne (by decide)]; exact k4) rf_cc_ (fun j i a0 a1 a17 a18 a27 a28 a29 asc _ => by rw [rf_c_ne ⟨a17, a18, a28, a29⟩]; exact k5 j i a0 a1 a27 asc))⟩
    · have hP : mg_P M9 ≤ 120 ∧ True := by
        have hB0 := h2
        rw [← rf_c_self c17 c18 c28 c29] at hB0
        obtain ⟨⟨o', C⟩, g', hc⟩ := rc_comp (d := d) (M := M2) (dbl := dbl) (by omega) ht h3.1 htx.2.2 hB0
        rw [hm] at hc
        obtain ⟨k1, v, p', w', r', g'', k2, k3, k4, k5, ⟨E, dp, k6, _⟩, k7⟩ := hc
        exact ⟨k6, trivial⟩
      have hwf := mg_wf_of hlk hm hP.1
      have hro := ro_M_of hlk hm
      obtain ⟨⟨o, B⟩, gg, hq1, hq2, hq3⟩ := hp_20 (d := d) (Q := fun q => q.1 = .inl (some (.int (Int32.ofNat 0))) ∧ ((t = 0 → cl_J q.2 m2 m1 m0 s0 s1 s2 u0 u1 (-1) cs n a9 (-1) rs xs nv M9 M1 M0 true z1 z0 S0 S1 S2 w0 w1) ∧ (t = 1 → cl_J q.2 m0 m2 m1 s0 s1 s2 u0 u1 (-1) cs n a9 (-1) rs xs nv M0 M9 M1 z0 true z1 S0 S1 S2 w0 w1)) ∧ cl_F A q.2 1) (by omega) hk hcl (fun q hq => by
        rw [if_pos hs, hm] at hq
        obtain ⟨e1, e2, e3⟩ := hq
        refine Or.inl ⟨e1, rfl, ⟨fun z => ?_, fun z => ?_⟩, e3⟩
        · subst z
          rw [if_pos rfl] at e2
          exact e2
        · subst z
          rw [if_neg (by decide)] at e2
          exact e2)
      dsimp only at hq1 hq2 hq3
      subst hq1
      have hB := h2.cl hq3 h4.2.2.1
      have hA := h4.cl hq3 (by omega)
      rw [← rf_c_self c17 c18 c28 c29] at hB
      obtain ⟨⟨o', C⟩, g', hc⟩ := rc_comp (d := d) (M := M2) (dbl := dbl) (by omega) ht h3.1 htx.2.2 hB
      rw [hm] at hc
      obtain ⟨k1, v, p', w', r', g'', k2, k3, k4, k5, k6, k7, k8⟩ := hc
      dsimp only at k1 k2 k6 k8
      subst k1
      have hR := h3.msg (p := p') (w := w') (r := r') (g := g'') ht k4 k5 k6 hro hwf k7
      have hV : lw_V ws C (k + 1) := by
        rcases (show t = 0 ∨ t = 1 by omega) with z | z
        · exact lw_mk ⟨_, _, _, _, _, _, _, _, _, _, _, _, _, _, _, hq2.1 z⟩ hA k8 k2 (hR.1 z)
        · exact lw_mk ⟨_, _, _, _, _, _, _, _, _, _, _, _, _, _, _, hq2.2 z⟩ hA k8 k2 (hR.2 z)
      exact ⟨B, C, 0, ⟨vs, hk⟩, gg, hB.k, hA.1, g', k2.k, rn_thr (by rw [rf_c_ne (by decide)]; exact k3) k2, by omega, hV⟩
  · obtain ⟨⟨o, B⟩, gg, hq1, hq2, hq3⟩ := hp_20 (d := d) (Q := fun q => q.1 = .inl (some (.int (Int32.ofNat 1))) ∧ cl_J q.2 m0 m1 m2 s0 s1 s2 u0 u1 (-1) cs n a ff rs xs nv M0 M1 M2 z0 z1 z2 S0 S1 S2 w0 w1 ∧ cl_F A q.2 1) (by omega) hk hcl (fun q hq => by
      rw [if_neg hs] at hq
      obtain ⟨y, e1, e2, e3, e4⟩ := hq
      exact Or.inr ⟨y, e1, e2, rfl, e3, e4⟩)
    dsimp only at hq1 hq2 hq3
    subst hq1
    have hB := h2.cl hq3 h4.2.2.1
    have hA := h4.cl hq3 (by omega)
    have hgo : rf_go d 121 [.ref 128, .int x, .int (sb_i dbl)] B 128 none (rf_u (rf_u (rf_u s 0 0 (.int (Int32.ofNat 0))) 1 0 (.int (-1))) 0 0 (.int (Int32.ofNat 1))) := by
      rcases sb_slot_f hs with q | ⟨q1, q2, _⟩
      · exact rc_neg q hB
      · exact rc_big q1 q2 hB
    obtain ⟨C, g1, g2, g3⟩ := hgo
    exact ⟨B, C, 1, ⟨vs, hk⟩, gg, hB.k, hA.1, g1, g2.k, rn_thr (rf_u_eq ..) g2, by omega, lw_mk ⟨m0, m1, m2, s0, s1, s2, u0, u1, a, ff, rs, M2, z2, S2, w0, hq2⟩ hA g3 g2 (h3.fault (by rw [rf_u_ne (Or.inl (by decide)), rf_u_eq]) (h3.2.2.2.2.2.2.2.2.fr (by rw [rf_u_row _ (by decide), rf_u_row _ (by decide), rf_u_row _ (by decide)]) (by rw [rf_u_row _ (by decide), rf_u_row _ (by decide), rf_u_row _ (by decide)]) (by rw [rf_u_row _ (by decide), rf_u_row _ (by decide), rf_u_row _ (by decide)]) (by rw [rf_u_row _ (by decide), rf_u_row _ (by decide), rf_u_row _ (by decide)])) (fun j i a0 a1 _ _ _ _ _ _ _ => by rw [rf_u_ne (Or.inl a0), rf_u_ne (Or.inl a1), rf_u_ne (Or.inl a0)]))⟩
/-- rules have been kept -/
theorem lw_R.rul {f : Int32} {cs : List Nat} {n : Nat} {xs : List sb_vt} {nv : Nat} {M0 M1 : mg} {z0 z1 : Bool} {S0 S1 S : rg} {w1 : List Nat} {s v : rf_S} {t p g : Nat} {w : Int32} {r : Int64} (ht : t ≤ 1) (h : lw_R f cs n xs nv M0 M1 z0 z1 S0 S1 w1 s) (hf : v 1 0 = .int (-1)) (hK : rs_K v S t) (hB : rs_B S) (hZ : rs_Z t s v) : (t = 0 → lw_R (-1) cs n xs nv M0 M1 z0 z1 S S1 w1 (rf_c v p w r g)) ∧ (t = 1 → lw_R (-1) cs n xs nv M0 M1 z0 z1 S0 S w1 (rf_c v p w r g)) := by
  obtain ⟨q1, q2, q3, q4, q5, q6, q7, q8, q9⟩ := h
  have e0 : ∀ j, j ≠ 17 → j ≠ 18 → j ≠ 28 → j ≠ 29 → rf_c v p w r g j = v j := fun j h1 h2 h3 h4 => by
    funext i
    exact rf_c_ne ⟨h1, h2, h3, h4⟩
  have e : ∀ j, j ≠ 0 → j ≠ 1 → j ≠ 17 → j ≠ 18 → j ≠ 28 → j ≠ 29 → ¬ (30 ≤ j ∧ j ≤ 41) → rf_c v p w r g j = s j := fun j h1 h2 h3 h4 h5 h6 h7 => by
    rw [e0 j h3 h4 h5 h6]
    funext i
    exact hZ j i h1 h2 (by unfold rs_su rs_sc; omega) (by unfold rs_kp; omega)
  have hnew : rs_K (rf_c v p w r g) S t := hK.fr hB (fun j i h1 h2 _ _ => by rw [e0 j (by omega) (by omega) (by omega) (by omega)]) (fun j i h1 h2 _ _ => by rw [e0 j (by omega) (by omega) (by omega) (by omega)]) (fun j i h1 h2 _ _ => by rw [e0 j (by omega) (by omega) (by omega) (by omega)])
  have hold : ∀ {S' : rg} t', t' ≤ 1 → t' ≠ t → rs_K s S' t' → rs_B S' → rs_K (rf_c v p w r g) S' t' := fun {S'} t' h1 h2 hm hb => hm.fr hb (fun j i a1 a2 a3 a4 => by rw [e0 j (by omega) (by omega) (by omega) (by omega)]; exact hZ _ _ (by omega) (by omega) (by unfold rs_su rs_sc; omega) (by unfold rs_kp; omega)) (fun j i a1 a2 a3 a4 => by rw [e0 j (by omega) (by omega) (by omega) (by omega)]; exact hZ _ _ (by omega) (by omega) (by unfold rs_su rs_sc; omega) (by unfold rs_kp; omega)) (fun j i a1 a2 a3 a4 => by rw [e0 j (by omega) (by omega) (by omega) (by omega)]; exact hZ _ _ (by omega) (by omega) (by unfold rs_su rs_sc; omega) (by unfold rs_kp; omega))
  have hf' : rf_c v p w r g 1 0 = .int (-1) := by rw [e0 1 (by omega) (by omega) (by omega) (by omega)]; exact hf
  have hx := q1.fr (u := rf_c v p w r g) (e _ (by omega) (by omega) (by omega) (by omega) (by omega) (by omega) (by omega)) (e _ (by omega) (by omega) (by omega) (by omega) (by omega) (by omega) (by omega))
  have em : ∀ j i, 4 ≤ j → j ≤ 16 → rf_c v p w r g j i = s j i := fun j i h1 h2 => by rw [e j (by omega) (by omega) (by omega) (by omega) (by omega) (by omega) (by omega)]
  have hm0 := q3.fr (u := rf_c v p w r g) (em _ _ (by omega) (by omega)) (em _ _ (by omega) (by omega)) (fun j i h1 h2 _ _ => em _ _ (by omega) (by omega)) (fun j i h1 h2 _ _ => em _ _ (by omega) (by omega))
  have hm1 := q4.fr (u := rf_c v p w r g) (em _ _ (by omega) (by omega)) (em _ _ (by omega) (by omega)) (fun j i h1 h2 _ _ => em _ _ (by omega) (by omega)) (fun j i h1 h2 _ _ => em _ _ (by omega) (by omega))
  have hv := q7.fr (u := rf_c v p w r g) (fun j h1 h2 => e j (by omega) (by omega) (by omega) (by omega) (by omega) (by omega) (by omega))
  have ho' := q8.fr (u := rf_c v p w r g) (e _ (by omega) (by omega) (by omega) (by omega) (by omega) (by omega) (by omega)) (e _ (by omega) (by omega) (by omega) (by omega) (by omega) (by omega) (by omega))
  refine ⟨fun z => ?_, fun z => ?_⟩
  · subst z
    exact ⟨hx, hf', hm0, hm1, ⟨hnew, hB⟩, ⟨hold 1 (by omega) (by omega) q6.1 q6.2, q6.2⟩, hv, ho', rf_cc_⟩
  · subst z
    exact ⟨hx, hf', hm0, hm1, ⟨hold 0 (by omega) (by omega) q5.1 q5.2, q5.2⟩, ⟨hnew, hB⟩, hv, ho', rf_cc_⟩
theorem lv_rul {o : Bool} (hd : 40 ≤ d) (h : lw_V ws A k) : lv_T ws A k d 63 [.ref 45, .int (sb_i o)] 148 [.ref 128, .int (sb_i o)] := by
  obtain ⟨f, cs, n, xs, nv, M0, M1, z0, z1, S0, S1, w1, s, h1, h2, h3, h4⟩ := h
  obtain ⟨vs, hk⟩ := h1.k
  have htx := h1.tx
  obtain ⟨m0, m1, m2, s0, s1, s2, u0, u1, a, ff, rs, M2, z2, S2, w0, hJ⟩ := h1
  have hcl := cm_rul (d := d - 1) (o := o) (by omega) hJ
  obtain ⟨p, w, r, g, c17, c18, c28, c29⟩ := h3.2.2.2.2.2.2.2.2
  have hot : (if o = true then 1 else 0) ≤ 1 := by split <;> omega
  rcases hm : ru_all cs n (rg_clr S2) with e | ⟨a9, S9⟩
  · obtain ⟨⟨o9, B⟩, gg, hq1, ⟨a8, S8, hq2⟩, hq3⟩ := hp_63 (d := d) (Q := fun q => q.1 = .inl (some (.int (Int32.ofNat 1))) ∧ (∃ a9 S9, cl_J q.2 m0 m1 m2 s0 s1 s2 u0 u1 (Int32.ofNat e) cs n a9 (Int32.ofNat e) rs xs nv M0 M1 M2 z0 z1 z2 S0 S1 S9 w0 w1) ∧ cl_F A q.2 2) (by omega) hk hcl (fun q hq => by
      rw [hm] at hq
      obtain ⟨y, a9, S9, e1, e2, e3, e4⟩ := hq
      exact Or.inr ⟨y, e1, e2, rfl, ⟨a9, S9, e3⟩, e4⟩)
    dsimp only at hq1 hq2 hq3
    subst hq1
    have hB := h2.cl hq3 h4.2.2.1
    have hA := h4.cl hq3 (by omega)
    rw [← rf_c_self c17 c18 c28 c29] at hB
    obtain ⟨⟨o', C⟩, g', hc⟩ := rq_rules (d := d) (S := S2) (o := o) (by omega) htx.2.2 h3.1 hB
    rw [hm] at hc
    obtain ⟨k1, v, p', w', r', g'', k2, k3, k4, k5, k6⟩ := hc
    dsimp only at k1 k2 k6
    subst k1
    exact ⟨B, C, 1, ⟨vs, hk⟩, gg, hB.k, hA.1, g', k2.k, rn_thr (by rw [rf_c_ne (by decide)]; exact k3) k2, by omega, lw_mk ⟨m0, m1, m2, s0, s1, s2, u0, u1, a8, _, rs, M2, z2, S8, w0, hq2⟩ hA k6 k2 (h3.fault (by rw [rf_c_ne (by decide)]; exact k4) rf_cc_ (fun j i a0 a1 a17 a18 a27 a28 a29 _ asu => by rw [rf_c_ne ⟨a17, a18, a28, a29⟩]; exact k5 j i a0 a1 asu))⟩
  · obtain ⟨⟨o9, B⟩, gg, hq1, hq2, hq3⟩ := hp_63 (d := d) (Q := fun q => q.1 = .inl (some (.int (Int32.ofNat 0))) ∧ (if o = true then cl_J q.2 m0 m1 m2 s0 s2 s1 u0 u1 (-1) cs n a9 (-1) rs xs nv M0 M1 M2 z0 z1 z2 S0 S9 S1 w0 w1 else cl_J q.2 m0 m1 m2 s2 s1 s0 u0 u1 (-1) cs n a9 (-1) rs xs nv M0 M1 M2 z0 z1 z2 S9 S1 S0 w0 w1) ∧ cl_F A q.2 1) (by omega) hk hcl (fun q hq => by
      rw [hm] at hq
      obtain ⟨e1, e2, e3⟩ := hq
      exact Or.inl ⟨e1, rfl, e2, e3⟩)
    dsimp only at hq1 hq2 hq3
    subst hq1
    have hB := h2.cl hq3 h4.2.2.1
    have hA := h4.cl hq3 (by omega)
    rw [← rf_c_self c17 c18 c28 c29] at hB
    obtain ⟨⟨o', C⟩, g', hc⟩ := rq_rules (d := d) (S := S2) (o := o) (by omega) htx.2.2 h3.1 hB
    rw [hm] at hc
    obtain ⟨k1, v, p', w', r', g'', k2, k3, k4, k5, k6, k7, k8⟩ := hc
    dsimp only at k1 k2 k5 k6 k8
    subst k1
    have hwf : rg_wf S9 := ⟨k6.1, k6.2.2⟩
    have hV : lw_V ws C (k + 1) := by
      by_cases ho : o = true
      · rw [if_pos ho] at hq2 k5 k7
        have hE : cl_E B (-1) cs n xs nv M0 M1 z0 z1 S0 S9 w1 := ⟨_, _, _, _, _, _, _, _, _, _, _, _, _, _, _, hq2⟩
        exact lw_mk hE hA k8 k2 ((h3.rul (by omega) k4 k5 (hE.rb.2 hwf) k7).2 rfl)
      · rw [if_neg ho] at hq2 k5 k7
        have hE : cl_E B (-1) cs n xs nv M0 M1 z0 z1 S9 S1 w1 := ⟨_, _, _, _, _, _, _, _, _, _, _, _, _, _, _, hq2⟩
        exact lw_mk hE hA k8 k2 ((h3.rul (by omega) k4 k5 (hE.rb.1 hwf) k7).1 rfl)
    exact ⟨B, C, 0, ⟨vs, hk⟩, gg, hB.k, hA.1, g', k2.k, rn_thr (by rw [rf_c_ne (by decide)]; exact k3) k2, by omega, hV⟩
theorem lv_catg {o : Bool} {y : Int64} {c : Int32} (hd : 40 ≤ d) (h : lw_V ws A k) : lv_U ws A k d 91 [.ref 45, .int (sb_i o), .long y, .int c, .ref 166] 156 [.ref 128, .int (sb_i o), .long y, .int c] := by
  obtain ⟨f, cs, n, xs, nv, M0, M1, z0, z1, S0, S1, w1, s, h1, h2, h3, h4⟩ := h
  obtain ⟨vs, hk⟩ := h1.k
  obtain ⟨m0, m1, m2, s0, s1, s2, u0, u1, a, ff, rs, M2, z2, S2, w0, hJ⟩ := h1
  have hb0 := h3.2.2.2.2.1
  have hb1 := h3.2.2.2.2.2.1
  have hcl := cm_cat (d := d - 1) (o := o) (y := y) (c := c) (by omega) hb0.2.2.2.1 hb1.2.2.2.1 hJ
  rcases his : sb_isn y c with _ | _
  · obtain ⟨⟨o9, B⟩, gg, hq1, hq2, hq3⟩ := hp_91 (d := d) (Q := fun q => q.1 = .inl (some (.int (Int32.ofNat 1))) ∧ cl_J q.2 m0 m1 m2 s0 s1 s2 u0 u1 f cs n a ff rs xs nv M0 M1 M2 z0 z1 z2 S0 S1 S2 w0 w1 ∧ cl_F A q.2 1) (by omega) hk hcl (fun q hq => by
      rw [his, if_neg (by decide)] at hq
      obtain ⟨e, e1, e2, e3, e4⟩ := hq
      exact Or.inr ⟨e, e1, e2, rfl, e3, e4⟩)
    dsimp only at hq1 hq2 hq3
    subst hq1
    have hB := h2.cl hq3 h4.2.2.1
    have hA := h4.cl hq3 (by omega)
    obtain ⟨C, g1, g2, g3⟩ := rn_ctg0 (d := d) (o := o) (by omega) his hB
    exact ⟨B, C, 1, _, ⟨vs, hk⟩, gg, hB.k, hA.1, g1, g2.k, rn_thr (rf_u_eq ..) g2, Or.inr ⟨by omega, by omega⟩, lw_mk ⟨m0, m1, m2, s0, s1, s2, u0, u1, a, ff, rs, M2, z2, S2, w0, hq2⟩ hA g3 g2 (h3.fr (fun j hj => rf_u_row j hj))⟩
  · obtain ⟨z, kk, i1, i2, i3, i4⟩ := sb_isn_k his
    obtain ⟨⟨o9, B⟩, gg, hq1, B0, hq0, hq2, hq3⟩ := hp_91 (d := d) (Q := fun q => q.1 = .inl (some (.int (Int32.ofNat 0))) ∧ ∃ B0, q.2 = B0.set 166 (101, [.long (Int32.ofNat (ct_cat (if o = true then S1 else S0) z.natAbs kk 5 0)).toInt64]) ∧ cl_J B0 m0 m1 m2 s0 s1 s2 u0 u1 f cs n a ff rs xs nv M0 M1 M2 z0 z1 z2 S0 S1 S2 w0 w1 ∧ cl_F A B0 0) (by omega) hk hcl (fun q hq => by
      rw [his, if_pos rfl] at hq
      obtain ⟨z', k', e1, e2, e3, e4, e5, e6, e7⟩ := hq
      have hz : z' = z := by
        have e := congrArg Int64.toInt (i1.symm.trans e1)
        rw [Int64.toInt_ofInt_of_le (by omega) (by omega), Int64.toInt_ofInt_of_le (by omega) (by omega)] at e
        exact e.symm
      have hkk : k' = kk := by
        have e := i2.symm.trans e2
        rw [i32_eq (by omega) (by omega)] at e
        exact e.symm
      subst hz
      subst hkk
      obtain ⟨y0, hy⟩ := h4.2.1
      exact Or.inl ⟨_, y0, e5, (e7.2.2.2 166 (by have := h4.2.2.1; omega) (by omega)).trans hy, rfl, q.2, rfl, e6, e7⟩)
    dsimp only at hq0 hq1 hq2 hq3
    subst hq1
    have hA0 := h4.cl hq3 (by omega)
    obtain ⟨hA, hF⟩ := hA0.out (v := (Int32.ofNat (ct_cat (if o = true then S1 else S0) z.natAbs kk 5 0)).toInt64)
    rw [← hq0] at hA hF
    have hE : cl_E B f cs n xs nv M0 M1 z0 z1 S0 S1 w1 := cl_E.rf ⟨m0, m1, m2, s0, s1, s2, u0, u1, a, ff, rs, M2, z2, S2, w0, hq2⟩ hF (by omega)
    have hB : rf B 128 s := (h2.cl hq3 h4.2.2.1).same (fun q q1 q2 => hF.2.2 q (by omega))
    have hB166 : B[166]? = some (101, [.long (Int32.ofNat (ct_cat (if o = true then S1 else S0) z.natAbs kk 5 0)).toInt64]) := by
      rw [hq0]
      exact List.getElem?_set_self (by have := hA0.2.2.1; omega)
    have h3' := h3.fr (u := rf_u s 0 0 (.int (Int32.ofNat 0))) (fun j hj => rf_u_row j hj)
    obtain ⟨C, g1, g2, g3⟩ := rn_ctg1 (d := d) (o := o) (y := y) (c := c) (v := Int32.ofNat (ct_cat (if o = true then S1 else S0) z.natAbs kk 5 0)) (by omega) his (fun B' hB' => by
      rw [i1, i2]
      by_cases ho : o = true
      · rw [if_pos ho, if_pos ho]
        exact rn_catS (by omega) i3 (by omega) (by omega) h3'.2.2.2.2.2.1.1 hb1.2 hB'
      · rw [if_neg ho, if_neg ho]
        exact rn_catS (by omega) i3 (by omega) (by omega) h3'.2.2.2.2.1.1 hb0.2 hB') hB
    exact ⟨B, C, 0, _, ⟨vs, hk⟩, gg, hB.k, hA.1, g1, g2.k, rn_thr (rf_u_eq ..) g2, Or.inl ⟨rfl, (g3.2.2 166 (by omega)).trans hB166⟩, lw_mk hE hA g3 g2 h3'⟩
end LV
