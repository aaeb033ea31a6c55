/-! Between two calls: the class's object and the reference say the same. -/
def cl_E (A : am_H) (f : Int32) (cs : List Nat) (n : Nat) (xs : List sb_vt) (nv : Nat) (M0 M1 : mg) (z0 z1 : Bool) (S0 S1 : rg) (w1 : List Nat) : Prop := ∃ m0 m1 m2 s0 s1 s2 u0 u1 a ff rs M2 z2 S2 w0, cl_J A m0 m1 m2 s0 s1 s2 u0 u1 f cs n a ff rs xs nv M0 M1 M2 z0 z1 z2 S0 S1 S2 w0 w1
def lw_Ms (s : rf_S) (M : mg) (z : Bool) (t : Nat) : Prop := s 4 t = .int (sb_i z) ∧ (z = true → rm_K s M (128 * t) (64 * t) t ∧ ro_M M ∧ mg_wf M)
def lw_Vs (s : rf_S) (xs : List sb_vt) (nv : Nat) : Prop := ∃ nf bf lf cf, rf_vs s nv nf bf lf cf ∧ vr_R xs nv nf bf lf cf
def lw_O (s : rf_S) (w1 : List Nat) : Prop := s 50 0 = .int (Int32.ofNat w1.length) ∧ (∀ i, i < w1.length → s 49 i = .int (Int32.ofNat (w1.getD i 0))) ∧ w1.length ≤ 160
def lw_C (s : rf_S) : Prop := ∃ p w r g, s 17 0 = .int (Int32.ofNat p) ∧ s 18 0 = .int w ∧ s 28 0 = .long r ∧ s 29 0 = .int (Int32.ofNat g)
def lw_R (f : Int32) (cs : List Nat) (n : Nat) (xs : List sb_vt) (nv : Nat) (M0 M1 : mg) (z0 z1 : Bool) (S0 S1 : rg) (w1 : List Nat) (s : rf_S) : Prop := rf_tx s cs n ∧ s 1 0 = .int f ∧ lw_Ms s M0 z0 0 ∧ lw_Ms s M1 z1 1 ∧ (rs_K s S0 0 ∧ rs_B S0) ∧ (rs_K s S1 1 ∧ rs_B S1) ∧ lw_Vs s xs nv ∧ lw_O s w1 ∧ lw_C s
def lw_A (ws : List Int32) (A : am_H) (k : Nat) : Prop := A[0]? = some (100, ws.map .int) ∧ (∃ y, A[166]? = some (101, [.long y])) ∧ 167 ≤ A.length ∧ A.length ≤ 167 + 2 * k ∧ am_sl A ≤ am_sl (am_A0 ws) + 20000 + 12 * k
def lw_V (ws : List Int32) (A : am_H) (k : Nat) : Prop := ∃ f cs n xs nv M0 M1 z0 z1 S0 S1 w1 s, cl_E A f cs n xs nv M0 M1 z0 z1 S0 S1 w1 ∧ rf A 128 s ∧ lw_R f cs n xs nv M0 M1 z0 z1 S0 S1 w1 s ∧ lw_A ws A k
theorem rf_tx.fr {s u : rf_S} {cs : List Nat} {n : Nat} (h : rf_tx s cs n) (e2 : u 2 = s 2) (e3 : u 3 = s 3) : rf_tx u cs n := by
  unfold rf_tx at *
  rw [e2, e3]
  exact h
theorem lw_Ms.fr {s u : rf_S} {M : mg} {z : Bool} {t : Nat} (h : lw_Ms s M z t) (e4 : u 4 t = s 4 t) (e5 : u 5 t = s 5 t) (h6 : ∀ j i, 6 ≤ j → j ≤ 8 → 128 * t ≤ i → i < 128 * t + 128 → u j i = s j i) (h9 : ∀ j i, 9 ≤ j → j ≤ 16 → 64 * t ≤ i → i < 64 * t + 64 → u j i = s j i) : lw_Ms u M z t := by
  refine ⟨e4.trans h.1, fun hz => ?_⟩
  obtain ⟨a, b, c⟩ := h.2 hz
  exact ⟨a.fr e5 h6 h9, b, c⟩
theorem rs_K.fr {s u : rf_S} {S : rg} {t : Nat} (h : rs_K s S t) (hB : rs_B S) (h30 : ∀ j i, 30 ≤ j → j ≤ 31 → 8 * t ≤ i → i < 8 * t + 8 → u j i = s j i) (h32 : ∀ j i, 32 ≤ j → j ≤ 37 → 48 * t ≤ i → i < 48 * t + 48 → u j i = s j i) (h38 : ∀ j i, 38 ≤ j → j ≤ 39 → 64 * t ≤ i → i < 64 * t + 64 → u j i = s j i) : rs_K u S t := by
  obtain ⟨⟨a, b⟩, c⟩ := h
  have hR := hB.1
  have hG := hB.2.1
  refine ⟨⟨fun i hi => ?_, fun i hi => ?_⟩, fun k hk => ?_⟩
  · obtain ⟨a1, a2, a3, a4, a5, a6⟩ := a i hi
    exact ⟨(h32 _ _ (by omega) (by omega) (by omega) (by omega)).trans a1, (h32 _ _ (by omega) (by omega) (by omega) (by omega)).trans a2, (h32 _ _ (by omega) (by omega) (by omega) (by omega)).trans a3, (h32 _ _ (by omega) (by omega) (by omega) (by omega)).trans a4, (h32 _ _ (by omega) (by omega) (by omega) (by omega)).trans a5, (h32 _ _ (by omega) (by omega) (by omega) (by omega)).trans a6⟩
  · obtain ⟨a1, a2⟩ := b i hi
    exact ⟨(h38 _ _ (by omega) (by omega) (by omega) (by omega)).trans a1, (h38 _ _ (by omega) (by omega) (by omega) (by omega)).trans a2⟩
  · obtain ⟨a1, a2⟩ := c k hk
    exact ⟨(h30 _ _ (by omega) (by omega) (by omega) (by omega)).trans a1, (h30 _ _ (by omega) (by omega) (by omega) (by omega)).trans a2⟩
theorem lw_Vs.fr {s u : rf_S} {xs : List sb_vt} {nv : Nat} (h : lw_Vs s xs nv) (e : ∀ j, 42 ≤ j → j ≤ 46 → u j = s j) : lw_Vs u xs nv := by
  obtain ⟨nf, bf, lf, cf, h1, h2⟩ := h
  refine ⟨nf, bf, lf, cf, ?_, h2⟩
  unfold rf_vs at *
  rw [e 42 (by omega) (by omega), e 43 (by omega) (by omega), e 44 (by omega) (by omega), e 45 (by omega) (by omega), e 46 (by omega) (by omega)]
  exact h1
theorem lw_O.fr {s u : rf_S} {w1 : List Nat} (h : lw_O s w1) (e49 : u 49 = s 49) (e50 : u 50 = s 50) : lw_O u w1 := by
  unfold lw_O at *
  rw [e49, e50]
  exact h
theorem lw_C.fr {s u : rf_S} (h : lw_C s) (e17 : u 17 = s 17) (e18 : u 18 = s 18) (e28 : u 28 = s 28) (e29 : u 29 = s 29) : lw_C u := by
  unfold lw_C at *
  rw [e17, e18, e28, e29]
  exact h
/-- nothing that counts has changed -/
theorem lw_R.fr {f : Int32} {cs : List Nat} {n : Nat} {xs : List sb_vt} {nv : Nat} {M0 M1 : mg} {z0 z1 : Bool} {S0 S1 : rg} {w1 : List Nat} {s u : rf_S} (h : lw_R f cs n xs nv M0 M1 z0 z1 S0 S1 w1 s) (e : ∀ j, j ≠ 0 → u j = s j) : lw_R f cs n xs nv M0 M1 z0 z1 S0 S1 w1 u := by
  obtain ⟨h1, h2, h3, h4, h5, h6, h7, h8, h9⟩ := h
  exact ⟨h1.fr (e _ (by omega)) (e _ (by omega)), by rw [e 1 (by omega)]; exact h2, h3.fr (by rw [e _ (by omega)]) (by rw [e _ (by omega)]) (fun j i _ _ _ _ => by rw [e _ (by omega)]) (fun j i _ _ _ _ => by rw [e _ (by omega)]), h4.fr (by rw [e _ (by omega)]) (by rw [e _ (by omega)]) (fun j i _ _ _ _ => by rw [e _ (by omega)]) (fun j i _ _ _ _ => by rw [e _ (by omega)]), ⟨h5.1.fr h5.2 (fun j i _ _ _ _ => by rw [e _ (by omega)]) (fun j i _ _ _ _ => by rw [e _ (by omega)]) (fun j i _ _ _ _ => by rw [e _ (by omega)]), h5.2⟩, ⟨h6.1.fr h6.2 (fun j i _ _ _ _ => by rw [e _ (by omega)]) (fun j i _ _ _ _ => by rw [e _ (by omega)]) (fun j i _ _ _ _ => by rw [e _ (by omega)]), h6.2⟩, h7.fr (fun j _ _ => e j (by omega)), h8.fr (e _ (by omega)) (e _ (by omega)), h9.fr (e _ (by omega)) (e _ (by omega)) (e _ (by omega)) (e _ (by omega))⟩
theorem rf_u_row {s : rf_S} {j i : Nat} {v : Value} : ∀ j', j' ≠ j → rf_u s j i v j' = s j' := fun j' h => by
  funext i'
  exact rf_u_ne (Or.inl h)
theorem rf.cl {A B : am_H} {s : rf_S} {j : Nat} (h : rf A 128 s) (hF : cl_F A B j) (hl : 167 ≤ A.length) : rf B 128 s := h.same (fun q h1 h2 => hF.2.2.2 q (by omega) (by omega))
theorem lw_A.cl {ws : List Int32} {A B : am_H} {k j : Nat} (h : lw_A ws A k) (hF : cl_F A B j) (hj : j ≤ 2) : lw_A ws B (k + 1) := by
  obtain ⟨h1, ⟨y, h2⟩, h3, h4, h5⟩ := h
  obtain ⟨f1, f2, f3, f4⟩ := hF
  exact ⟨(f4 0 (by omega) (by omega)).trans h1, ⟨y, (f4 166 (by omega) (by omega)).trans h2⟩, by omega, by omega, by omega⟩
theorem lw_A.rf {ws : List Int32} {A B : am_H} {k : Nat} (h : lw_A ws A k) (hF : sb_fr A B 128 (128 + 38)) : lw_A ws B k := by
  obtain ⟨h1, ⟨y, h2⟩, h3, h4, h5⟩ := h
  obtain ⟨f1, f2, f3⟩ := hF
  exact ⟨(f3 0 (by omega)).trans h1, ⟨y, (f3 166 (by omega)).trans h2⟩, by omega, by omega, by omega⟩
theorem lw_A.out {ws : List Int32} {A : am_H} {k : Nat} {v : Int64} (h : lw_A ws A k) : lw_A ws (A.set 166 (101, [.long v])) k ∧ sb_fr A (A.set 166 (101, [.long v])) 166 167 := by
  obtain ⟨h1, ⟨y, h2⟩, h3, h4, h5⟩ := h
  have hF : sb_fr A (A.set 166 (101, [.long v])) 166 167 := (sb_fr.refl A 166 167).set rfl h2 rfl (by omega) (by omega)
  exact ⟨⟨(hF.2.2 0 (by omega)).trans h1, ⟨v, List.getElem?_set_self (by omega)⟩, by rw [hF.1]; omega, by rw [hF.1]; omega, by rw [hF.2.1]; omega⟩, hF⟩
section CE
variable {A B : am_H} {f : Int32} {cs : List Nat} {n : Nat} {xs : List sb_vt} {nv : Nat} {M0 M1 : mg} {z0 z1 : Bool} {S0 S1 : rg} {w1 : List Nat}
theorem cl_E.k (h : cl_E A f cs n xs nv M0 M1 z0 z1 S0 S1 w1) : ∃ vs, A[45]? = some (0, vs) := by
  obtain ⟨m0, m1, m2, s0, s1, s2, u0, u1, a, ff, rs, M2, z2, S2, w0, h⟩ := h
  exact ⟨_, h.oc⟩
theorem cl_E.keep (h : cl_E A f cs n xs nv M0 M1 z0 z1 S0 S1 w1) (hs : ∀ q, q < 128 → B[q]? = A[q]?) (hl : 128 ≤ B.length) : cl_E B f cs n xs nv M0 M1 z0 z1 S0 S1 w1 := by
  obtain ⟨m0, m1, m2, s0, s1, s2, u0, u1, a, ff, rs, M2, z2, S2, w0, h⟩ := h
  exact ⟨m0, m1, m2, s0, s1, s2, u0, u1, a, ff, rs, M2, z2, S2, w0, h.keep hs hl⟩
theorem cl_E.len (h : cl_E A f cs n xs nv M0 M1 z0 z1 S0 S1 w1) : 128 ≤ A.length := by
  obtain ⟨m0, m1, m2, s0, s1, s2, u0, u1, a, ff, rs, M2, z2, S2, w0, h⟩ := h
  exact h.len
theorem cl_E.rf {lo hi : Nat} (h : cl_E A f cs n xs nv M0 M1 z0 z1 S0 S1 w1) (hF : sb_fr A B lo hi) (hlo : 128 ≤ lo) : cl_E B f cs n xs nv M0 M1 z0 z1 S0 S1 w1 := h.keep (fun q hq => hF.2.2 q (by omega)) (by rw [hF.1]; exact h.len)
theorem cl_E.tx (h : cl_E A f cs n xs nv M0 M1 z0 z1 S0 S1 w1) : cs.length = 120 ∧ n ≤ 120 ∧ ∀ k, cs.getD k 0 < 128 := by
  obtain ⟨m0, m1, m2, s0, s1, s2, u0, u1, a, ff, rs, M2, z2, S2, w0, h⟩ := h
  have := h.2.1
  exact ⟨this.2.2.1, this.2.2.2.1, this.2.2.2.2.2.1⟩
theorem cl_E.rb (h : cl_E A f cs n xs nv M0 M1 z0 z1 S0 S1 w1) : (rg_wf S0 → rs_B S0) ∧ (rg_wf S1 → rs_B S1) := by
  obtain ⟨m0, m1, m2, s0, s1, s2, u0, u1, a, ff, rs, M2, z2, S2, w0, h⟩ := h
  have h0 := h.2.2.2.2.2.2.2.2.1
  have h1 := h.2.2.2.2.2.2.2.2.2.1
  have p0 := h0.P
  have p1 := h1.P
  obtain ⟨_, _, _, _, _, _, _, _, _, _, _, _, k0⟩ := h0
  obtain ⟨_, _, _, _, _, _, _, _, _, _, _, _, k1⟩ := h1
  exact ⟨fun w => ⟨by omega, by omega, w, k0⟩, fun w => ⟨by omega, by omega, w, k1⟩⟩
end CE
theorem rf.k {A : am_H} {s : rf_S} (h : rf A 128 s) : ∃ vs, A[128]? = some (11, vs) := ⟨_, h.1⟩
