/-! Frames of the greater calls. -/
theorem cl_F.set {A B : am_H} {k r : Nat} {c c' : am_C} (h : cl_F A B k) (hr : A.length ≤ r) (hc : B[r]? = some c) (hl : c'.2.length = c.2.length) : cl_F A (B.set r c') k :=
  ⟨by rw [List.length_set]; exact h.1, by rw [List.length_set]; exact h.2.1, by rw [am_sl_set hc hl]; exact h.2.2.1, fun q q1 q2 => by rw [List.getElem?_set_ne (by omega)]; exact h.2.2.2 q q1 q2⟩
theorem cl_F.reg {A B C : am_H} {k : Nat} (h : cl_F A B k) (h1 : C.length = B.length) (h2 : am_sl C = am_sl B) (h3 : ∀ q, (q < 45 ∨ 128 ≤ q) → C[q]? = B[q]?) : cl_F A C k :=
  ⟨by rw [h1]; exact h.1, by rw [h1]; exact h.2.1, by rw [h2]; exact h.2.2.1, fun q q1 q2 => (h3 q q2).trans (h.2.2.2 q q1 q2)⟩
theorem cl_F.rdm {A B C : am_H} {k m : Nat} (h : cl_F A B k) (hF : mr_F B C 46 m) (h1 : 45 ≤ m) (h2 : m + 9 ≤ 128) : cl_F A C k := h.reg hF.1 hF.2.1 (fun q hq => hF.2.2 q (by omega) (by omega))
theorem cl_F.rdr {A B C : am_H} {k m : Nat} (h : cl_F A B k) (hF : ur_F B C 46 m) (h1 : 45 ≤ m) (h2 : m + 11 ≤ 128) : cl_F A C k := h.reg hF.1 hF.2.1 (fun q hq => hF.2.2 q (by omega) (by omega))
theorem cl_F.wrm {A B C : am_H} {k s0 s1 u : Nat} (h : cl_F A B k) (hF : wr_F B C s0 s1 u) (h1 : 45 ≤ s0 ∧ s0 + 13 ≤ 128) (h2 : 45 ≤ s1 ∧ s1 + 13 ≤ 128) (h3 : 45 ≤ u ∧ u + 2 ≤ 128) : cl_F A C k := h.reg hF.1 hF.2.1 (fun q hq => hF.2.2 q (by omega) (by omega) (by omega))
theorem cl_F.fr' {A B C : am_H} {k lo hi : Nat} (h : cl_F A B k) (hF : sb_fr B C lo hi) (h1 : 45 ≤ lo) (h2 : hi ≤ 128) : cl_F A C k := h.reg hF.1 hF.2.1 (fun q hq => hF.2.2 q (by omega))
theorem sb_N.fill {A : am_H} {m : Nat} {M : mg} {z : Bool} (h : sb_N A m M z) : ∃ vs, A[m]? = some (4, vs) ∧ vs.length = 11 ∧ (∀ B : am_H, B = A.set m (4, vs.set 10 (.int (Int32.ofNat 1))) → sb_N B m M true) := by
  obtain ⟨ks, ct, os, ns, ow, se, st, en, hM, e⟩ := h
  obtain ⟨h0, h1, h2, h3, h4, h5, h6, h7, h8, l⟩ := hM
  refine ⟨_, h0, rfl, fun B hB => ?_⟩
  subst hB
  exact ⟨ks, ct, os, ns, ow, se, st, en, ⟨sb_ss h0, sb_so (by omega) h1, sb_so (by omega) h2, sb_so (by omega) h3, sb_so (by omega) h4, sb_so (by omega) h5, sb_so (by omega) h6, sb_so (by omega) h7, sb_so (by omega) h8, l⟩, e⟩
theorem sb_O.zero {A : am_H} {u : Nat} {w : List Nat} (h : sb_O A u w) : A[u]? = some (7, [.ref (u + 1), .int (Int32.ofNat w.length)]) ∧ sb_O (A.set u (7, [.ref (u + 1), .int (Int32.ofNat 0)])) u [] ∧ sb_fr A (A.set u (7, [.ref (u + 1), .int (Int32.ofNat 0)])) u (u + 2) := by
  have h1 := h.cut (w := []) List.nil_prefix
  obtain ⟨cs, h0, -⟩ := h
  exact ⟨h0, h1.1, h1.2⟩
/-- the two slots -/
theorem sl_two {x : Int32} (h : sb_slot x = true) : x = Int32.ofNat 0 ∨ x = Int32.ofNat 1 := by
  unfold sb_slot at h
  split at h
  · assumption
  · cases h
theorem sb_N.fillx {A B : am_H} {m : Nat} {M : mg} {z : Bool} {vs : List Value} (h : sb_N A m M z) (hv : A[m]? = some (4, vs)) (hB : B = A.set m (4, vs.set 10 (.int (Int32.ofNat 1)))) : sb_N B m M true := by
  obtain ⟨vs', h1, -, h3⟩ := h.fill
  rw [hv] at h1
  cases h1
  exact h3 B hB
