/-! The class's object at 45, and all that belongs to it, at 45 .. 127. -/
def cl_P (m0 m1 m2 s0 s1 s2 u0 u1 : Nat) : Prop := (57 ≤ m0 ∧ m0 + 9 ≤ 124 ∧ sb_dj m0 9 75 1) ∧ (57 ≤ m1 ∧ m1 + 9 ≤ 124 ∧ sb_dj m1 9 75 1) ∧ (57 ≤ m2 ∧ m2 + 9 ≤ 124 ∧ sb_dj m2 9 75 1) ∧ (76 ≤ s0 ∧ s0 + 13 ≤ 124) ∧ (76 ≤ s1 ∧ s1 + 13 ≤ 124) ∧ (76 ≤ s2 ∧ s2 + 13 ≤ 124) ∧ (124 ≤ u0 ∧ u0 + 2 ≤ 128) ∧ (124 ≤ u1 ∧ u1 + 2 ≤ 128) ∧ sb_dj u0 2 u1 2 ∧
  (sb_dj m0 9 m1 9 ∧ sb_dj m0 9 m2 9 ∧ sb_dj m1 9 m2 9) ∧ (sb_dj s0 13 s1 13 ∧ sb_dj s0 13 s2 13 ∧ sb_dj s1 13 s2 13) ∧ (sb_dj m0 9 s0 13 ∧ sb_dj m0 9 s1 13 ∧ sb_dj m0 9 s2 13) ∧ (sb_dj m1 9 s0 13 ∧ sb_dj m1 9 s1 13 ∧ sb_dj m1 9 s2 13) ∧ (sb_dj m2 9 s0 13 ∧ sb_dj m2 9 s1 13 ∧ sb_dj m2 9 s2 13)
def cl_c (m2 s2 u0 u1 : Nat) (f : Int32) : am_C := (0, [.ref 46, .ref 48, .ref 56, .ref 75, .ref m2, .ref s2, .ref u0, .ref u1, .int f])
def cl_J (A : am_H) (m0 m1 m2 s0 s1 s2 u0 u1 : Nat) (f : Int32) (cs : List Nat) (n a : Nat) (ff : Int32) (rs : List Nat) (xs : List sb_vt) (nv : Nat) (M0 M1 M2 : mg) (z0 z1 z2 : Bool) (S0 S1 S2 : rg) (w0 w1 : List Nat) : Prop :=
  A[45]? = some (cl_c m2 s2 u0 u1 f) ∧ sb_T A 46 cs n a ff ∧ sb_V A 48 rs xs nv ∧ A[56]? = some (111, [.ref m0, .ref m1]) ∧ A[75]? = some (112, [.ref s0, .ref s1]) ∧ sb_N A m0 M0 z0 ∧ sb_N A m1 M1 z1 ∧ sb_N A m2 M2 z2 ∧ sb_G A s0 S0 ∧ sb_G A s1 S1 ∧ sb_G A s2 S2 ∧ (∃ am un, sb_P A (s0 + 11) am un) ∧ (∃ am un, sb_P A (s1 + 11) am un) ∧ (∃ am un, sb_P A (s2 + 11) am un) ∧ sb_O A u0 w0 ∧ sb_O A u1 w1 ∧ sb_K A ∧ cl_P m0 m1 m2 s0 s1 s2 u0 u1 ∧ 128 ≤ A.length
/-- what a call of the class changes: its own cells, and a few cells more at the end -/
def cl_F (A B : am_H) (k : Nat) : Prop := A.length ≤ B.length ∧ B.length ≤ A.length + k ∧ am_sl B ≤ am_sl A + 6 * k ∧ ∀ q, q < A.length → (q < 45 ∨ 128 ≤ q) → B[q]? = A[q]?
theorem cl_F.refl (A : am_H) : cl_F A A 0 := ⟨Nat.le_refl _, Nat.le_refl _, Nat.le_refl _, fun _ _ _ => rfl⟩
theorem cl_F.trans {A B C : am_H} {j k : Nat} (h : cl_F A B j) (g : cl_F B C k) : cl_F A C (j + k) := ⟨by have := h.1; have := g.1; omega, by have := h.2.1; have := g.2.1; omega, by have := h.2.2.1; have := g.2.2.1; omega, fun q q1 q2 => (g.2.2.2 q (by have := h.1; omega) q2).trans (h.2.2.2 q q1 q2)⟩
theorem cl_F.wide {A B : am_H} {j k : Nat} (h : cl_F A B j) (hk : j ≤ k) : cl_F A B k := ⟨h.1, by have := h.2.1; omega, by have := h.2.2.1; omega, h.2.2.2⟩
theorem cl_F.fr {A B : am_H} {lo hi : Nat} (h : sb_fr A B lo hi) (h1 : 45 ≤ lo) (h2 : hi ≤ 128) : cl_F A B 0 := ⟨by rw [h.1]; exact Nat.le_refl _, by rw [h.1]; exact Nat.le_refl _, by rw [h.2.1]; exact Nat.le_refl _, fun q _ q2 => h.2.2 q (by omega)⟩
theorem sb_sl_app (A : am_H) (c : am_C) : am_sl (A ++ [c]) = am_sl A + c.2.length := by simp [am_sl]
theorem cl_F.app {A : am_H} {c : am_C} (hc : c.2.length ≤ 6) : cl_F A (A ++ [c]) 1 := ⟨by simp, by simp, by rw [sb_sl_app]; omega, fun q q1 _ => by rw [List.getElem?_append_left q1]⟩
section CJ
variable {A B : am_H} {m0 m1 m2 s0 s1 s2 u0 u1 n a nv : Nat} {f ff : Int32} {cs rs : List Nat} {xs : List sb_vt} {M0 M1 M2 : mg} {z0 z1 z2 : Bool} {S0 S1 S2 : rg} {w0 w1 : List Nat}
/-- nothing between 45 and 127 has changed, nothing below either -/
theorem cl_J.keep (h : cl_J A m0 m1 m2 s0 s1 s2 u0 u1 f cs n a ff rs xs nv M0 M1 M2 z0 z1 z2 S0 S1 S2 w0 w1) (hs : ∀ q, q < 128 → B[q]? = A[q]?) (hl : 128 ≤ B.length) : cl_J B m0 m1 m2 s0 s1 s2 u0 u1 f cs n a ff rs xs nv M0 M1 M2 z0 z1 z2 S0 S1 S2 w0 w1 := by
  obtain ⟨h1, h2, h3, h4, h5, h6, h7, h8, h9, h10, h11, ⟨x1, y1, h12⟩, ⟨x2, y2, h13⟩, ⟨x3, y3, h14⟩, h15, h16, h17, hP, hL⟩ := h
  have hP' := hP
  unfold cl_P at hP'
  obtain ⟨p1, p2, p3, p4, p5, p6, p7, p8, -⟩ := hP'
  exact ⟨by rw [hs _ (by omega)]; exact h1, h2.same (hs _ (by omega)) (hs _ (by omega)), h3.same (fun q _ _ => hs q (by omega)), by rw [hs _ (by omega)]; exact h4, by rw [hs _ (by omega)]; exact h5, h6.same (fun q _ _ => hs q (by omega)), h7.same (fun q _ _ => hs q (by omega)), h8.same (fun q _ _ => hs q (by omega)), h9.same (fun q _ _ => hs q (by omega)), h10.same (fun q _ _ => hs q (by omega)), h11.same (fun q _ _ => hs q (by omega)), ⟨x1, y1, h12.same (hs _ (by omega)) (hs _ (by omega))⟩, ⟨x2, y2, h13.same (hs _ (by omega)) (hs _ (by omega))⟩, ⟨x3, y3, h14.same (hs _ (by omega)) (hs _ (by omega))⟩, h15.same (hs _ (by omega)) (hs _ (by omega)), h16.same (hs _ (by omega)) (hs _ (by omega)), fun q hq => by rw [hs _ (by omega)]; exact h17 q hq, hP, hl⟩
theorem cl_J.app {c : am_C} (h : cl_J A m0 m1 m2 s0 s1 s2 u0 u1 f cs n a ff rs xs nv M0 M1 M2 z0 z1 z2 S0 S1 S2 w0 w1) : cl_J (A ++ [c]) m0 m1 m2 s0 s1 s2 u0 u1 f cs n a ff rs xs nv M0 M1 M2 z0 z1 z2 S0 S1 S2 w0 w1 := by
  have hL := h.2.2.2.2.2.2.2.2.2.2.2.2.2.2.2.2.2.2
  exact h.keep (fun q hq => List.getElem?_append_left (by omega)) (by simp; omega)
/-- the object's own cell and the two rows may change; nothing else -/
theorem cl_J.obj {m0' m1' m2' s0' s1' s2' u0' u1' : Nat} {f' : Int32} (h : cl_J A m0 m1 m2 s0 s1 s2 u0 u1 f cs n a ff rs xs nv M0 M1 M2 z0 z1 z2 S0 S1 S2 w0 w1) (h1 : B[45]? = some (cl_c m2 s2 u0 u1 f')) (hs : ∀ q, q ≠ 45 → B[q]? = A[q]?) (hl : B.length = A.length) : cl_J B m0 m1 m2 s0 s1 s2 u0 u1 f' cs n a ff rs xs nv M0 M1 M2 z0 z1 z2 S0 S1 S2 w0 w1 := by
  obtain ⟨-, h2, h3, h4, h5, h6, h7, h8, h9, h10, h11, ⟨x1, y1, h12⟩, ⟨x2, y2, h13⟩, ⟨x3, y3, h14⟩, h15, h16, h17, hP, hL⟩ := h
  have hP' := hP
  unfold cl_P at hP'
  obtain ⟨p1, p2, p3, p4, p5, p6, p7, p8, -⟩ := hP'
  exact ⟨h1, h2.same (hs _ (by omega)) (hs _ (by omega)), h3.same (fun q _ _ => hs q (by omega)), by rw [hs _ (by omega)]; exact h4, by rw [hs _ (by omega)]; exact h5, h6.same (fun q _ _ => hs q (by omega)), h7.same (fun q _ _ => hs q (by omega)), h8.same (fun q _ _ => hs q (by omega)), h9.same (fun q _ _ => hs q (by omega)), h10.same (fun q _ _ => hs q (by omega)), h11.same (fun q _ _ => hs q (by omega)), ⟨x1, y1, h12.same (hs _ (by omega)) (hs _ (by omega))⟩, ⟨x2, y2, h13.same (hs _ (by omega)) (hs _ (by omega))⟩, ⟨x3, y3, h14.same (hs _ (by omega)) (hs _ (by omega))⟩, h15.same (hs _ (by omega)) (hs _ (by omega)), h16.same (hs _ (by omega)) (hs _ (by omega)), fun q hq => by rw [hs _ (by omega)]; exact h17 q hq, hP, by rw [hl]; exact hL⟩
theorem cl_J.len (h : cl_J A m0 m1 m2 s0 s1 s2 u0 u1 f cs n a ff rs xs nv M0 M1 M2 z0 z1 z2 S0 S1 S2 w0 w1) : 128 ≤ A.length := h.2.2.2.2.2.2.2.2.2.2.2.2.2.2.2.2.2.2
theorem cl_J.P (h : cl_J A m0 m1 m2 s0 s1 s2 u0 u1 f cs n a ff rs xs nv M0 M1 M2 z0 z1 z2 S0 S1 S2 w0 w1) : cl_P m0 m1 m2 s0 s1 s2 u0 u1 := h.2.2.2.2.2.2.2.2.2.2.2.2.2.2.2.2.2.1
theorem cl_J.K (h : cl_J A m0 m1 m2 s0 s1 s2 u0 u1 f cs n a ff rs xs nv M0 M1 M2 z0 z1 z2 S0 S1 S2 w0 w1) : sb_K A := h.2.2.2.2.2.2.2.2.2.2.2.2.2.2.2.2.1
theorem cl_J.oc (h : cl_J A m0 m1 m2 s0 s1 s2 u0 u1 f cs n a ff rs xs nv M0 M1 M2 z0 z1 z2 S0 S1 S2 w0 w1) : A[45]? = some (0, [.ref 46, .ref 48, .ref 56, .ref 75, .ref m2, .ref s2, .ref u0, .ref u1, .int f]) := h.1
theorem cl_J.text {a' n' : Nat} {ff' : Int32} {cs' : List Nat} (h : cl_J A m0 m1 m2 s0 s1 s2 u0 u1 f cs n a ff rs xs nv M0 M1 M2 z0 z1 z2 S0 S1 S2 w0 w1) (hT : sb_T B 46 cs' n' a' ff') (hF : sb_fr A B 46 48) : cl_J B m0 m1 m2 s0 s1 s2 u0 u1 f cs' n' a' ff' rs xs nv M0 M1 M2 z0 z1 z2 S0 S1 S2 w0 w1 := by
  obtain ⟨h1, -, h3, h4, h5, h6, h7, h8, h9, h10, h11, ⟨x1, y1, h12⟩, ⟨x2, y2, h13⟩, ⟨x3, y3, h14⟩, h15, h16, h17, hP, hL⟩ := h
  have hP' := hP
  unfold cl_P at hP'
  obtain ⟨p1, p2, p3, p4, p5, p6, p7, p8, -⟩ := hP'
  have hs := hF.2.2
  exact ⟨by rw [hs _ (by omega)]; exact h1, hT, h3.same (fun q _ _ => hs q (by omega)), by rw [hs _ (by omega)]; exact h4, by rw [hs _ (by omega)]; exact h5, h6.same (fun q _ _ => hs q (by omega)), h7.same (fun q _ _ => hs q (by omega)), h8.same (fun q _ _ => hs q (by omega)), h9.same (fun q _ _ => hs q (by omega)), h10.same (fun q _ _ => hs q (by omega)), h11.same (fun q _ _ => hs q (by omega)), ⟨x1, y1, h12.same (hs _ (by omega)) (hs _ (by omega))⟩, ⟨x2, y2, h13.same (hs _ (by omega)) (hs _ (by omega))⟩, ⟨x3, y3, h14.same (hs _ (by omega)) (hs _ (by omega))⟩, h15.same (hs _ (by omega)) (hs _ (by omega)), h16.same (hs _ (by omega)) (hs _ (by omega)), fun q hq => by rw [hs _ (by omega)]; exact h17 q hq, hP, by rw [hF.1]; exact hL⟩
theorem cl_J.vals {rs' : List Nat} {xs' : List sb_vt} {nv' : Nat} (h : cl_J A m0 m1 m2 s0 s1 s2 u0 u1 f cs n a ff rs xs nv M0 M1 M2 z0 z1 z2 S0 S1 S2 w0 w1) (hV : sb_V B 48 rs' xs' nv') (hF : sb_fr A B 48 56) : cl_J B m0 m1 m2 s0 s1 s2 u0 u1 f cs n a ff rs' xs' nv' M0 M1 M2 z0 z1 z2 S0 S1 S2 w0 w1 := by
  obtain ⟨h1, h2, -, h4, h5, h6, h7, h8, h9, h10, h11, ⟨x1, y1, h12⟩, ⟨x2, y2, h13⟩, ⟨x3, y3, h14⟩, h15, h16, h17, hP, hL⟩ := h
  have hP' := hP
  unfold cl_P at hP'
  obtain ⟨p1, p2, p3, p4, p5, p6, p7, p8, -⟩ := hP'
  have hs := hF.2.2
  exact ⟨by rw [hs _ (by omega)]; exact h1, h2.same (hs _ (by omega)) (hs _ (by omega)), hV, by rw [hs _ (by omega)]; exact h4, by rw [hs _ (by omega)]; exact h5, h6.same (fun q _ _ => hs q (by omega)), h7.same (fun q _ _ => hs q (by omega)), h8.same (fun q _ _ => hs q (by omega)), h9.same (fun q _ _ => hs q (by omega)), h10.same (fun q _ _ => hs q (by omega)), h11.same (fun q _ _ => hs q (by omega)), ⟨x1, y1, h12.same (hs _ (by omega)) (hs _ (by omega))⟩, ⟨x2, y2, h13.same (hs _ (by omega)) (hs _ (by omega))⟩, ⟨x3, y3, h14.same (hs _ (by omega)) (hs _ (by omega))⟩, h15.same (hs _ (by omega)) (hs _ (by omega)), h16.same (hs _ (by omega)) (hs _ (by omega)), fun q hq => by rw [hs _ (by omega)]; exact h17 q hq, hP, by rw [hF.1]; exact hL⟩
theorem cl_J.rule0 {am : List Int64} {un : Int64} (h : cl_J A m0 m1 m2 s0 s1 s2 u0 u1 f cs n a ff rs xs nv M0 M1 M2 z0 z1 z2 S0 S1 S2 w0 w1) (hG : sb_G B s0 S0) (hQ : sb_P B (s0 + 11) am un) (hF : sb_fr A B (s0 + 11) (s0 + 13)) : cl_J B m0 m1 m2 s0 s1 s2 u0 u1 f cs n a ff rs xs nv M0 M1 M2 z0 z1 z2 S0 S1 S2 w0 w1 := by
  obtain ⟨h1, h2, h3, h4, h5, h6, h7, h8, h9, h10, h11, ⟨x1, y1, h12⟩, ⟨x2, y2, h13⟩, ⟨x3, y3, h14⟩, h15, h16, h17, hP, hL⟩ := h
  have hP' := hP
  unfold cl_P sb_dj at hP'
  obtain ⟨p1, p2, p3, p4, p5, p6, p7, p8, p9, p10, p11, p12, p13, p14⟩ := hP'
  have hs := hF.2.2
  exact ⟨by rw [hs _ (by omega)]; exact h1, h2.same (hs _ (by omega)) (hs _ (by omega)), h3.same (fun q _ _ => hs q (by omega)), by rw [hs _ (by omega)]; exact h4, by rw [hs _ (by omega)]; exact h5, h6.same (fun q _ _ => hs q (by omega)), h7.same (fun q _ _ => hs q (by omega)), h8.same (fun q _ _ => hs q (by omega)), hG, h10.same (fun q _ _ => hs q (by omega)), h11.same (fun q _ _ => hs q (by omega)), ⟨am, un, hQ⟩, ⟨x2, y2, h13.same (hs _ (by omega)) (hs _ (by omega))⟩, ⟨x3, y3, h14.same (hs _ (by omega)) (hs _ (by omega))⟩, h15.same (hs _ (by omega)) (hs _ (by omega)), h16.same (hs _ (by omega)) (hs _ (by omega)), fun q hq => by rw [hs _ (by omega)]; exact h17 q hq, hP, by rw [hF.1]; exact hL⟩
theorem cl_J.rule1 {am : List Int64} {un : Int64} (h : cl_J A m0 m1 m2 s0 s1 s2 u0 u1 f cs n a ff rs xs nv M0 M1 M2 z0 z1 z2 S0 S1 S2 w0 w1) (hG : sb_G B s1 S1) (hQ : sb_P B (s1 + 11) am un) (hF : sb_fr A B (s1 + 11) (s1 + 13)) : cl_J B m0 m1 m2 s0 s1 s2 u0 u1 f cs n a ff rs xs nv M0 M1 M2 z0 z1 z2 S0 S1 S2 w0 w1 := by
  obtain ⟨h1, h2, h3, h4, h5, h6, h7, h8, h9, h10, h11, ⟨x1, y1, h12⟩, ⟨x2, y2, h13⟩, ⟨x3, y3, h14⟩, h15, h16, h17, hP, hL⟩ := h
  have hP' := hP
  unfold cl_P sb_dj at hP'
  obtain ⟨p1, p2, p3, p4, p5, p6, p7, p8, p9, p10, p11, p12, p13, p14⟩ := hP'
  have hs := hF.2.2
  exact ⟨by rw [hs _ (by omega)]; exact h1, h2.same (hs _ (by omega)) (hs _ (by omega)), h3.same (fun q _ _ => hs q (by omega)), by rw [hs _ (by omega)]; exact h4, by rw [hs _ (by omega)]; exact h5, h6.same (fun q _ _ => hs q (by omega)), h7.same (fun q _ _ => hs q (by omega)), h8.same (fun q _ _ => hs q (by omega)), h9.same (fun q _ _ => hs q (by omega)), hG, h11.same (fun q _ _ => hs q (by omega)), ⟨x1, y1, h12.same (hs _ (by omega)) (hs _ (by omega))⟩, ⟨am, un, hQ⟩, ⟨x3, y3, h14.same (hs _ (by omega)) (hs _ (by omega))⟩, h15.same (hs _ (by omega)) (hs _ (by omega)), h16.same (hs _ (by omega)) (hs _ (by omega)), fun q hq => by rw [hs _ (by omega)]; exact h17 q hq, hP, by rw [hF.1]; exact hL⟩
end CJ
theorem cl_obj_set {A : am_H} {c c' : am_C} (h : A[45]? = some c) (hl : c'.2.length = c.2.length) : (A.set 45 c')[45]? = some c' ∧ (∀ q, q ≠ 45 → (A.set 45 c')[q]? = A[q]?) ∧ (A.set 45 c').length = A.length ∧ cl_F A (A.set 45 c') 0 :=
  ⟨sb_ss h, fun q hq => List.getElem?_set_ne (fun e => hq e.symm), by simp, cl_F.fr ((sb_fr.refl A 45 46).set rfl h hl (by omega) (by omega)) (by omega) (by omega)⟩
