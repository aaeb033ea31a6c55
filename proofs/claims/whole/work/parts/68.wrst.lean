/-! The writer's state: the writer at r, the message at m, the values at v, the rules' row at q, the rules at s0 and s1, the output at u. -/
def sb_dj (a la b lb : Nat) : Prop := a + la ≤ b ∨ b + lb ≤ a
def wr_P (r m v q s0 s1 u : Nat) : Prop := (sb_dj r 1 u 2 ∧ sb_dj r 1 (s0 + 11) 2 ∧ sb_dj r 1 (s1 + 11) 2) ∧ (sb_dj m 9 u 2 ∧ sb_dj m 9 (s0 + 11) 2 ∧ sb_dj m 9 (s1 + 11) 2) ∧ (sb_dj v 8 u 2 ∧ sb_dj v 8 (s0 + 11) 2 ∧ sb_dj v 8 (s1 + 11) 2) ∧ (sb_dj q 1 u 2 ∧ sb_dj q 1 (s0 + 11) 2 ∧ sb_dj q 1 (s1 + 11) 2) ∧ sb_dj s0 13 u 2 ∧ sb_dj s1 13 u 2 ∧ sb_dj s0 13 s1 13 ∧ 45 ≤ r
/-- what is under the names, as the values' row has it -/
def vl_ok (xs : List sb_vt) (n : Nat) (vf : wr_v) : Prop := ∀ nm, match vf nm with
  | none => sb_pl xs nm n 0 = -1
  | some (.inl p) => ∃ j sc, j < 6 ∧ sb_pl xs nm n 0 = Int32.ofNat j ∧ xs.getD j sb_v0 = (nm, true, Int64.ofNat p, sc) ∧ p < 2147483648
  | some (.inr y) => ∃ j, j < 6 ∧ sb_pl xs nm n 0 = Int32.ofNat j ∧ xs.getD j sb_v0 = (nm, false, Int64.ofInt y.1, Int32.ofNat y.2) ∧ y.1.natAbs ≤ 1000000000000000 ∧ y.2 ≤ 6
/-- numbers as the reader leaves them -/
def mg_wf (M : mg) : Prop := (∀ i, i < mg_P M → mg_k M i ≤ 8 ∧ mg_o M i < 100 ∧ mg_x M i ≤ 120 ∧ (mg_k M i = 0 → (mg_c M i).toUInt32.toNat < 128)) ∧ ∀ b, b < mg_B M → mg_a M b ≤ 120 ∧ mg_e M b ≤ 120
def wr_I (A : am_H) (r m v q s0 s1 u : Nat) (M : mg) (z : Bool) (rs : List Nat) (xs : List sb_vt) (n : Nat) (S0 S1 : rg) (len : Bool) (w : List Nat) : Prop := A[r]? = some (10, [.ref m, .ref v, .ref q, .ref u, .int (sb_i len)]) ∧ sb_N A m M z ∧ sb_V A v rs xs n ∧ A[q]? = some (112, [.ref s0, .ref s1]) ∧ sb_G A s0 S0 ∧ sb_G A s1 S1 ∧ (∃ am un, sb_P A (s0 + 11) am un) ∧ (∃ am un, sb_P A (s1 + 11) am un) ∧ sb_O A u w ∧ sb_K A ∧ wr_P r m v q s0 s1 u
def wr_F (A B : am_H) (s0 s1 u : Nat) : Prop := B.length = A.length ∧ am_sl B = am_sl A ∧ ∀ q, (q < u ∨ u + 2 ≤ q) → (q < s0 + 11 ∨ s0 + 13 ≤ q) → (q < s1 + 11 ∨ s1 + 13 ≤ q) → B[q]? = A[q]?
theorem wr_F.refl (A : am_H) (s0 s1 u : Nat) : wr_F A A s0 s1 u := ⟨rfl, rfl, fun _ _ _ _ => rfl⟩
theorem wr_F.trans {A B C : am_H} {s0 s1 u : Nat} (h : wr_F A B s0 s1 u) (k : wr_F B C s0 s1 u) : wr_F A C s0 s1 u := ⟨k.1.trans h.1, k.2.1.trans h.2.1, fun q h1 h2 h3 => (k.2.2 q h1 h2 h3).trans (h.2.2 q h1 h2 h3)⟩
theorem sb_V.same {A B : am_H} {v n : Nat} {rs : List Nat} {xs : List sb_vt} (h : sb_V A v rs xs n) (hs : ∀ q, v ≤ q → q < v + 8 → B[q]? = A[q]?) : sb_V B v rs xs n := by
  obtain ⟨q0, q1, hr, hxl, hn, h45, hx, hnd⟩ := h
  refine ⟨by rw [hs _ (by omega) (by omega)]; exact q0, by rw [hs _ (by omega) (by omega)]; exact q1, hr, hxl, hn, h45, fun j hj => ?_, hnd⟩
  have h1 := hx j hj
  exact ⟨by rw [hs _ (by omega) (by omega)]; exact h1.1, h1.2⟩
theorem sb_P.same {A B : am_H} {o : Nat} {am : List Int64} {un : Int64} (h : sb_P A o am un) (h1 : B[o]? = A[o]?) (h2 : B[o + 1]? = A[o + 1]?) : sb_P B o am un := by
  obtain ⟨a1, a2, a3⟩ := h
  exact ⟨by rw [h1]; exact a1, by rw [h2]; exact a2, a3⟩
section WI
variable {A B : am_H} {r m v q s0 s1 u n : Nat} {M : mg} {z len : Bool} {rs : List Nat} {xs : List sb_vt} {S0 S1 : rg} {w w' : List Nat}
theorem wr_I.rc (h : wr_I A r m v q s0 s1 u M z rs xs n S0 S1 len w) : A[r]? = some (10, [.ref m, .ref v, .ref q, .ref u, .int (sb_i len)]) := h.1
theorem wr_I.N (h : wr_I A r m v q s0 s1 u M z rs xs n S0 S1 len w) : sb_N A m M z := h.2.1
theorem wr_I.V (h : wr_I A r m v q s0 s1 u M z rs xs n S0 S1 len w) : sb_V A v rs xs n := h.2.2.1
theorem wr_I.qc (h : wr_I A r m v q s0 s1 u M z rs xs n S0 S1 len w) : A[q]? = some (112, [.ref s0, .ref s1]) := h.2.2.2.1
theorem wr_I.O (h : wr_I A r m v q s0 s1 u M z rs xs n S0 S1 len w) : sb_O A u w := h.2.2.2.2.2.2.2.2.1
theorem wr_I.K (h : wr_I A r m v q s0 s1 u M z rs xs n S0 S1 len w) : sb_K A := h.2.2.2.2.2.2.2.2.2.1
theorem wr_I.oc (h : wr_I A r m v q s0 s1 u M z rs xs n S0 S1 len w) : A[u]? = some (7, [.ref (u + 1), .int (Int32.ofNat w.length)]) := by
  obtain ⟨cs, h1, -⟩ := h.O
  exact h1
theorem wr_I.mc (h : wr_I A r m v q s0 s1 u M z rs xs n S0 S1 len w) : A[m]? = some (4, [.ref (m + 1), .ref (m + 2), .ref (m + 3), .ref (m + 4), .int (Int32.ofNat (mg_P M)), .ref (m + 5), .ref (m + 6), .ref (m + 7), .ref (m + 8), .int (Int32.ofNat (mg_B M)), .int (sb_i z)]) := by
  obtain ⟨ks, ct, os, ns, ow, se, st, en, q, e⟩ := h.N
  exact q.1
theorem wr_I.vv (h : wr_I A r m v q s0 s1 u M z rs xs n S0 S1 len w) : A[v]? = some (2, [.ref (v + 1), .int (Int32.ofNat n)]) := h.V.1
theorem wr_I.gc0 (h : wr_I A r m v q s0 s1 u M z rs xs n S0 S1 len w) : ∃ vs, A[s0]? = some (5, vs) := by
  obtain ⟨fi, en, op, mo, ng, og, fr, re, lo, hi, q, e⟩ := h.2.2.2.2.1
  exact ⟨_, q.1⟩
theorem wr_I.gc1 (h : wr_I A r m v q s0 s1 u M z rs xs n S0 S1 len w) : ∃ vs, A[s1]? = some (5, vs) := by
  obtain ⟨fi, en, op, mo, ng, og, fr, re, lo, hi, q, e⟩ := h.2.2.2.2.2.1
  exact ⟨_, q.1⟩
theorem wr_I.vc {j : Nat} {nm sc : Int32} {b : Bool} {c : Int64} (h : wr_I A r m v q s0 s1 u M z rs xs n S0 S1 len w) (hj : j < 6) (hx : xs.getD j sb_v0 = (nm, b, c, sc)) : A[rs.getD j 0]? = some (3, [.int nm, .int (sb_i b), .long c, .int sc]) := by
  have h1 := (h.V.2.2.2.2.2.2.1 j hj).1
  rw [hx] at h1
  exact h1
theorem wr_I.out (h : wr_I A r m v q s0 s1 u M z rs xs n S0 S1 len w) (hO : sb_O B u w') (hF : sb_fr A B u (u + 2)) : wr_I B r m v q s0 s1 u M z rs xs n S0 S1 len w' ∧ wr_F A B s0 s1 u := by
  obtain ⟨h1, h2, h3, h4, h5, h6, ⟨a0, n0, h7⟩, ⟨a1, n1, h8⟩, h9, h10, h11⟩ := h
  have hu := h9
  obtain ⟨cs, -, -, -, -, -, hu45⟩ := hu
  unfold wr_P sb_dj at h11
  refine ⟨⟨by rw [hF.2.2 _ (by omega)]; exact h1, h2.same (fun x _ _ => hF.2.2 x (by omega)), h3.same (fun x _ _ => hF.2.2 x (by omega)), by rw [hF.2.2 _ (by omega)]; exact h4, h5.same (fun x _ _ => hF.2.2 x (by omega)), h6.same (fun x _ _ => hF.2.2 x (by omega)), ⟨a0, n0, h7.same (hF.2.2 _ (by omega)) (hF.2.2 _ (by omega))⟩, ⟨a1, n1, h8.same (hF.2.2 _ (by omega)) (hF.2.2 _ (by omega))⟩, hO, fun x hx => by rw [hF.2.2 _ (by omega)]; exact h10 x hx, by unfold wr_P sb_dj; exact h11⟩, hF.1, hF.2.1, fun x x1 _ _ => hF.2.2 x x1⟩
theorem wr_I.cat0 {am : List Int64} {un : Int64} (h : wr_I A r m v q s0 s1 u M z rs xs n S0 S1 len w) (hG : sb_G B s0 S0) (hP : sb_P B (s0 + 11) am un) (hF : sb_fr A B (s0 + 11) (s0 + 13)) : wr_I B r m v q s0 s1 u M z rs xs n S0 S1 len w ∧ wr_F A B s0 s1 u := by
  obtain ⟨h1, h2, h3, h4, h5, h6, ⟨a0, n0, h7⟩, ⟨a1, n1, h8⟩, h9, h10, h11⟩ := h
  have hu := h5.P.2.2
  unfold wr_P sb_dj at h11
  refine ⟨⟨by rw [hF.2.2 _ (by omega)]; exact h1, h2.same (fun x _ _ => hF.2.2 x (by omega)), h3.same (fun x _ _ => hF.2.2 x (by omega)), by rw [hF.2.2 _ (by omega)]; exact h4, hG, h6.same (fun x _ _ => hF.2.2 x (by omega)), ⟨am, un, hP⟩, ⟨a1, n1, h8.same (hF.2.2 _ (by omega)) (hF.2.2 _ (by omega))⟩, h9.same (hF.2.2 _ (by omega)) (hF.2.2 _ (by omega)), fun x hx => by rw [hF.2.2 _ (by omega)]; exact h10 x hx, by unfold wr_P sb_dj; exact h11⟩, hF.1, hF.2.1, fun x _ x2 _ => hF.2.2 x x2⟩
theorem wr_I.cat1 {am : List Int64} {un : Int64} (h : wr_I A r m v q s0 s1 u M z rs xs n S0 S1 len w) (hG : sb_G B s1 S1) (hP : sb_P B (s1 + 11) am un) (hF : sb_fr A B (s1 + 11) (s1 + 13)) : wr_I B r m v q s0 s1 u M z rs xs n S0 S1 len w ∧ wr_F A B s0 s1 u := by
  obtain ⟨h1, h2, h3, h4, h5, h6, ⟨a0, n0, h7⟩, ⟨a1, n1, h8⟩, h9, h10, h11⟩ := h
  have hu := h6.P.2.2
  unfold wr_P sb_dj at h11
  refine ⟨⟨by rw [hF.2.2 _ (by omega)]; exact h1, h2.same (fun x _ _ => hF.2.2 x (by omega)), h3.same (fun x _ _ => hF.2.2 x (by omega)), by rw [hF.2.2 _ (by omega)]; exact h4, h5.same (fun x _ _ => hF.2.2 x (by omega)), hG, ⟨a0, n0, h7.same (hF.2.2 _ (by omega)) (hF.2.2 _ (by omega))⟩, ⟨am, un, hP⟩, h9.same (hF.2.2 _ (by omega)) (hF.2.2 _ (by omega)), fun x hx => by rw [hF.2.2 _ (by omega)]; exact h10 x hx, by unfold wr_P sb_dj; exact h11⟩, hF.1, hF.2.1, fun x _ _ x3 => hF.2.2 x x3⟩
/-- how a writer's answer and the state behind it belong together -/
def wr_Q (A : am_H) (r m v q s0 s1 u : Nat) (M : mg) (z : Bool) (rs : List Nat) (xs : List sb_vt) (n : Nat) (S0 S1 : rg) (len : Bool) (w : List Nat) (x : wr_R) (y : am_O × am_H) : Prop := match x with
  | .ok w' => y.1 = .inl (some (.int (Int32.ofNat 0))) ∧ wr_I y.2 r m v q s0 s1 u M z rs xs n S0 S1 len w' ∧ wr_F A y.2 s0 s1 u
  | .error c => y.1 = .inl (some (.int (Int32.ofNat c))) ∧ (1 ≤ c ∧ c ≤ 3) ∧ ∃ w', (c ≠ 3 → w <+: w') ∧ wr_I y.2 r m v q s0 s1 u M z rs xs n S0 S1 len w' ∧ wr_F A y.2 s0 s1 u
theorem wr_Q_ok (h : wr_I B r m v q s0 s1 u M z rs xs n S0 S1 len w') (hF : wr_F A B s0 s1 u) : wr_Q A r m v q s0 s1 u M z rs xs n S0 S1 len w (.ok w') (.inl (some (.int (Int32.ofNat 0))), B) := ⟨rfl, h, hF⟩
theorem wr_Q_er {c : Nat} (hc : 1 ≤ c ∧ c ≤ 3) (hp : c ≠ 3 → w <+: w') (h : wr_I B r m v q s0 s1 u M z rs xs n S0 S1 len w') (hF : wr_F A B s0 s1 u) : wr_Q A r m v q s0 s1 u M z rs xs n S0 S1 len w (.error c) (.inl (some (.int (Int32.ofNat c))), B) := ⟨rfl, hc, w', hp, h, hF⟩
theorem wr_Q1 {d y : Nat} {as : List Value} {w1 : List Nat} {X : wr_R} (h : am_wp d y (0, am_ent y as, [], A) (wr_Q A r m v q s0 s1 u M z rs xs n S0 S1 len w X)) (hx : X = .ok w1) : ∃ B, am_go d y as A (.inl (some (.int (Int32.ofNat 0))), B) ∧ wr_I B r m v q s0 s1 u M z rs xs n S0 S1 len w1 ∧ wr_F A B s0 s1 u := by
  subst hx
  obtain ⟨⟨o, B⟩, h1, h2, h3, h4⟩ := h
  dsimp only at h2
  subst h2
  exact ⟨B, h1, h3, h4⟩
theorem wr_Q0 {d y c : Nat} {as : List Value} {X : wr_R} (h : am_wp d y (0, am_ent y as, [], A) (wr_Q A r m v q s0 s1 u M z rs xs n S0 S1 len w X)) (hx : X = .error c) : ∃ w' B, (c ≠ 3 → w <+: w') ∧ (1 ≤ c ∧ c ≤ 3) ∧ am_go d y as A (.inl (some (.int (Int32.ofNat c))), B) ∧ wr_I B r m v q s0 s1 u M z rs xs n S0 S1 len w' ∧ wr_F A B s0 s1 u := by
  subst hx
  obtain ⟨⟨o, B⟩, h1, h2, hc, w', hp, h3, h4⟩ := h
  dsimp only at h2
  subst h2
  exact ⟨w', B, hp, hc, h1, h3, h4⟩
theorem wr_Q.tr {w0 : List Nat} {X : wr_R} {y : am_O × am_H} (hp : w0 <+: w) (hF : wr_F A B s0 s1 u) (h : wr_Q B r m v q s0 s1 u M z rs xs n S0 S1 len w X y) : wr_Q A r m v q s0 s1 u M z rs xs n S0 S1 len w0 X y := by
  cases X with
  | ok w' => exact ⟨h.1, h.2.1, hF.trans h.2.2⟩
  | error c =>
    obtain ⟨h1, hc, w', h2, h3, h4⟩ := h
    exact ⟨h1, hc, w', fun e => hp.trans (h2 e), h3, hF.trans h4⟩
/-- what the output writes -/
theorem wr_w {d y : Nat} {as : List Value} {l : List Nat} (h : wr_I A r m v q s0 s1 u M z rs xs n S0 S1 len w) (hw : sb_wrt d y as A u w l) : am_wp d y (0, am_ent y as, [], A) (wr_Q A r m v q s0 s1 u M z rs xs n S0 S1 len w (wr_put w l)) := by
  obtain ⟨B, c, w', g, hr, hO, hF⟩ := hw
  have h1 := h.out hO hF
  unfold wr_put
  rcases hr with ⟨h2, h3, h4⟩ | ⟨h2, h3⟩
  · subst h3 h4
    rw [if_pos h2]
    exact ⟨_, g, rfl, h1.1, h1.2⟩
  · subst h3
    rw [if_neg (by omega)]
    exact ⟨_, g, rfl, by omega, w', fun e => absurd rfl e, h1.1, h1.2⟩
theorem wr_I.lenw (h : wr_I A r m v q s0 s1 u M z rs xs n S0 S1 len w) : w.length ≤ 160 ∧ 45 ≤ u ∧ mg_P M ≤ 120 ∧ mg_B M ≤ 40 ∧ n ≤ 6 := by
  obtain ⟨cs, -, -, -, h1, -, h2⟩ := h.O
  exact ⟨h1, h2, h.N.P.1, h.N.P.2.1, h.V.2.2.2.2.1⟩
theorem sb_O.cut (h : sb_O A u w') (hp : w <+: w') : sb_O (A.set u (7, [.ref (u + 1), .int (Int32.ofNat w.length)])) u w ∧ sb_fr A (A.set u (7, [.ref (u + 1), .int (Int32.ofNat w.length)])) u (u + 2) := by
  obtain ⟨cs, h1, h2, h3, h4, h5, h6⟩ := h
  have hl := hp.length_le
  refine ⟨⟨cs, sb_ss h1, sb_so (by omega) h2, h3, by omega, ?_, h6⟩, (sb_fr.refl A u (u + 2)).set rfl h1 rfl (by omega) (by omega)⟩
  have h7 : cs.take w.length = (cs.take w'.length).take w.length := by rw [List.take_take, Nat.min_eq_left hl]
  rw [h7, h5]
  obtain ⟨t, rfl⟩ := hp
  simp
end WI
/-! elements of a message's rows -/
section MGE
variable {d y pc t m j : Nat} {M : mg} {z : Bool} {A : am_H} {L : am_L} {S : List Value} {Q : am_O × am_H → Prop}
theorem wp_mgk (h : sb_N A m M z) (hc : am_code y pc = some (.iaload, 1)) (hj : j < 120) (ht : pc + 1 = t) (kk : am_wp d y (t, L, .int (Int32.ofNat (mg_k M j)) :: S, A) Q) : am_wp d y (pc, L, .int (Int32.ofNat j) :: .ref (m + 1) :: S, A) Q := by
  obtain ⟨ks, ct, os, ns, ow, se, st, en, hM, e1, e2, e3, e4, e5, e6, e7, e8, e9⟩ := h
  obtain ⟨h0, h1, h2, h3, h4, h5, h6, h7, h8, ⟨l1, l2, l3, l4⟩, ⟨l5, l6, l7, l8⟩, l9⟩ := hM
  exact wp_al hc (Or.inl ⟨rfl, rfl⟩) rfl h1 (by omega) (by rw [sb_gd 0 (by omega), e1]; rfl) ht kk
theorem wp_mgc (h : sb_N A m M z) (hc : am_code y pc = some (.iaload, 1)) (hj : j < 120) (ht : pc + 1 = t) (kk : am_wp d y (t, L, .int (mg_c M j) :: S, A) Q) : am_wp d y (pc, L, .int (Int32.ofNat j) :: .ref (m + 2) :: S, A) Q := by
  obtain ⟨ks, ct, os, ns, ow, se, st, en, hM, e1, e2, e3, e4, e5, e6, e7, e8, e9⟩ := h
  obtain ⟨h0, h1, h2, h3, h4, h5, h6, h7, h8, ⟨l1, l2, l3, l4⟩, ⟨l5, l6, l7, l8⟩, l9⟩ := hM
  exact wp_al hc (Or.inl ⟨rfl, rfl⟩) rfl h2 (by omega) (by rw [sb_gd 0 (by omega), e2]) ht kk
theorem wp_mgo (h : sb_N A m M z) (hc : am_code y pc = some (.iaload, 1)) (hj : j < 120) (ht : pc + 1 = t) (kk : am_wp d y (t, L, .int (Int32.ofNat (mg_o M j)) :: S, A) Q) : am_wp d y (pc, L, .int (Int32.ofNat j) :: .ref (m + 3) :: S, A) Q := by
  obtain ⟨ks, ct, os, ns, ow, se, st, en, hM, e1, e2, e3, e4, e5, e6, e7, e8, e9⟩ := h
  obtain ⟨h0, h1, h2, h3, h4, h5, h6, h7, h8, ⟨l1, l2, l3, l4⟩, ⟨l5, l6, l7, l8⟩, l9⟩ := hM
  exact wp_al hc (Or.inl ⟨rfl, rfl⟩) rfl h3 (by omega) (by rw [sb_gd 0 (by omega), e3]; rfl) ht kk
theorem wp_mgx (h : sb_N A m M z) (hc : am_code y pc = some (.iaload, 1)) (hj : j < 120) (ht : pc + 1 = t) (kk : am_wp d y (t, L, .int (Int32.ofNat (mg_x M j)) :: S, A) Q) : am_wp d y (pc, L, .int (Int32.ofNat j) :: .ref (m + 4) :: S, A) Q := by
  obtain ⟨ks, ct, os, ns, ow, se, st, en, hM, e1, e2, e3, e4, e5, e6, e7, e8, e9⟩ := h
  obtain ⟨h0, h1, h2, h3, h4, h5, h6, h7, h8, ⟨l1, l2, l3, l4⟩, ⟨l5, l6, l7, l8⟩, l9⟩ := hM
  exact wp_al hc (Or.inl ⟨rfl, rfl⟩) rfl h4 (by omega) (by rw [sb_gd 0 (by omega), e4]; rfl) ht kk
theorem wp_mga (h : sb_N A m M z) (hc : am_code y pc = some (.iaload, 1)) (hj : j < 40) (ht : pc + 1 = t) (kk : am_wp d y (t, L, .int (Int32.ofNat (mg_a M j)) :: S, A) Q) : am_wp d y (pc, L, .int (Int32.ofNat j) :: .ref (m + 7) :: S, A) Q := by
  obtain ⟨ks, ct, os, ns, ow, se, st, en, hM, e1, e2, e3, e4, e5, e6, e7, e8, e9⟩ := h
  obtain ⟨h0, h1, h2, h3, h4, h5, h6, h7, h8, ⟨l1, l2, l3, l4⟩, ⟨l5, l6, l7, l8⟩, l9⟩ := hM
  exact wp_al hc (Or.inl ⟨rfl, rfl⟩) rfl h7 (by omega) (by rw [sb_gd 0 (by omega), e7]; rfl) ht kk
theorem wp_mge (h : sb_N A m M z) (hc : am_code y pc = some (.iaload, 1)) (hj : j < 40) (ht : pc + 1 = t) (kk : am_wp d y (t, L, .int (Int32.ofNat (mg_e M j)) :: S, A) Q) : am_wp d y (pc, L, .int (Int32.ofNat j) :: .ref (m + 8) :: S, A) Q := by
  obtain ⟨ks, ct, os, ns, ow, se, st, en, hM, e1, e2, e3, e4, e5, e6, e7, e8, e9⟩ := h
  obtain ⟨h0, h1, h2, h3, h4, h5, h6, h7, h8, ⟨l1, l2, l3, l4⟩, ⟨l5, l6, l7, l8⟩, l9⟩ := hM
  exact wp_al hc (Or.inl ⟨rfl, rfl⟩) rfl h8 (by omega) (by rw [sb_gd 0 (by omega), e8]; rfl) ht kk
end MGE
