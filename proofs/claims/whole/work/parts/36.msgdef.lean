/-! The class Message: its cell at m, its rows behind it. -/
theorem wp_goE {d m : Nat} {as : List Value} {A : am_H} {v : Option Value} {P : am_H → Prop} (h : am_wp d m (0, am_ent m as, [], A) (fun q => q.1 = .inl v ∧ P q.2)) : ∃ B, am_go d m as A (.inl v, B) ∧ P B := by
  obtain ⟨⟨o, B⟩, h1, h2, h3⟩ := h
  dsimp only at h2
  subst h2
  exact ⟨B, h1, h3⟩
/-- nothing outside lo .. hi has changed, and nothing has grown -/
def sb_fr (A B : am_H) (lo hi : Nat) : Prop := B.length = A.length ∧ am_sl B = am_sl A ∧ ∀ q, (q < lo ∨ hi ≤ q) → B[q]? = A[q]?
theorem sb_fr.refl (A : am_H) (lo hi : Nat) : sb_fr A A lo hi := ⟨rfl, rfl, fun _ _ => rfl⟩
theorem sb_fr.set {A B B' : am_H} {lo hi a : Nat} {c c' : am_C} (h : sb_fr A B lo hi) (e : B' = B.set a c') (hc : B[a]? = some c) (hl : c'.2.length = c.2.length) (h1 : lo ≤ a) (h2 : a < hi) : sb_fr A B' lo hi := by
  subst e
  refine ⟨by rw [List.length_set]; exact h.1, by rw [am_sl_set hc hl]; exact h.2.1, fun q hq => ?_⟩
  rw [List.getElem?_set, if_neg (by omega)]
  exact h.2.2 q hq
theorem sb_fr.trans {A B C : am_H} {lo hi : Nat} (h : sb_fr A B lo hi) (k : sb_fr B C lo hi) : sb_fr A C lo hi := ⟨k.1.trans h.1, k.2.1.trans h.2.1, fun q hq => (k.2.2 q hq).trans (h.2.2 q hq)⟩
theorem sb_fr.wide {A B : am_H} {lo hi lo' hi' : Nat} (h : sb_fr A B lo hi) (h1 : lo' ≤ lo) (h2 : hi ≤ hi') : sb_fr A B lo' hi' := ⟨h.1, h.2.1, fun q hq => h.2.2 q (by omega)⟩
theorem sb_fr.at {A B : am_H} {lo hi q : Nat} {c : am_C} (h : sb_fr A B lo hi) (hq : q < lo ∨ hi ≤ q) (hc : A[q]? = some c) : B[q]? = some c := by rw [h.2.2 q hq]; exact hc
def sb_mc (m p b : Nat) (z : Bool) : am_C := (4, [.ref (m + 1), .ref (m + 2), .ref (m + 3), .ref (m + 4), .int (Int32.ofNat p), .ref (m + 5), .ref (m + 6), .ref (m + 7), .ref (m + 8), .int (Int32.ofNat b), .int (sb_i z)])
/-- kinds, contents, offsets, nexts, how many parts; owners, selectors, starts, ends, how many branches; filled -/
def sb_M (A : am_H) (m : Nat) (ks : List Nat) (ct : List Int32) (os ns : List Nat) (p : Nat) (ow : List Nat) (se : List Int64) (st en : List Nat) (b : Nat) (z : Bool) : Prop :=
  A[m]? = some (sb_mc m p b z) ∧ A[m + 1]? = some (100, ks.map sb_c) ∧ A[m + 2]? = some (100, ct.map Value.int) ∧ A[m + 3]? = some (100, os.map sb_c) ∧ A[m + 4]? = some (100, ns.map sb_c) ∧
  A[m + 5]? = some (100, ow.map sb_c) ∧ A[m + 6]? = some (101, se.map Value.long) ∧ A[m + 7]? = some (100, st.map sb_c) ∧ A[m + 8]? = some (100, en.map sb_c) ∧
  (ks.length = 120 ∧ ct.length = 120 ∧ os.length = 120 ∧ ns.length = 120) ∧ (ow.length = 40 ∧ se.length = 40 ∧ st.length = 40 ∧ en.length = 40) ∧ p ≤ 120 ∧ b ≤ 40 ∧ 45 ≤ m
theorem sb_M.same {A B : am_H} {m : Nat} {ks : List Nat} {ct : List Int32} {os ns : List Nat} {p : Nat} {ow : List Nat} {se : List Int64} {st en : List Nat} {b : Nat} {z : Bool} (h : sb_M A m ks ct os ns p ow se st en b z) (hs : ∀ q, m ≤ q → q < m + 9 → B[q]? = A[q]?) : sb_M B m ks ct os ns p ow se st en b z := by
  obtain ⟨h0, h1, h2, h3, h4, h5, h6, h7, h8, h9⟩ := h
  exact ⟨by rw [hs _ (by omega) (by omega)]; exact h0, by rw [hs _ (by omega) (by omega)]; exact h1, by rw [hs _ (by omega) (by omega)]; exact h2, by rw [hs _ (by omega) (by omega)]; exact h3, by rw [hs _ (by omega) (by omega)]; exact h4, by rw [hs _ (by omega) (by omega)]; exact h5, by rw [hs _ (by omega) (by omega)]; exact h6, by rw [hs _ (by omega) (by omega)]; exact h7, by rw [hs _ (by omega) (by omega)]; exact h8, h9⟩
theorem sb_cmp0 {x y : Int64} : lg_cmp x y = 0 ↔ x = y := lg_cmp_eq x y
/-- the first branch from j on with this owner and this selector, -1 when there is none -/
def sb_bw (ow : List Nat) (se : List Int64) (o : Nat) (s : Int64) : Nat → Nat → Int32
  | 0, _ => -1
  | k + 1, j => if ow.getD j 0 = o ∧ se.getD j 0 = s then Int32.ofNat j else sb_bw ow se o s k (j + 1)
