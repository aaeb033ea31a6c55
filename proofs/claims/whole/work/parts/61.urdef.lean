/-! The rules reader's state: the reader at r, the text at t, the rules at m. -/
theorem sb_K.wor {A : am_H} (h : sb_K A) : sb_S A 13 34 rd_WO := h.str 10 _ rfl rfl rfl ⟨sb_lt128 rfl, by decide⟩
theorem sb_K.wan {A : am_H} (h : sb_K A) : sb_S A 14 35 rd_WA := h.str 11 _ rfl rfl rfl ⟨sb_lt128 rfl, by decide⟩
def ru_WI : List Nat := [110, 105, 118, 119, 102, 116]
theorem sb_K.wix {A : am_H} (h : sb_K A) : sb_S A 12 33 ru_WI := h.str 9 _ rfl rfl rfl ⟨sb_lt128 rfl, by decide⟩
/-- numbers as they can be read -/
def rg_ok (S : rg) : Prop := (∀ i, rg_f S i ≤ 40) ∧ (∀ i, rg_e S i ≤ 40) ∧ (∀ i, rg_o S i < 6) ∧ (∀ i, rg_m S i < 10000) ∧ (∀ i, rg_a S i ≤ 60) ∧ (∀ i, rg_b S i ≤ 60) ∧ (∀ i, rg_l S i < 10000) ∧ (∀ i, rg_h S i < 10000)
def sb_G (A : am_H) (s : Nat) (S : rg) : Prop := ∃ fi en op mo ng og fr re lo hi, sb_R A s fi en op mo ng og fr re (rg_R S) lo hi (rg_G S) ∧ ((∀ i, fi.getD i 0 = rg_f S i) ∧ (∀ i, en.getD i 0 = rg_e S i) ∧ (∀ i, op.getD i 0 = rg_o S i) ∧ (∀ i, mo.getD i 0 = rg_m S i) ∧ (∀ i, ng.getD i false = rg_n S i) ∧ (∀ i, og.getD i false = rg_g S i) ∧ (∀ i, fr.getD i 0 = rg_a S i) ∧ (∀ i, re.getD i 0 = rg_b S i) ∧ (∀ i, lo.getD i 0 = rg_l S i) ∧ (∀ i, hi.getD i 0 = rg_h S i)) ∧ rg_ok S
theorem sb_G.P {A : am_H} {s : Nat} {S : rg} (h : sb_G A s S) : rg_R S ≤ 40 ∧ rg_G S ≤ 60 ∧ 45 ≤ s := by
  obtain ⟨fi, en, op, mo, ng, og, fr, re, lo, hi, h, -⟩ := h
  obtain ⟨q0, q1, q2, q3, q4, q5, q6, q7, q8, q9, q10, l1, l2, l3, l4, l5, l6⟩ := h
  exact ⟨l4, l5, l6⟩
theorem up_all {α : Type} {f : Nat → α} {i : Nat} {v : α} {P : α → Prop} (h : ∀ j, P (f j)) (hv : P v) (j : Nat) : P (up_ f i v j) := by
  unfold up_
  split
  · exact hv
  · exact h j
theorem gn_has {d s c : Nat} {S : rg} {A : am_H} (hc : c < 5) (h : sb_G A s S) : am_go d 70 [.ref s, .int (Int32.ofNat c)] A (.inl (some (.int (sb_i (rg_hr S c)))), A) := by
  obtain ⟨fi, en, op, mo, ng, og, fr, re, lo, hi, h, ⟨e1, e2, e3, e4, e5, e6, e7, e8, e9, e10⟩, o1, o2, o3, o4, o5, o6, o7, o8⟩ := h
  have h1 := rs_has (d := d) hc (by rw [e1]; have := o1 c; omega) (by rw [e2]; have := o2 c; omega) h
  unfold sb_hr at h1
  rw [e1, e2] at h1
  exact h1
theorem gn_close {d s c f : Nat} {S : rg} {A : am_H} (hc : c < 5) (hf : f ≤ 40) (h : sb_G A s S) : ∃ B, am_go d 83 [.ref s, .int (Int32.ofNat c), .int (Int32.ofNat f)] A (.inl none, B) ∧ sb_G B s (rg_close S c f) ∧ sb_fr A B s (s + 11) := by
  have hP := h.P
  obtain ⟨fi, en, op, mo, ng, og, fr, re, lo, hi, h, ⟨e1, e2, e3, e4, e5, e6, e7, e8, e9, e10⟩, o1, o2, o3⟩ := h
  have hl := h.2.2.2.2.2.2.2.2.2.2.2.1
  obtain ⟨B, g, h', fr⟩ := rs_close (d := d) (c := c) (f := f) hc h
  exact ⟨B, g, ⟨_, _, _, _, _, _, _, _, _, _, h', ⟨fun i => sb_getD_set e1 (by omega), fun i => sb_getD_set e2 (by omega), e3, e4, e5, e6, e7, e8, e9, e10⟩, up_all (P := fun x => x ≤ 40) o1 hf, up_all (P := fun x => x ≤ 40) o2 hP.1, o3⟩, fr⟩
theorem gn_addr {d s o m : Nat} {a b : Bool} {S : rg} {A : am_H} (h1 : rg_R S < 40) (ho : o < 6) (hm : m < 10000) (h : sb_G A s S) : ∃ B, am_go d 80 [.ref s, .int (Int32.ofNat o), .int (Int32.ofNat m), .int (sb_i a), .int (sb_i b)] A (.inl none, B) ∧ sb_G B s (rg_addr S o m a b) ∧ sb_fr A B s (s + 11) := by
  have hP := h.P
  obtain ⟨fi, en, op, mo, ng, og, fr, re, lo, hi, h, ⟨e1, e2, e3, e4, e5, e6, e7, e8, e9, e10⟩, o1, o2, o3, o4, o5, o6, o7⟩ := h
  have hl := h.2.2.2.2.2.2.2.2.2.2.2.2.1
  obtain ⟨B, g, h', fr⟩ := rs_addr (d := d) (o := o) (m := m) (a := a) (b := b) h1 h
  exact ⟨B, g, ⟨_, _, _, _, _, _, _, _, _, _, h', ⟨e1, e2, fun i => sb_getD_set e3 (by omega), fun i => sb_getD_set e4 (by omega), fun i => sb_getD_set e5 (by omega), fun i => sb_getD_set e6 (by omega), fun i => sb_getD_set e7 (by omega), fun i => sb_getD_set e8 (by omega), e9, e10⟩, o1, o2, up_all (P := fun x => x < 6) o3 ho, up_all (P := fun x => x < 10000) o4 hm, up_all (P := fun x => x ≤ 60) o5 hP.2.1, up_all (P := fun x => x ≤ 60) o6 hP.2.1, o7⟩, fr⟩
theorem gn_addg {d s a b : Nat} {S : rg} {A : am_H} (h1 : rg_G S < 60) (h2 : 0 < rg_R S) (ha : a < 10000) (hb : b < 10000) (h : sb_G A s S) : ∃ B, am_go d 82 [.ref s, .int (Int32.ofNat a), .int (Int32.ofNat b)] A (.inl none, B) ∧ sb_G B s (rg_addg S a b) ∧ sb_fr A B s (s + 11) := by
  have hP := h.P
  obtain ⟨fi, en, op, mo, ng, og, fr, re, lo, hi, h, ⟨e1, e2, e3, e4, e5, e6, e7, e8, e9, e10⟩, o1, o2, o3, o4, o5, o6, o7, o8⟩ := h
  have hl := h.2.2.2.2.2.2.2.2.2.2.2.2.1
  have hl2 := h.2.2.2.2.2.2.2.2.2.2.2.2.2.1
  obtain ⟨B, g, h', fr⟩ := rs_addg (d := d) (a := a) (b := b) h1 h2 h
  exact ⟨B, g, ⟨_, _, _, _, _, _, _, _, _, _, h', ⟨e1, e2, e3, e4, e5, e6, e7, fun i => sb_getD_set e8 (by omega), fun i => sb_getD_set e9 (by omega), fun i => sb_getD_set e10 (by omega)⟩, o1, o2, o3, o4, o5, up_all (P := fun x => x ≤ 60) o6 h1, up_all (P := fun x => x < 10000) o7 ha, up_all (P := fun x => x < 10000) o8 hb⟩, fr⟩
theorem gn_clear {d s : Nat} {S : rg} {A : am_H} (h : sb_G A s S) : ∃ B, am_go d 65 [.ref s] A (.inl none, B) ∧ sb_G B s (rg_clr S) ∧ sb_fr A B s (s + 11) := by
  obtain ⟨fi, en, op, mo, ng, og, fr, re, lo, hi, h, ⟨e1, e2, e3⟩, o1, o2, o3⟩ := h
  obtain ⟨B, g, h', fr⟩ := rs_clear (d := d) h
  have h5 : ∀ i, [0, 0, 0, 0, 0].getD i 0 = 0 := by
    intro i
    match i with
    | 0 => rfl
    | 1 => rfl
    | 2 => rfl
    | 3 => rfl
    | 4 => rfl
    | i + 5 => rfl
  exact ⟨B, g, ⟨_, _, _, _, _, _, _, _, _, _, h', ⟨h5, h5, e3⟩, fun i => Nat.zero_le _, fun i => Nat.zero_le _, o3⟩, fr⟩
theorem sb_G.same {A B : am_H} {s : Nat} {S : rg} (h : sb_G A s S) (hs : ∀ q, s ≤ q → q < s + 11 → B[q]? = A[q]?) : sb_G B s S := by
  obtain ⟨fi, en, op, mo, ng, og, fr, re, lo, hi, h, e⟩ := h
  obtain ⟨q0, q1, q2, q3, q4, q5, q6, q7, q8, q9, q10, l⟩ := h
  exact ⟨fi, en, op, mo, ng, og, fr, re, lo, hi, ⟨by rw [hs _ (by omega) (by omega)]; exact q0, by rw [hs _ (by omega) (by omega)]; exact q1, by rw [hs _ (by omega) (by omega)]; exact q2, by rw [hs _ (by omega) (by omega)]; exact q3, by rw [hs _ (by omega) (by omega)]; exact q4, by rw [hs _ (by omega) (by omega)]; exact q5, by rw [hs _ (by omega) (by omega)]; exact q6, by rw [hs _ (by omega) (by omega)]; exact q7, by rw [hs _ (by omega) (by omega)]; exact q8, by rw [hs _ (by omega) (by omega)]; exact q9, by rw [hs _ (by omega) (by omega)]; exact q10, l⟩, e⟩
def ur_P (r t m : Nat) : Prop := (t + 2 ≤ m ∨ m + 11 ≤ t) ∧ (r < t ∨ t + 2 ≤ r) ∧ (r < m ∨ m + 11 ≤ r) ∧ 45 ≤ r
def ur_I (A : am_H) (r t m : Nat) (cs : List Nat) (n a : Nat) (f : Int32) (S : rg) : Prop := A[r]? = some (9, [.ref t, .ref m]) ∧ sb_T A t cs n a f ∧ sb_G A m S ∧ sb_K A ∧ ur_P r t m
def ur_F (A B : am_H) (t m : Nat) : Prop := B.length = A.length ∧ am_sl B = am_sl A ∧ ∀ q, (q < t ∨ t + 2 ≤ q) → (q < m ∨ m + 11 ≤ q) → B[q]? = A[q]?
theorem ur_F.refl (A : am_H) (t m : Nat) : ur_F A A t m := ⟨rfl, rfl, fun _ _ _ => rfl⟩
theorem ur_F.trans {A B C : am_H} {t m : Nat} (h : ur_F A B t m) (k : ur_F B C t m) : ur_F A C t m := ⟨k.1.trans h.1, k.2.1.trans h.2.1, fun q h1 h2 => (k.2.2 q h1 h2).trans (h.2.2 q h1 h2)⟩
section UI
variable {A B : am_H} {r t m n a a' : Nat} {f f' : Int32} {cs : List Nat} {S S' : rg}
theorem ur_I.T (h : ur_I A r t m cs n a f S) : sb_T A t cs n a f := h.2.1
theorem ur_I.N (h : ur_I A r t m cs n a f S) : sb_G A m S := h.2.2.1
theorem ur_I.K (h : ur_I A r t m cs n a f S) : sb_K A := h.2.2.2.1
theorem ur_I.tc (h : ur_I A r t m cs n a f S) : A[t]? = some (1, [.ref (t + 1), .int (Int32.ofNat n), .int (Int32.ofNat a), .int f]) := h.2.1.1
theorem ur_I.rc (h : ur_I A r t m cs n a f S) : A[r]? = some (9, [.ref t, .ref m]) := h.1
theorem ur_I.mc (h : ur_I A r t m cs n a f S) : A[m]? = some (5, [.ref (m + 1), .ref (m + 2), .ref (m + 3), .ref (m + 4), .ref (m + 5), .ref (m + 6), .ref (m + 7), .ref (m + 8), .int (Int32.ofNat (rg_R S)), .ref (m + 9), .ref (m + 10), .int (Int32.ofNat (rg_G S)), .ref (m + 11)]) := by
  obtain ⟨fi, en, op, mo, ng, og, fr, re, lo, hi, q, e⟩ := h.2.2.1
  exact q.1
theorem ur_I.ge (h : ur_I A r t m cs n a f S) : n ≤ 120 ∧ a ≤ 120 ∧ 45 ≤ t ∧ 45 ≤ m := ⟨h.2.1.2.2.2.1, h.2.1.2.2.2.2.1, h.2.1.2.2.2.2.2.2, h.2.2.1.P.2.2⟩
theorem ur_I.lk (h : ur_I A r t m cs n a f S) (k : Nat) : sb_lk cs n k < 128 := by
  unfold sb_lk
  split
  · exact h.T.2.2.2.2.2.1 k
  · decide
theorem ur_I.text (h : ur_I A r t m cs n a f S) (hT : sb_T B t cs n a' f') (hF : sb_fr A B t (t + 2)) : ur_I B r t m cs n a' f' S ∧ ur_F A B t m := by
  obtain ⟨h1, h2, h3, h4, h5, h6, h7, h8⟩ := h
  have h9 := h2.2.2.2.2.2.2
  have h10 := h3.P.2.2
  refine ⟨⟨by rw [hF.2.2 _ (by omega)]; exact h1, hT, h3.same (fun q q1 q2 => hF.2.2 q (by omega)), fun q hq => by rw [hF.2.2 _ (by omega)]; exact h4 q hq, h5, h6, h7, h8⟩, hF.1, hF.2.1, fun q q1 _ => hF.2.2 q q1⟩
theorem ur_I.mesg (h : ur_I A r t m cs n a f S) (hN : sb_G B m S') (hF : sb_fr A B m (m + 11)) : ur_I B r t m cs n a f S' ∧ ur_F A B t m := by
  obtain ⟨h1, h2, h3, h4, h5, h6, h7, h8⟩ := h
  have h9 := h2.2.2.2.2.2.2
  have h10 := h3.P.2.2
  refine ⟨⟨by rw [hF.2.2 _ (by omega)]; exact h1, h2.same (hF.2.2 _ (by omega)) (hF.2.2 _ (by omega)), hN, fun q hq => by rw [hF.2.2 _ (by omega)]; exact h4 q hq, h5, h6, h7, h8⟩, hF.1, hF.2.1, fun q _ q2 => hF.2.2 q q2⟩
theorem ur_I.set (h : ur_I A r t m cs n a f S) (ha : a' ≤ 120) : ur_I (A.set t (sb_tc t n a' f')) r t m cs n a' f' S ∧ ur_F A (A.set t (sb_tc t n a' f')) t m :=
  h.text (h.T.set ha) ((sb_fr.refl A t (t + 2)).set rfl h.T.1 rfl (by omega) (by omega))
def ui_go (d y : Nat) (as : List Value) (A : am_H) (v : Option Value) (r t m : Nat) (cs : List Nat) (n a : Nat) (f : Int32) (S : rg) : Prop := ∃ B, am_go d y as A (.inl v, B) ∧ ur_I B r t m cs n a f S ∧ ur_F A B t m
theorem ui_skip {d : Nat} (hd : 1 ≤ d) (han : a ≤ n) (h : ur_I A r t m cs n a f S) : ui_go d 36 [.ref t] A none r t m cs n (rd_sk cs n a) f S := by
  have h1 := rd_sk_le (cs := cs) han
  have h2 := h.ge
  exact ⟨_, tx_skip hd h.T, (h.set (by unfold rd_sk at h1; omega)).1, (h.set (by unfold rd_sk at h1; omega)).2⟩
theorem ui_take1 {d x : Nat} (hx : x < 128) (h0 : x ≠ 0) (h2 : sb_lk cs n a = x) (h : ur_I A r t m cs n a f S) : ui_go d 34 [.ref t, .int (Int32.ofNat x)] A (some (.int 1)) r t m cs n (a + 1) f S := by
  have h1 : a < n := sb_lk_pos (cs := cs) (by omega)
  have h3 := h.ge
  have h4 : cs.getD a 0 = x := by unfold sb_lk at h2; rw [if_pos h1] at h2; exact h2
  exact ⟨_, tx_take1 hx h1 h4 h.T, (h.set (by omega)).1, (h.set (by omega)).2⟩
theorem ui_take0 {d x : Nat} (hx : x < 128) (h0 : x ≠ 0) (h2 : ¬ sb_lk cs n a = x) (h : ur_I A r t m cs n a f S) : ui_go d 34 [.ref t, .int (Int32.ofNat x)] A (some (.int 0)) r t m cs n a f S :=
  ⟨_, tx_take0 hx (fun q => h2 (by unfold sb_lk; rw [if_pos q.1]; exact q.2)) h.T, h, ur_F.refl A t m⟩
theorem ui_need1 {d x : Nat} (hd : 1 ≤ d) (hx : x < 128) (h0 : x ≠ 0) (h2 : sb_lk cs n a = x) (h : ur_I A r t m cs n a f S) : ui_go d 41 [.ref t, .int (Int32.ofNat x)] A (some (.int 1)) r t m cs n (a + 1) f S := by
  have h1 : a < n := sb_lk_pos (cs := cs) (by omega)
  have h3 := h.ge
  have h4 : cs.getD a 0 = x := by unfold sb_lk at h2; rw [if_pos h1] at h2; exact h2
  exact ⟨_, tx_need1 hd hx h1 h4 h.T, (h.set (by omega)).1, (h.set (by omega)).2⟩
theorem ui_need0 {d x : Nat} (hd : 1 ≤ d) (hx : x < 128) (h2 : ¬ sb_lk cs n a = x) (h : ur_I A r t m cs n a f S) : ui_go d 41 [.ref t, .int (Int32.ofNat x)] A (some (.int 0)) r t m cs n a (Int32.ofNat a) S :=
  ⟨_, tx_need0 hd hx (fun q => h2 (by unfold sb_lk; rw [if_pos q.1]; exact q.2)) h.T, (h.set h.ge.2.1).1, (h.set h.ge.2.1).2⟩
theorem ui_refuse {d : Nat} {x : Int32} (h : ur_I A r t m cs n a f S) : ui_go d 39 [.ref t, .int x] A (some (.int 0)) r t m cs n a x S :=
  ⟨_, tx_refuse h.T, (h.set h.ge.2.1).1, (h.set h.ge.2.1).2⟩
theorem ui_pack {d e : Nat} (hen : e ≤ n) (hae : a ≤ e) (h : ur_I A r t m cs n a f S) : ui_go d 40 [.ref t, .int (Int32.ofNat e)] A (some (.long (sb_pk cs (e - a) a 0))) r t m cs n e f S := by
  have h3 := h.ge
  exact ⟨_, tx_pack hen hae h.T, (h.set (by omega)).1, (h.set (by omega)).2⟩
theorem ui_num1 {d mo a1 v : Nat} (hd : 1 ≤ d) (hmo : mo ≤ 9) (han : a ≤ n) (hr : rd_num cs n mo a = .ok (a1, v)) (h : ur_I A r t m cs n a f S) : ui_go d 54 [.ref t, .int (Int32.ofNat mo)] A (some (.int (Int32.ofNat v))) r t m cs n a1 f S := by
  have h3 := h.ge
  obtain ⟨q1, q2, q3, q4, q5⟩ := rd_num_le han hr
  subst q5
  exact ⟨_, tx_num1 hd hmo han q4 q1 q3 h.T, (h.set (by omega)).1, (h.set (by omega)).2⟩
theorem ui_num0 {d mo e : Nat} (hd : 1 ≤ d) (hmo : mo ≤ 9) (han : a ≤ n) (hr : rd_num cs n mo a = .error e) (h : ur_I A r t m cs n a f S) : ui_go d 54 [.ref t, .int (Int32.ofNat mo)] A (some (.int (-1))) r t m cs n a (Int32.ofNat e) S := by
  have h3 := h.ge
  have h1 := sb_re_le (lo := 48) (hi := 57) (cs := cs) (n := n) (a := a)
  unfold rd_num at hr
  split at hr
  · next q =>
    cases hr
    exact ⟨_, tx_num0a hd hmo han rfl q.symm h.T, (h.set h.ge.2.1).1, (h.set h.ge.2.1).2⟩
  split at hr
  · next q1 q2 =>
    cases hr
    exact ⟨_, tx_num0b hd hmo han rfl (by omega) q2 h.T, (h.set h.ge.2.1).1, (h.set h.ge.2.1).2⟩
  cases hr
theorem ui_word {d s v e : Nat} {bs : List Nat} (hd : 4 ≤ d) (hae : a ≤ e) (hen : e ≤ n) (hS : sb_S A s v bs) (h : ur_I A r t m cs n a f S) : am_go d 44 [.ref t, .ref s, .int (Int32.ofNat e)] A (.inl (some (.int (sb_i (rd_is cs bs a e)))), A) := by
  unfold rd_is
  by_cases h1 : e - a = bs.length
  · rw [if_pos h1]
    exact tx_word1 hd hae hen h1 h.T hS
  · rw [if_neg h1]
    exact tx_word0 hd hae hen h1 h.T hS
theorem ui_chr1 {d k : Nat} (hk : k < n) (h : ur_I A r t m cs n a f S) : am_go d 30 [.ref t, .int (Int32.ofNat k)] A (.inl (some (.int (Int32.ofNat (sb_lk cs n k)))), A) := by
  have h1 := tx_char (d := d) (k := k) (by have := h.ge; omega) h.T
  unfold sb_chr at h1
  rw [if_pos hk] at h1
  unfold sb_lk
  rw [if_pos hk]
  exact h1
theorem ui_chr0 {d k : Nat} (hk : ¬ k < n) (hk2 : k ≤ 1000) (h : ur_I A r t m cs n a f S) : am_go d 30 [.ref t, .int (Int32.ofNat k)] A (.inl (some (.int (-1))), A) := by
  have h1 := tx_char (d := d) (k := k) hk2 h.T
  unfold sb_chr at h1
  rw [if_neg hk] at h1
  exact h1
theorem ui_row {d lo hi : Nat} (hlo : lo < 128) (hhi : hi < 128) (h : ur_I A r t m cs n a f S) : am_go d 37 [.ref t, .int (Int32.ofNat lo), .int (Int32.ofNat hi)] A (.inl (some (.int (Int32.ofNat (sb_re lo hi cs n a)))), A) := tx_rowEnd hlo hhi h.T
theorem ui_close {d c f0 : Nat} (hc : c < 5) (hf : f0 ≤ 40) (h : ur_I A r t m cs n a f S) : ui_go d 83 [.ref m, .int (Int32.ofNat c), .int (Int32.ofNat f0)] A none r t m cs n a f (rg_close S c f0) := by
  obtain ⟨B, g, q1, q2⟩ := gn_close (d := d) hc hf h.N
  exact ⟨B, g, (h.mesg q1 q2).1, (h.mesg q1 q2).2⟩
theorem ui_addr {d o mo : Nat} {x y : Bool} (h1 : rg_R S < 40) (ho : o < 6) (hm : mo < 10000) (h : ur_I A r t m cs n a f S) : ui_go d 80 [.ref m, .int (Int32.ofNat o), .int (Int32.ofNat mo), .int (sb_i x), .int (sb_i y)] A none r t m cs n a f (rg_addr S o mo x y) := by
  obtain ⟨B, g, q1, q2⟩ := gn_addr (d := d) (a := x) (b := y) h1 ho hm h.N
  exact ⟨B, g, (h.mesg q1 q2).1, (h.mesg q1 q2).2⟩
theorem ui_addg {d x y : Nat} (h1 : rg_G S < 60) (h2 : 0 < rg_R S) (hx : x < 10000) (hy : y < 10000) (h : ur_I A r t m cs n a f S) : ui_go d 82 [.ref m, .int (Int32.ofNat x), .int (Int32.ofNat y)] A none r t m cs n a f (rg_addg S x y) := by
  obtain ⟨B, g, q1, q2⟩ := gn_addg (d := d) h1 h2 hx hy h.N
  exact ⟨B, g, (h.mesg q1 q2).1, (h.mesg q1 q2).2⟩
/-- how a reader's answer and the state behind it belong together -/
def ur_Q (A : am_H) (r t m : Nat) (cs : List Nat) (n : Nat) (x : ru_R) (q : am_O × am_H) : Prop := match x with
  | .ok y => q.1 = .inl (some (.int 1)) ∧ ur_I q.2 r t m cs n y.1 (-1) y.2 ∧ ur_F A q.2 t m
  | .error e => q.1 = .inl (some (.int 0)) ∧ ∃ a' S', ur_I q.2 r t m cs n a' (Int32.ofNat e) S' ∧ ur_F A q.2 t m
theorem ur_Q_ok (h : ur_I B r t m cs n a (-1) S) (hF : ur_F A B t m) : ur_Q A r t m cs n (.ok (a, S)) (.inl (some (.int 1)), B) := ⟨rfl, h, hF⟩
theorem ur_Q_er {e : Nat} (h : ur_I B r t m cs n a (Int32.ofNat e) S) (hF : ur_F A B t m) : ur_Q A r t m cs n (.error e) (.inl (some (.int 0)), B) := ⟨rfl, a, S, h, hF⟩
theorem ur_Q1 {d y a1 : Nat} {as : List Value} {S1 : rg} {X : ru_R} (h : am_wp d y (0, am_ent y as, [], A) (ur_Q A r t m cs n X)) (hx : X = .ok (a1, S1)) : ui_go d y as A (some (.int 1)) r t m cs n a1 (-1) S1 := by
  subst hx
  obtain ⟨⟨o, B⟩, h1, h2, h3, h4⟩ := h
  dsimp only at h2
  subst h2
  exact ⟨B, h1, h3, h4⟩
theorem ur_Q0 {d y e : Nat} {as : List Value} {X : ru_R} (h : am_wp d y (0, am_ent y as, [], A) (ur_Q A r t m cs n X)) (hx : X = .error e) : ∃ a' S', ui_go d y as A (some (.int 0)) r t m cs n a' (Int32.ofNat e) S' := by
  subst hx
  obtain ⟨⟨o, B⟩, h1, h2, a', S', h3, h4⟩ := h
  dsimp only at h2
  subst h2
  exact ⟨a', S', B, h1, h3, h4⟩
theorem ur_Q.tr {X : ru_R} {q : am_O × am_H} (hF : ur_F A B t m) (h : ur_Q B r t m cs n X q) : ur_Q A r t m cs n X q := by
  cases X with
  | ok y => exact ⟨h.1, h.2.1, hF.trans h.2.2⟩
  | error e =>
    obtain ⟨h1, a', S', h2, h3⟩ := h
    exact ⟨h1, a', S', h2, hF.trans h3⟩
/-- a number is read: the answer is the number, or -1 -/
def un_Q (A : am_H) (r t m : Nat) (cs : List Nat) (n : Nat) (S : rg) (x : Except Nat (Nat × Nat)) (q : am_O × am_H) : Prop := match x with
  | .ok y => q.1 = .inl (some (.int (Int32.ofNat y.2))) ∧ ur_I q.2 r t m cs n y.1 (-1) S ∧ ur_F A q.2 t m
  | .error e => q.1 = .inl (some (.int (-1))) ∧ ∃ a', ur_I q.2 r t m cs n a' (Int32.ofNat e) S ∧ ur_F A q.2 t m
theorem un_Q_ok {v : Nat} (h : ur_I B r t m cs n a (-1) S) (hF : ur_F A B t m) : un_Q A r t m cs n S (.ok (a, v)) (.inl (some (.int (Int32.ofNat v))), B) := ⟨rfl, h, hF⟩
theorem un_Q_er {e : Nat} (h : ur_I B r t m cs n a (Int32.ofNat e) S) (hF : ur_F A B t m) : un_Q A r t m cs n S (.error e) (.inl (some (.int (-1))), B) := ⟨rfl, a, h, hF⟩
theorem un_Q1 {d y a1 v : Nat} {as : List Value} {X : Except Nat (Nat × Nat)} (h : am_wp d y (0, am_ent y as, [], A) (un_Q A r t m cs n S X)) (hx : X = .ok (a1, v)) : ui_go d y as A (some (.int (Int32.ofNat v))) r t m cs n a1 (-1) S := by
  subst hx
  obtain ⟨⟨o, B⟩, h1, h2, h3, h4⟩ := h
  dsimp only at h2
  subst h2
  exact ⟨B, h1, h3, h4⟩
theorem un_Q0 {d y e : Nat} {as : List Value} {X : Except Nat (Nat × Nat)} (h : am_wp d y (0, am_ent y as, [], A) (un_Q A r t m cs n S X)) (hx : X = .error e) : ∃ a', ui_go d y as A (some (.int (-1))) r t m cs n a' (Int32.ofNat e) S := by
  subst hx
  obtain ⟨⟨o, B⟩, h1, h2, a', h3, h4⟩ := h
  dsimp only at h2
  subst h2
  exact ⟨a', B, h1, h3, h4⟩
end UI
