/-! The message reader's state: the reader at r, the text at t, the message at m. -/
/-- the cells that were there at the start, behind the script -/
def sb_K (A : am_H) : Prop := ∀ q, q < 44 → A[q + 1]? = am_old[q]?
theorem sb_K.str {A : am_H} (h : sb_K A) (i : Nat) (bs : List Nat) (hi : Nat.blt i 21 = true) (h1 : am_old[i + 2]? = some (50, [.ref (i + 24), .int (Int32.ofNat 0)])) (h2 : am_old[i + 23]? = some (104, bs.map sb_c)) (h3 : (∀ k, bs.getD k 0 < 128) ∧ bs.length < 100) : sb_S A (i + 3) (i + 24) bs := by
  have hi' : i < 21 := by simpa using hi
  exact ⟨(h (i + 2) (by omega)).trans h1, (h (i + 23) (by omega)).trans h2, h3.1, h3.2⟩
theorem sb_K.ten {A : am_H} (h : sb_K A) : A[1]? = some (101, am_TENS.map Value.long) := h 0 (by decide)
theorem sb_K.cat {A : am_H} (h : sb_K A) : A[2]? = some (101, am_CW.map Value.long) := h 1 (by decide)
theorem sb_lt128 {bs : List Nat} (h : bs.all (fun b => Nat.blt b 128) = true) : ∀ k, bs.getD k 0 < 128 := by
  intro k
  rw [List.getD_eq_getElem?_getD]
  cases hk : bs[k]? with
  | none => decide
  | some x =>
    have h1 := List.all_eq_true.mp h x (List.mem_of_getElem? hk)
    simpa using h1
theorem sb_K.w3 {A : am_H} (h : sb_K A) : sb_S A 4 25 rd_W3 := h.str 1 _ rfl rfl rfl ⟨sb_lt128 rfl, by decide⟩
theorem sb_K.w4 {A : am_H} (h : sb_K A) : sb_S A 5 26 rd_W4 := h.str 2 _ rfl rfl rfl ⟨sb_lt128 rfl, by decide⟩
theorem sb_K.w5 {A : am_H} (h : sb_K A) : sb_S A 6 27 rd_W5 := h.str 3 _ rfl rfl rfl ⟨sb_lt128 rfl, by decide⟩
theorem sb_K.w6 {A : am_H} (h : sb_K A) : sb_S A 7 28 rd_W6 := h.str 4 _ rfl rfl rfl ⟨sb_lt128 rfl, by decide⟩
theorem sb_K.w7 {A : am_H} (h : sb_K A) : sb_S A 8 29 rd_W7 := h.str 5 _ rfl rfl rfl ⟨sb_lt128 rfl, by decide⟩
theorem sb_K.w8 {A : am_H} (h : sb_K A) : sb_S A 9 30 rd_W8 := h.str 6 _ rfl rfl rfl ⟨sb_lt128 rfl, by decide⟩
theorem sb_K.w9 {A : am_H} (h : sb_K A) : sb_S A 10 31 rd_W9 := h.str 7 _ rfl rfl rfl ⟨sb_lt128 rfl, by decide⟩
/-- a message as functions -/
def sb_N (A : am_H) (m : Nat) (M : mg) (z : Bool) : Prop := ∃ ks ct os ns ow se st en, sb_M A m ks ct os ns (mg_P M) ow se st en (mg_B M) z ∧ (∀ i, ks.getD i 0 = mg_k M i) ∧ (∀ i, ct.getD i 0 = mg_c M i) ∧ (∀ i, os.getD i 0 = mg_o M i) ∧ (∀ i, ns.getD i 0 = mg_x M i) ∧ (∀ i, ow.getD i 0 = mg_w M i) ∧ (∀ i, se.getD i 0 = mg_s M i) ∧ (∀ i, st.getD i 0 = mg_a M i) ∧ (∀ i, en.getD i 0 = mg_e M i) ∧ (∀ i, mg_w M i < 1000)
theorem sb_getD_set {α : Type} {l : List α} {i j : Nat} {x v : α} {f : Nat → α} (h : ∀ i, l.getD i x = f i) (hi : i < l.length) : (l.set i v).getD j x = up_ f i v j := by
  rw [List.getD_eq_getElem?_getD, List.getElem?_set]
  by_cases hj : j = i
  · subst hj
    rw [if_pos rfl, if_pos hi, up_eq]
    rfl
  · rw [if_neg (fun q => hj q.symm), up_ne hj, ← List.getD_eq_getElem?_getD, h]
theorem sb_N.P {A : am_H} {m : Nat} {M : mg} {z : Bool} (h : sb_N A m M z) : mg_P M ≤ 120 ∧ mg_B M ≤ 40 ∧ 45 ≤ m := by
  obtain ⟨ks, ct, os, ns, ow, se, st, en, h, -⟩ := h
  obtain ⟨h0, h1, h2, h3, h4, h5, h6, h7, h8, l1, l2, l3, l4, l5⟩ := h
  exact ⟨l3, l4, l5⟩
theorem mn_add {d m k : Nat} {M : mg} {x : Int32} {z : Bool} {A : am_H} (hp : mg_P M < 120) (h : sb_N A m M z) : ∃ B, am_go d 32 [.ref m, .int (Int32.ofNat k), .int x] A (.inl (some (.int (Int32.ofNat (mg_P M)))), B) ∧ sb_N B m (mg_add M k x) z ∧ sb_fr A B m (m + 9) := by
  obtain ⟨ks, ct, os, ns, ow, se, st, en, h, e1, e2, e3, e4, e5⟩ := h
  have hl := h.2.2.2.2.2.2.2.2.2.1
  obtain ⟨B, g, h', fr⟩ := ms_add (d := d) (k := k) (x := x) hp h
  exact ⟨B, g, ⟨_, _, _, _, _, _, _, _, h', fun i => sb_getD_set e1 (by omega), fun i => sb_getD_set e2 (by omega), fun i => sb_getD_set e3 (by omega), fun i => sb_getD_set e4 (by omega), e5⟩, fr⟩
theorem mn_addb {d m o : Nat} {M : mg} {s : Int64} {z : Bool} {A : am_H} (hb : mg_B M < 40) (ho : o < 1000) (h : sb_N A m M z) : ∃ B, am_go d 59 [.ref m, .int (Int32.ofNat o), .long s] A (.inl (some (.int (Int32.ofNat (mg_B M)))), B) ∧ sb_N B m (mg_addb M o s) z ∧ sb_fr A B m (m + 9) := by
  obtain ⟨ks, ct, os, ns, ow, se, st, en, h, e1, e2, e3, e4, e5, e6, e7, e8, e9⟩ := h
  have hl := h.2.2.2.2.2.2.2.2.2.2.1
  obtain ⟨B, g, h', fr⟩ := ms_addb (d := d) (o := o) (s := s) hb h
  refine ⟨B, g, ⟨_, _, _, _, _, _, _, _, h', e1, e2, e3, e4, fun i => sb_getD_set e5 (by omega), fun i => sb_getD_set e6 (by omega), fun i => sb_getD_set e7 (by omega), fun i => sb_getD_set e8 (by omega), fun i => ?_⟩, fr⟩
  show up_ (mg_w M) (mg_B M) o i < 1000
  unfold up_
  split
  · exact ho
  · exact e9 i
theorem mn_clb {d m j : Nat} {M : mg} {z : Bool} {A : am_H} (hb : j < mg_B M) (h : sb_N A m M z) : ∃ B, am_go d 60 [.ref m, .int (Int32.ofNat j)] A (.inl none, B) ∧ sb_N B m (mg_clb M j) z ∧ sb_fr A B m (m + 9) := by
  have hP := h.P
  obtain ⟨ks, ct, os, ns, ow, se, st, en, h, e1, e2, e3, e4, e5, e6, e7, e8, e9⟩ := h
  have hl := h.2.2.2.2.2.2.2.2.2.2.1
  obtain ⟨B, g, h', fr⟩ := ms_closeb (d := d) (k := j) hb h
  exact ⟨B, g, ⟨_, _, _, _, _, _, _, _, h', e1, e2, e3, e4, e5, e6, e7, fun i => sb_getD_set e8 (by omega), e9⟩, fr⟩
theorem mn_cla {d m i : Nat} {M : mg} {z : Bool} {A : am_H} (hd : 1 ≤ d) (hb : i < mg_P M) (h : sb_N A m M z) : ∃ B, am_go d 62 [.ref m, .int (Int32.ofNat i)] A (.inl none, B) ∧ sb_N B m (mg_cla M i) z ∧ sb_fr A B m (m + 9) := by
  have hP := h.P
  obtain ⟨ks, ct, os, ns, ow, se, st, en, h, e1, e2, e3, e4, e5, e6, e7, e8, e9⟩ := h
  have hl := h.2.2.2.2.2.2.2.2.2.1
  obtain ⟨B, g, h', fr⟩ := ms_closea (d := d) (k := i) hd hb h
  exact ⟨B, g, ⟨_, _, _, _, _, _, _, _, h', e1, e2, e3, fun i => sb_getD_set e4 (by omega), e5, e6, e7, e8, e9⟩, fr⟩
theorem mn_clear {d m : Nat} {M : mg} {z : Bool} {A : am_H} (h : sb_N A m M z) : ∃ B, am_go d 27 [.ref m] A (.inl none, B) ∧ sb_N B m (mg_clr M) z ∧ sb_fr A B m (m + 9) := by
  obtain ⟨ks, ct, os, ns, ow, se, st, en, h, e⟩ := h
  obtain ⟨B, g, h', fr⟩ := ms_clear (d := d) h
  exact ⟨B, g, ⟨_, _, _, _, _, _, _, _, h', e⟩, fr⟩
theorem mn_isp1 {d m i : Nat} {M : mg} {z : Bool} {A : am_H} (hb : i < mg_P M) (h : sb_N A m M z) : am_go d 55 [.ref m, .int (Int32.ofNat i)] A (.inl (some (.int 1)), A) := by
  obtain ⟨ks, ct, os, ns, ow, se, st, en, h, e⟩ := h
  exact ms_isp1 hb h
theorem mn_isp0 {d m i : Nat} {M : mg} {z : Bool} {A : am_H} (hi : i ≤ 1000) (hb : mg_P M ≤ i) (h : sb_N A m M z) : am_go d 55 [.ref m, .int (Int32.ofNat i)] A (.inl (some (.int 0)), A) := by
  obtain ⟨ks, ct, os, ns, ow, se, st, en, h, e⟩ := h
  exact ms_isp0 hi hb h
def mg_bi (o : Option Nat) : Int32 := match o with
  | none => -1
  | some j => Int32.ofNat j
theorem mg_bw_eq {ow : List Nat} {se : List Int64} {M : mg} (e1 : ∀ i, ow.getD i 0 = mg_w M i) (e2 : ∀ i, se.getD i 0 = mg_s M i) (o : Nat) (s : Int64) : ∀ k j, sb_bw ow se o s k j = mg_bi (mg_bw M o s k j)
  | 0, j => rfl
  | k + 1, j => by
    rw [sb_bw, mg_bw, e1, e2, mg_bw_eq e1 e2 o s k (j + 1)]
    split <;> rfl
theorem mg_bw_lt {M : mg} {o : Nat} {s : Int64} : ∀ {k j i}, mg_bw M o s k j = some i → j ≤ i ∧ i < j + k ∧ mg_w M i = o ∧ mg_s M i = s
  | 0, j, i, h => by cases h
  | k + 1, j, i, h => by
    rw [mg_bw] at h
    split at h
    · next q => cases h; exact ⟨Nat.le_refl _, by omega, q⟩
    · obtain ⟨h1, h2, h3⟩ := mg_bw_lt h
      exact ⟨by omega, by omega, h3⟩
theorem mn_with {d m o : Nat} {M : mg} {s : Int64} {z : Bool} {A : am_H} (ho : o < 1000) (h : sb_N A m M z) : am_go d 61 [.ref m, .int (Int32.ofNat o), .long s] A (.inl (some (.int (mg_bi (mg_bw M o s (mg_B M) 0)))), A) := by
  obtain ⟨ks, ct, os, ns, ow, se, st, en, h, e1, e2, e3, e4, e5, e6, e7, e8, e9⟩ := h
  rw [← mg_bw_eq e5 e6]
  exact ms_with ho (fun i => by rw [e5]; exact e9 i) h
theorem sb_N.same {A B : am_H} {m : Nat} {M : mg} {z : Bool} (h : sb_N A m M z) (hs : ∀ q, m ≤ q → q < m + 9 → B[q]? = A[q]?) : sb_N B m M z := by
  obtain ⟨ks, ct, os, ns, ow, se, st, en, h, e⟩ := h
  exact ⟨_, _, _, _, _, _, _, _, h.same hs, e⟩
theorem sb_T.same {A B : am_H} {t : Nat} {cs : List Nat} {n a : Nat} {f : Int32} (h : sb_T A t cs n a f) (h1 : B[t]? = A[t]?) (h2 : B[t + 1]? = A[t + 1]?) : sb_T B t cs n a f := by
  obtain ⟨a1, a2, a3⟩ := h
  exact ⟨by rw [h1]; exact a1, by rw [h2]; exact a2, a3⟩
/-- where the three lie -/
def mr_P (r t m : Nat) : Prop := (t + 2 ≤ m ∨ m + 9 ≤ t) ∧ (r < t ∨ t + 2 ≤ r) ∧ (r < m ∨ m + 9 ≤ r) ∧ 45 ≤ r
def mr_I (A : am_H) (r t m : Nat) (cs : List Nat) (n a : Nat) (f : Int32) (dbl : Bool) (M : mg) (z : Bool) : Prop := A[r]? = some (8, [.ref t, .ref m, .int (sb_i dbl)]) ∧ sb_T A t cs n a f ∧ sb_N A m M z ∧ sb_K A ∧ mr_P r t m
def mr_F (A B : am_H) (t m : Nat) : Prop := B.length = A.length ∧ am_sl B = am_sl A ∧ ∀ q, (q < t ∨ t + 2 ≤ q) → (q < m ∨ m + 9 ≤ q) → B[q]? = A[q]?
theorem mr_F.refl (A : am_H) (t m : Nat) : mr_F A A t m := ⟨rfl, rfl, fun _ _ _ => rfl⟩
theorem mr_F.trans {A B C : am_H} {t m : Nat} (h : mr_F A B t m) (k : mr_F B C t m) : mr_F A C t m := ⟨k.1.trans h.1, k.2.1.trans h.2.1, fun q h1 h2 => (k.2.2 q h1 h2).trans (h.2.2 q h1 h2)⟩
section MI
variable {A B : am_H} {r t m n a a' : Nat} {f f' : Int32} {cs : List Nat} {dbl z : Bool} {M M' : mg}
theorem mr_I.T (h : mr_I A r t m cs n a f dbl M z) : sb_T A t cs n a f := h.2.1
theorem mr_I.N (h : mr_I A r t m cs n a f dbl M z) : sb_N A m M z := h.2.2.1
theorem mr_I.K (h : mr_I A r t m cs n a f dbl M z) : sb_K A := h.2.2.2.1
theorem mr_I.tc (h : mr_I A r t m cs n a f dbl M z) : A[t]? = some (1, [.ref (t + 1), .int (Int32.ofNat n), .int (Int32.ofNat a), .int f]) := h.2.1.1
theorem mr_I.rc (h : mr_I A r t m cs n a f dbl M z) : A[r]? = some (8, [.ref t, .ref m, .int (sb_i dbl)]) := h.1
theorem mr_I.mc (h : mr_I A r t m cs n a f dbl M z) : A[m]? = some (4, [.ref (m + 1), .ref (m + 2), .ref (m + 3), .ref (m + 4), .int (Int32.ofNat (mg_P M)), .ref (m + 5), .ref (m + 6), .ref (m + 7), .ref (m + 8), .int (Int32.ofNat (mg_B M)), .int (sb_i z)]) := by
  obtain ⟨ks, ct, os, ns, ow, se, st, en, q, e⟩ := h.2.2.1
  exact q.1
theorem mr_I.ge (h : mr_I A r t m cs n a f dbl M z) : n ≤ 120 ∧ a ≤ 120 ∧ 45 ≤ t ∧ 45 ≤ m := ⟨h.2.1.2.2.2.1, h.2.1.2.2.2.2.1, h.2.1.2.2.2.2.2.2, h.2.2.1.P.2.2⟩
theorem mr_I.text (h : mr_I A r t m cs n a f dbl M z) (hT : sb_T B t cs n a' f') (hF : sb_fr A B t (t + 2)) : mr_I B r t m cs n a' f' dbl M z ∧ mr_F A B t m := by
  obtain ⟨h1, h2, h3, h4, h5, h6, h7, h8⟩ := h
  have h9 := h2.2.2.2.2.2.2
  have h10 := h3.P.2.2
  refine ⟨⟨by rw [hF.2.2 _ (by omega)]; exact h1, hT, h3.same (fun q q1 q2 => hF.2.2 q (by omega)), fun q hq => by rw [hF.2.2 _ (by omega)]; exact h4 q hq, h5, h6, h7, h8⟩, hF.1, hF.2.1, fun q q1 _ => hF.2.2 q q1⟩
theorem mr_I.mesg (h : mr_I A r t m cs n a f dbl M z) (hN : sb_N B m M' z) (hF : sb_fr A B m (m + 9)) : mr_I B r t m cs n a f dbl M' z ∧ mr_F A B t m := by
  obtain ⟨h1, h2, h3, h4, h5, h6, h7, h8⟩ := h
  have h9 := h2.2.2.2.2.2.2
  have h10 := h3.P.2.2
  refine ⟨⟨by rw [hF.2.2 _ (by omega)]; exact h1, h2.same (hF.2.2 _ (by omega)) (hF.2.2 _ (by omega)), hN, fun q hq => by rw [hF.2.2 _ (by omega)]; exact h4 q hq, h5, h6, h7, h8⟩, hF.1, hF.2.1, fun q _ q2 => hF.2.2 q q2⟩
theorem mr_I.set (h : mr_I A r t m cs n a f dbl M z) (ha : a' ≤ 120) : mr_I (A.set t (sb_tc t n a' f')) r t m cs n a' f' dbl M z ∧ mr_F A (A.set t (sb_tc t n a' f')) t m :=
  h.text (h.T.set ha) ((sb_fr.refl A t (t + 2)).set rfl h.T.1 rfl (by omega) (by omega))
/-- what is known after a method of the reader -/
def mi_go (d y : Nat) (as : List Value) (A : am_H) (v : Option Value) (r t m : Nat) (cs : List Nat) (n a : Nat) (f : Int32) (dbl : Bool) (M : mg) (z : Bool) : Prop := ∃ B, am_go d y as A (.inl v, B) ∧ mr_I B r t m cs n a f dbl M z ∧ mr_F A B t m
theorem mi_skip {d : Nat} (hd : 1 ≤ d) (han : a ≤ n) (h : mr_I A r t m cs n a f dbl M z) : mi_go d 36 [.ref t] A none r t m cs n (rd_sk cs n a) f dbl M z := by
  have h1 := rd_sk_le (cs := cs) han
  have h2 := h.ge
  exact ⟨_, tx_skip hd h.T, (h.set (by unfold rd_sk at h1; omega)).1, (h.set (by unfold rd_sk at h1; omega)).2⟩
theorem mi_take1 {d x : Nat} (hx : x < 128) (h0 : x ≠ 0) (h2 : sb_lk cs n a = x) (h : mr_I A r t m cs n a f dbl M z) : mi_go d 34 [.ref t, .int (Int32.ofNat x)] A (some (.int 1)) r t m cs n (a + 1) f dbl M z := by
  have h1 : a < n := sb_lk_pos (cs := cs) (by omega)
  have h3 := h.ge
  have h4 : cs.getD a 0 = x := by unfold sb_lk at h2; rw [if_pos h1] at h2; exact h2
  exact ⟨_, tx_take1 hx h1 h4 h.T, (h.set (by omega)).1, (h.set (by omega)).2⟩
theorem mi_take0 {d x : Nat} (hx : x < 128) (h0 : x ≠ 0) (h2 : ¬ sb_lk cs n a = x) (h : mr_I A r t m cs n a f dbl M z) : mi_go d 34 [.ref t, .int (Int32.ofNat x)] A (some (.int 0)) r t m cs n a f dbl M z :=
  ⟨_, tx_take0 hx (fun q => h2 (by unfold sb_lk; rw [if_pos q.1]; exact q.2)) h.T, h, mr_F.refl A t m⟩
theorem mi_need1 {d x : Nat} (hd : 1 ≤ d) (hx : x < 128) (h0 : x ≠ 0) (h2 : sb_lk cs n a = x) (h : mr_I A r t m cs n a f dbl M z) : mi_go d 41 [.ref t, .int (Int32.ofNat x)] A (some (.int 1)) r t m cs n (a + 1) f dbl M z := by
  have h1 : a < n := sb_lk_pos (cs := cs) (by omega)
  have h3 := h.ge
  have h4 : cs.getD a 0 = x := by unfold sb_lk at h2; rw [if_pos h1] at h2; exact h2
  exact ⟨_, tx_need1 hd hx h1 h4 h.T, (h.set (by omega)).1, (h.set (by omega)).2⟩
theorem mi_need0 {d x : Nat} (hd : 1 ≤ d) (hx : x < 128) (h2 : ¬ sb_lk cs n a = x) (h : mr_I A r t m cs n a f dbl M z) : mi_go d 41 [.ref t, .int (Int32.ofNat x)] A (some (.int 0)) r t m cs n a (Int32.ofNat a) dbl M z :=
  ⟨_, tx_need0 hd hx (fun q => h2 (by unfold sb_lk; rw [if_pos q.1]; exact q.2)) h.T, (h.set h.ge.2.1).1, (h.set h.ge.2.1).2⟩
theorem mi_refuse {d : Nat} {x : Int32} (h : mr_I A r t m cs n a f dbl M z) : mi_go d 39 [.ref t, .int x] A (some (.int 0)) r t m cs n a x dbl M z :=
  ⟨_, tx_refuse h.T, (h.set h.ge.2.1).1, (h.set h.ge.2.1).2⟩
theorem mi_pack {d e : Nat} (hen : e ≤ n) (hae : a ≤ e) (h : mr_I A r t m cs n a f dbl M z) : mi_go d 40 [.ref t, .int (Int32.ofNat e)] A (some (.long (sb_pk cs (e - a) a 0))) r t m cs n e f dbl M z := by
  have h3 := h.ge
  exact ⟨_, tx_pack hen hae h.T, (h.set (by omega)).1, (h.set (by omega)).2⟩
theorem mi_num1 {d mo a1 v : Nat} (hd : 1 ≤ d) (hmo : mo ≤ 9) (han : a ≤ n) (hr : rd_num cs n mo a = .ok (a1, v)) (h : mr_I A r t m cs n a f dbl M z) : mi_go d 54 [.ref t, .int (Int32.ofNat mo)] A (some (.int (Int32.ofNat v))) r t m cs n a1 f dbl M z := by
  have h3 := h.ge
  obtain ⟨q1, q2, q3, q4, q5⟩ := rd_num_le han hr
  subst q5
  exact ⟨_, tx_num1 hd hmo han q4 q1 q3 h.T, (h.set (by omega)).1, (h.set (by omega)).2⟩
theorem mi_num0 {d mo e : Nat} (hd : 1 ≤ d) (hmo : mo ≤ 9) (han : a ≤ n) (hr : rd_num cs n mo a = .error e) (h : mr_I A r t m cs n a f dbl M z) : mi_go d 54 [.ref t, .int (Int32.ofNat mo)] A (some (.int (-1))) r t m cs n a (Int32.ofNat e) dbl M z := by
  have h3 := h.ge
  have h1 := sb_re_le (lo := 48) (hi := 57) (cs := cs) (n := n) (a := a)
  unfold rd_num at hr
  split at hr
  · next q =>
    cases hr
    exact ⟨_, tx_num0a hd hmo han rfl q.symm h.T, (h.set h.ge.2.1).1, (h.set h.ge.2.1).2⟩
  split at hr
  · next q1 q2 =>
    cases hr
    exact ⟨_, tx_num0b hd hmo han rfl (by omega) q2 h.T, (h.set h.ge.2.1).1, (h.set h.ge.2.1).2⟩
  cases hr
theorem mi_word {d s v e : Nat} {bs : List Nat} (hd : 4 ≤ d) (hae : a ≤ e) (hen : e ≤ n) (hS : sb_S A s v bs) (h : mr_I A r t m cs n a f dbl M z) : am_go d 44 [.ref t, .ref s, .int (Int32.ofNat e)] A (.inl (some (.int (sb_i (rd_is cs bs a e)))), A) := by
  unfold rd_is
  by_cases h1 : e - a = bs.length
  · rw [if_pos h1]
    exact tx_word1 hd hae hen h1 h.T hS
  · rw [if_neg h1]
    exact tx_word0 hd hae hen h1 h.T hS
theorem mi_chr1 {d k : Nat} (hk : k < n) (h : mr_I A r t m cs n a f dbl M z) : am_go d 30 [.ref t, .int (Int32.ofNat k)] A (.inl (some (.int (Int32.ofNat (sb_lk cs n k)))), A) := by
  have h1 := tx_char (d := d) (k := k) (by have := h.ge; omega) h.T
  unfold sb_chr at h1
  rw [if_pos hk] at h1
  unfold sb_lk
  rw [if_pos hk]
  exact h1
theorem mi_chr0 {d k : Nat} (hk : ¬ k < n) (hk2 : k ≤ 1000) (h : mr_I A r t m cs n a f dbl M z) : am_go d 30 [.ref t, .int (Int32.ofNat k)] A (.inl (some (.int (-1))), A) := by
  have h1 := tx_char (d := d) (k := k) hk2 h.T
  unfold sb_chr at h1
  rw [if_neg hk] at h1
  exact h1
theorem mi_row {d lo hi : Nat} (hlo : lo < 128) (hhi : hi < 128) (h : mr_I A r t m cs n a f dbl M z) : am_go d 37 [.ref t, .int (Int32.ofNat lo), .int (Int32.ofNat hi)] A (.inl (some (.int (Int32.ofNat (sb_re lo hi cs n a)))), A) := tx_rowEnd hlo hhi h.T
theorem mi_add {d k : Nat} {x : Int32} (hp : mg_P M < 120) (h : mr_I A r t m cs n a f dbl M z) : mi_go d 32 [.ref m, .int (Int32.ofNat k), .int x] A (some (.int (Int32.ofNat (mg_P M)))) r t m cs n a f dbl (mg_add M k x) z := by
  obtain ⟨B, g, q1, q2⟩ := mn_add (d := d) (k := k) (x := x) hp h.N
  exact ⟨B, g, (h.mesg q1 q2).1, (h.mesg q1 q2).2⟩
theorem mi_addb {d o : Nat} {s : Int64} (hb : mg_B M < 40) (ho : o < 1000) (h : mr_I A r t m cs n a f dbl M z) : mi_go d 59 [.ref m, .int (Int32.ofNat o), .long s] A (some (.int (Int32.ofNat (mg_B M)))) r t m cs n a f dbl (mg_addb M o s) z := by
  obtain ⟨B, g, q1, q2⟩ := mn_addb (d := d) (o := o) (s := s) hb ho h.N
  exact ⟨B, g, (h.mesg q1 q2).1, (h.mesg q1 q2).2⟩
theorem mi_clb {d j : Nat} (hb : j < mg_B M) (h : mr_I A r t m cs n a f dbl M z) : mi_go d 60 [.ref m, .int (Int32.ofNat j)] A none r t m cs n a f dbl (mg_clb M j) z := by
  obtain ⟨B, g, q1, q2⟩ := mn_clb (d := d) hb h.N
  exact ⟨B, g, (h.mesg q1 q2).1, (h.mesg q1 q2).2⟩
theorem mi_cla {d i : Nat} (hd : 1 ≤ d) (hb : i < mg_P M) (h : mr_I A r t m cs n a f dbl M z) : mi_go d 62 [.ref m, .int (Int32.ofNat i)] A none r t m cs n a f dbl (mg_cla M i) z := by
  obtain ⟨B, g, q1, q2⟩ := mn_cla (d := d) hd hb h.N
  exact ⟨B, g, (h.mesg q1 q2).1, (h.mesg q1 q2).2⟩
/-- how a reader's answer and the state behind it belong together -/
def mr_Q (A : am_H) (r t m : Nat) (cs : List Nat) (n : Nat) (dbl z : Bool) (x : rd_R) (q : am_O × am_H) : Prop := match x with
  | .ok y => q.1 = .inl (some (.int 1)) ∧ mr_I q.2 r t m cs n y.1 (-1) dbl y.2 z ∧ mr_F A q.2 t m
  | .error e => q.1 = .inl (some (.int 0)) ∧ ∃ a' M', mr_I q.2 r t m cs n a' (Int32.ofNat e) dbl M' z ∧ mr_F A q.2 t m
end MI
theorem sb_lk_out {cs : List Nat} {n k : Nat} (h : ¬ k < n) : sb_lk cs n k = 0 := by
  unfold sb_lk
  rw [if_neg h]
theorem mr_I.lk {A : am_H} {r t m n a : Nat} {f : Int32} {cs : List Nat} {dbl z : Bool} {M : mg} (h : mr_I A r t m cs n a f dbl M z) (k : Nat) : sb_lk cs n k < 128 := by
  unfold sb_lk
  split
  · exact h.T.2.2.2.2.2.1 k
  · decide
theorem sb_num_lt (cs : List Nat) : ∀ k j w b, (∀ i, j ≤ i → i < j + k → cs.getD i 0 ≤ 57) → w < b → sb_num cs k j w < b * 10 ^ k
  | 0, j, w, b, h, hw => by rw [sb_num]; simpa using hw
  | k + 1, j, w, b, h, hw => by
    rw [sb_num]
    have h1 := h j (by omega) (by omega)
    have h2 := sb_num_lt cs k (j + 1) (w * 10 + (cs.getD j 0 - 48)) (b * 10) (fun i q1 q2 => h i (by omega) (by omega)) (by omega)
    rw [Nat.pow_succ, Nat.mul_comm (10 ^ k) 10, ← Nat.mul_assoc]
    exact h2
theorem rd_num_v {cs : List Nat} {n mo a a' v : Nat} (h : a ≤ n) (hm : mo ≤ 9) (hr : rd_num cs n mo a = .ok (a', v)) : v < 10 ^ mo ∧ v < 1000000000 := by
  obtain ⟨h1, h2, h3, h4, h5⟩ := rd_num_le h hr
  have h6 := sb_num_lt cs (a' - a) a 0 1 (fun i q1 q2 => (sb_re_in (n := n) q1 (by rw [← h4]; omega)).2) (by omega)
  rw [← h5, Nat.one_mul] at h6
  have h7 : 10 ^ (a' - a) ≤ 10 ^ mo := Nat.pow_le_pow_right (by omega) h3
  have h8 : 10 ^ mo ≤ 10 ^ 9 := Nat.pow_le_pow_right (by omega) hm
  omega
def rd_ki (k : Nat) : Int32 := if k = 0 then -1 else Int32.ofNat k
theorem rd_kind_le {cs : List Nat} {a e : Nat} : rd_kind cs a e ≤ 8 := by
  unfold rd_kind
  repeat' split
  all_goals omega
