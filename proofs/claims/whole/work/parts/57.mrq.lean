/-! What the reader's methods answer; names and selectors as numbers. -/
section MQ
variable {A B : am_H} {r t m n a a' : Nat} {f f' : Int32} {cs : List Nat} {dbl z : Bool} {M M' : mg}
theorem mr_Q_ok (h : mr_I B r t m cs n a (-1) dbl M z) (hF : mr_F A B t m) : mr_Q A r t m cs n dbl z (.ok (a, M)) (.inl (some (.int 1)), B) := ⟨rfl, h, hF⟩
theorem mr_Q_er {e : Nat} (h : mr_I B r t m cs n a (Int32.ofNat e) dbl M z) (hF : mr_F A B t m) : mr_Q A r t m cs n dbl z (.error e) (.inl (some (.int 0)), B) := ⟨rfl, a, M, h, hF⟩
theorem mr_Q1 {d y a1 : Nat} {as : List Value} {M1 : mg} {X : rd_R} (h : am_wp d y (0, am_ent y as, [], A) (mr_Q A r t m cs n dbl z X)) (hx : X = .ok (a1, M1)) : mi_go d y as A (some (.int 1)) r t m cs n a1 (-1) dbl M1 z := by
  subst hx
  obtain ⟨⟨o, B⟩, h1, h2, h3, h4⟩ := h
  dsimp only at h2
  subst h2
  exact ⟨B, h1, h3, h4⟩
theorem mr_Q0 {d y e : Nat} {as : List Value} {X : rd_R} (h : am_wp d y (0, am_ent y as, [], A) (mr_Q A r t m cs n dbl z X)) (hx : X = .error e) : ∃ a' M', mi_go d y as A (some (.int 0)) r t m cs n a' (Int32.ofNat e) dbl M' z := by
  subst hx
  obtain ⟨⟨o, B⟩, h1, h2, a', M', h3, h4⟩ := h
  dsimp only at h2
  subst h2
  exact ⟨a', M', B, h1, h3, h4⟩
def ms_Q (A : am_H) (r t m : Nat) (cs : List Nat) (n : Nat) (dbl z : Bool) (M : mg) (x : Except Nat (Nat × Int64)) (q : am_O × am_H) : Prop := match x with
  | .ok y => q.1 = .inl (some (.long y.2)) ∧ mr_I q.2 r t m cs n y.1 (-1) dbl M z ∧ mr_F A q.2 t m
  | .error e => q.1 = .inl (some (.long 0)) ∧ ∃ a', mr_I q.2 r t m cs n a' (Int32.ofNat e) dbl M z ∧ mr_F A q.2 t m
theorem ms_Q_ok {se : Int64} (h : mr_I B r t m cs n a (-1) dbl M z) (hF : mr_F A B t m) : ms_Q A r t m cs n dbl z M (.ok (a, se)) (.inl (some (.long se)), B) := ⟨rfl, h, hF⟩
theorem ms_Q_er {e : Nat} (h : mr_I B r t m cs n a (Int32.ofNat e) dbl M z) (hF : mr_F A B t m) : ms_Q A r t m cs n dbl z M (.error e) (.inl (some (.long 0)), B) := ⟨rfl, a, h, hF⟩
theorem ms_Q1 {d y a1 : Nat} {as : List Value} {se : Int64} {X : Except Nat (Nat × Int64)} (h : am_wp d y (0, am_ent y as, [], A) (ms_Q A r t m cs n dbl z M X)) (hx : X = .ok (a1, se)) : mi_go d y as A (some (.long se)) r t m cs n a1 (-1) dbl M z := by
  subst hx
  obtain ⟨⟨o, B⟩, h1, h2, h3, h4⟩ := h
  dsimp only at h2
  subst h2
  exact ⟨B, h1, h3, h4⟩
theorem ms_Q0 {d y e : Nat} {as : List Value} {X : Except Nat (Nat × Int64)} (h : am_wp d y (0, am_ent y as, [], A) (ms_Q A r t m cs n dbl z M X)) (hx : X = .error e) : ∃ a', mi_go d y as A (some (.long 0)) r t m cs n a' (Int32.ofNat e) dbl M z := by
  subst hx
  obtain ⟨⟨o, B⟩, h1, h2, a', h3, h4⟩ := h
  dsimp only at h2
  subst h2
  exact ⟨a', B, h1, h3, h4⟩
end MQ
theorem wp_off {d y pc t' r t m n a i v : Nat} {f : Int32} {cs : List Nat} {dbl z : Bool} {M : mg} {A : am_H} {L : am_L} {S : List Value} {Q : am_O × am_H → Prop} (h : mr_I A r t m cs n a f dbl M z) (hc : am_code y pc = some (.iastore, 1)) (hi : i < mg_P M) (ht : pc + 1 = t') (kk : ∀ A', mr_I A' r t m cs n a f dbl (mg_off M i v) z → mr_F A A' t m → am_wp d y (t', L, S, A') Q) : am_wp d y (pc, L, .int (Int32.ofNat v) :: .int (Int32.ofNat i) :: .ref (m + 3) :: S, A) Q := by
  obtain ⟨ks, ct, os, ns, ow, se, st, en, hM, e1, e2, e3, e4, e5, e6, e7, e8, e9⟩ := h.N
  have hM' := hM
  obtain ⟨h0, h1, h2, h3, h4, h5, h6, h7, h8, ⟨l1, l2, l3, l4⟩, l5, l6, l7, l8⟩ := hM
  have hfr : sb_fr A (A.set (m + 3) (100, (os.set i v).map sb_c)) m (m + 9) := (sb_fr.refl A m (m + 9)).set rfl h3 (by simp) (by omega) (by omega)
  have hN : sb_N (A.set (m + 3) (100, (os.set i v).map sb_c)) m (mg_off M i v) z := by
    refine ⟨ks, ct, os.set i v, ns, ow, se, st, en, ⟨sb_so (by omega) h0, sb_so (by omega) h1, sb_so (by omega) h2, sb_ss h3, sb_so (by omega) h4, sb_so (by omega) h5, sb_so (by omega) h6, sb_so (by omega) h7, sb_so (by omega) h8, ⟨l1, l2, by simp [l3], l4⟩, l5, l6, l7, l8⟩, e1, e2, fun j => sb_getD_set e3 (by omega), e4, e5, e6, e7, e8, e9⟩
  have hq := h.mesg hN hfr
  exact wp_as hc (Or.inl ⟨rfl, rfl, rfl⟩) h3 (by omega) (by simp; omega) (decide_eq_true (by omega)) ht (congrArg (fun z => List.set _ _ (_, z)) sb_sm) (kk _ hq.1 hq.2)
/-! letters as bytes of a number -/
def sb_pkn (cs : List Nat) : Nat → Nat → Nat → Nat
  | 0, _, w => w
  | k + 1, j, w => sb_pkn cs k (j + 1) (w * 256 + cs.getD j 0)
theorem i64_or8 {W c : Nat} (hW : W < 2 ^ 48) (hc : c < 256) : Int64.ofNat W <<< ((Int32.ofNat 8).toInt64 &&& 63) ||| Int64.ofNat c = Int64.ofNat (W * 256 + c) := by
  have h8 : (Int32.ofNat 8).toInt64 &&& 63 = 8 := by decide
  rw [h8]
  apply Int64.toBitVec_inj.mp
  apply BitVec.eq_of_toNat_eq
  have h1 : (Int64.ofNat W <<< (8 : Int64) ||| Int64.ofNat c).toBitVec = (BitVec.ofNat 64 W <<< 8) ||| BitVec.ofNat 64 c := by
    rw [Int64.toBitVec_or, Int64.toBitVec_shiftLeft]
    rfl
  rw [h1]
  have h2 : (Int64.ofNat (W * 256 + c)).toBitVec = BitVec.ofNat 64 (W * 256 + c) := rfl
  rw [h2, BitVec.toNat_or, BitVec.toNat_shiftLeft, BitVec.toNat_ofNat, BitVec.toNat_ofNat, BitVec.toNat_ofNat]
  rw [Nat.mod_eq_of_lt (show W < 2 ^ 64 by omega), Nat.mod_eq_of_lt (show c < 2 ^ 64 by omega), Nat.mod_eq_of_lt (show W * 256 + c < 2 ^ 64 by omega)]
  rw [Nat.shiftLeft_eq, Nat.mod_eq_of_lt (show W * 2 ^ 8 < 2 ^ 64 by omega)]
  have h3 := Nat.shiftLeft_add_eq_or_of_lt (show c < 2 ^ 8 by omega) W
  rw [Nat.shiftLeft_eq] at h3
  rw [← h3]
theorem sb_pkn_lt (cs : List Nat) (hc : ∀ k, cs.getD k 0 < 128) : ∀ k j w b, w < b → sb_pkn cs k j w < b * 256 ^ k
  | 0, j, w, b, h => by simpa [sb_pkn] using h
  | k + 1, j, w, b, h => by
    rw [sb_pkn, Nat.pow_succ, Nat.mul_comm (256 ^ k) 256, ← Nat.mul_assoc]
    exact sb_pkn_lt cs hc k (j + 1) _ _ (by have := hc j; omega)
theorem sb_pk_n (cs : List Nat) (hc : ∀ k, cs.getD k 0 < 128) : ∀ k j w, k ≤ 6 → w < 256 ^ (6 - k) → sb_pk cs k j (Int64.ofNat w) = Int64.ofNat (sb_pkn cs k j w)
  | 0, j, w, hk, hb => rfl
  | k + 1, j, w, hk, hb => by
    have h1 : 256 ^ (6 - k) = 256 ^ (6 - (k + 1)) * 256 := by rw [← Nat.pow_succ]; congr 1; omega
    have h2 : 256 ^ (6 - (k + 1)) ≤ 256 ^ 5 := Nat.pow_le_pow_right (by omega) (by omega)
    have hcj := hc j
    rw [sb_pk, sb_pkn, i64_or8 (by omega) (by omega)]
    exact sb_pk_n cs hc k (j + 1) _ (by omega) (by omega)
theorem sb_pkn_ge (cs : List Nat) : ∀ k j w, w ≤ sb_pkn cs k j w
  | 0, j, w => Nat.le_refl _
  | k + 1, j, w => by
    rw [sb_pkn]
    have := sb_pkn_ge cs k (j + 1) (w * 256 + cs.getD j 0)
    omega
/-- letters as bytes: at most six, never 0 -/
theorem sb_pk_let {cs : List Nat} {a e : Nat} (hc : ∀ k, cs.getD k 0 < 128) (h1 : a < e) (h2 : e - a ≤ 6) (h3 : 97 ≤ cs.getD a 0) : sb_pk cs (e - a) a 0 = Int64.ofNat (sb_pkn cs (e - a) a 0) ∧ 0 < sb_pkn cs (e - a) a 0 ∧ sb_pkn cs (e - a) a 0 < 128 * 256 ^ (e - a - 1) := by
  refine ⟨sb_pk_n cs hc _ _ 0 h2 (Nat.pow_pos (by omega)), ?_, ?_⟩
  · obtain ⟨k, hk⟩ : ∃ k, e - a = k + 1 := ⟨e - a - 1, by omega⟩
    rw [hk, sb_pkn]
    have := sb_pkn_ge cs k (a + 1) (0 * 256 + cs.getD a 0)
    omega
  · obtain ⟨k, hk⟩ : ∃ k, e - a = k + 1 := ⟨e - a - 1, by omega⟩
    rw [hk, sb_pkn]
    exact sb_pkn_lt cs hc k (a + 1) _ 128 (by have := hc a; omega)
theorem rd_name_n {cs : List Nat} {n a a' : Nat} {x : Int32} (hc : ∀ k, cs.getD k 0 < 128) (h : a ≤ n) (hr : rd_name cs n a = .ok (a', x)) : x = Int32.ofNat (sb_pkn cs (a' - a) a 0) ∧ sb_pkn cs (a' - a) a 0 < 2147483648 ∧ 0 < sb_pkn cs (a' - a) a 0 := by
  obtain ⟨h1, h2, h3, h4, h5⟩ := rd_name_le h hr
  have h6 := sb_re_in (lo := 97) (hi := 122) (cs := cs) (n := n) (a := a) (j := a) (Nat.le_refl _) (by omega)
  obtain ⟨p1, p2, p3⟩ := sb_pk_let hc h1 (by omega) h6.1
  have h7 : 256 ^ (a' - a - 1) ≤ 256 ^ 3 := Nat.pow_le_pow_right (by omega) (by omega)
  refine ⟨by rw [h5, p1, i64_i32], by omega, p2⟩
theorem rd_ex_nz {v : Nat} (h : v < 10000) : rd_ex v ≠ 0 := by
  unfold rd_ex
  intro q
  have h1 := congrArg Int64.toInt q
  rw [Int64.toInt_sub, Int64.toInt_ofNat_of_lt (by omega)] at h1
  have h2 : (-1 : Int64).toInt = -1 := by decide
  have h3 : (0 : Int64).toInt = 0 := by decide
  rw [h2, h3, Int.bmod_eq_of_le (by omega) (by omega)] at h1
  omega
theorem rd_sel_nz {cs : List Nat} {n a a' : Nat} {nu : Bool} {se : Int64} (hc : ∀ k, cs.getD k 0 < 128) (h : a ≤ n) (hr : rd_sel cs n nu a = .ok (a', se)) : se ≠ 0 := by
  have h1 := sb_re_le (lo := 97) (hi := 122) (cs := cs) (n := n) (a := a)
  have h2 := h1.2.1 h
  unfold rd_sel at hr
  split at hr
  · next hc2 =>
    have h3 : a < n := sb_lk_pos (cs := cs) (by omega)
    split at hr
    · cases hr
    · next a1 v hv =>
      cases hr
      exact rd_ex_nz (by have := rd_num_v (by omega) (by omega) hv; omega)
  split at hr
  · cases hr
  split at hr
  · cases hr
  next h3 h4 =>
  cases hr
  have h6 := sb_re_in (lo := 97) (hi := 122) (cs := cs) (n := n) (a := a) (j := a) (Nat.le_refl _) (by omega)
  obtain ⟨p1, p2, p3⟩ := sb_pk_let hc (show a < sb_re 97 122 cs n a by omega) (by omega) h6.1
  have h7 : 256 ^ (sb_re 97 122 cs n a - a - 1) ≤ 256 ^ 5 := Nat.pow_le_pow_right (by omega) (by omega)
  rw [p1]
  intro q
  have := (i64_eq (a := sb_pkn cs (sb_re 97 122 cs n a - a) a 0) (b := 0) (by omega) (by omega)).mp q
  omega
