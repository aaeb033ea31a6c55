/-! The class's writer as functions. -/
abbrev wr_R : Type := Except Nat (List Nat)
/-- what is under a name: a word as bytes, or a number and its scale -/
abbrev wr_v : Type := Int32 → Option (Nat ⊕ (Int × Nat))
abbrev wr_i : Type := Option (Nat → Nat → Int → Nat → List Nat → wr_R)
def wr_put (w l : List Nat) : wr_R := if w.length + l.length ≤ 160 then .ok (w ++ l) else .error 3
def wr_dg (z : Int) (k : Nat) (g : Bool) : List Nat := if z < 0 then [45] ++ sb_nm z.natAbs k g else sb_nm z.natAbs k g
def wr_hex (z : Int) : List Nat := sb_sg (Int64.ofInt z) ++ sb_hx (sb_abs (Int64.ofInt z)) 16
def wr_bare (x : Int32) (w : List Nat) : wr_R := match wr_put w [123] with
  | .error e => .error e
  | .ok w1 => match wr_put w1 (sb_pt x.toInt64 false 4) with
    | .error e => .error e
    | .ok w2 => wr_put w2 [125]
def wr_or (b c : Option Nat) : Option Nat := match b with
  | some x => some x
  | none => c
section WR
variable (M : mg) (vf : wr_v) (S0 S1 : rg) (len : Bool)
def wr_br (inner : wr_i) (b : Option Nat) (z : Int) (k : Nat) (w : List Nat) : wr_R := match b with
  | none => .ok w
  | some b => match inner with
    | none => .ok w
    | some f => f (mg_a M b) (mg_e M b) z k w
def wr_selb (i : Nat) (x : Nat ⊕ (Int × Nat)) : Option Nat := wr_or (match x with
  | .inl p => mg_bw M i (Int64.ofNat p) (mg_B M) 0
  | .inr _ => none) (mg_bw M i sb_OTH (mg_B M) 0)
def wr_rest (i : Nat) (z : Int) (k : Nat) : Int := z - (mg_o M i * 10 ^ k : Nat)
def wr_exb (i : Nat) (z : Int) (k : Nat) : Option Nat := if z < 0 then none else if z.natAbs % 10 ^ k = 0 then mg_bw M i (rd_ex (z.natAbs / 10 ^ k)) (mg_B M) 0 else none
def wr_catb (i : Nat) (z : Int) (k : Nat) : Option Nat := mg_bw M i (ru_CW.getD (ct_cat (if mg_k M i = 8 then S1 else S0) (wr_rest M i z k).natAbs k 5 0) 0) (mg_B M) 0
def wr_plub (i : Nat) (z : Int) (k : Nat) : Option Nat := wr_or (wr_exb M i z k) (wr_or (wr_catb M S0 S1 i z k) (mg_bw M i sb_OTH (mg_B M) 0))
def wr_val (inner : wr_i) (i : Nat) (w : List Nat) : wr_R := match vf (mg_c M i) with
  | none => .error 1
  | some x =>
    if mg_k M i = 6 then wr_br M inner (wr_selb M i x) 0 0 w
    else match x with
      | .inl p => if mg_k M i = 2 ∨ mg_k M i = 5 then wr_put w (sb_pt (Int64.ofNat p) (decide (mg_k M i = 5)) 4) else .error 2
      | .inr (z, k) =>
        if mg_k M i = 4 then (if k = 0 then wr_put w (wr_hex z) else .error 2)
        else if mg_k M i = 7 ∨ mg_k M i = 8 then wr_br M inner (wr_plub M S0 S1 i z k) (wr_rest M i z k) k w
        else wr_put w (wr_dg z k (decide (mg_k M i = 3)))
def wr_arg (inner : wr_i) (top : Bool) (i : Nat) (w : List Nat) : wr_R := match wr_val M vf S0 S1 inner i w with
  | .ok w' => .ok w'
  | .error c => if len = true ∧ top = true ∧ (c = 1 ∨ c = 2) then wr_bare (mg_c M i) w else .error c
def wr_part (inner : wr_i) (top : Bool) (z : Int) (k i : Nat) (w : List Nat) : wr_R :=
  if mg_k M i = 0 then wr_put w [(mg_c M i).toUInt32.toNat] else if mg_k M i = 1 then wr_put w (wr_dg z k true) else wr_arg M vf S0 S1 len inner top i w
def wr_loop (inner : wr_i) (top : Bool) (e : Nat) (z : Int) (k : Nat) : Nat → Nat → List Nat → wr_R
  | 0, _, w => .ok w
  | f + 1, i, w => if e ≤ i ∨ mg_P M ≤ i then .ok w else match wr_part M vf S0 S1 len inner top z k i w with
    | .error c => .error c
    | .ok w' => wr_loop inner top e z k f (mg_x M i) w'
/-- D levels are left below -/
def wr_msg : Nat → Bool → Nat → Nat → Int → Nat → List Nat → wr_R
  | 0 => fun top s e z k w => wr_loop M vf S0 S1 len none top e z k 120 s w
  | D + 1 => fun top s e z k w => wr_loop M vf S0 S1 len (some (wr_msg D false)) top e z k 120 s w
end WR
/-! what has been written stays -/
theorem wr_put_ok {w l w' : List Nat} (h : wr_put w l = .ok w') : w <+: w' := by
  unfold wr_put at h
  split at h
  · cases h; exact List.prefix_append w l
  · cases h
theorem wr_put_er {w l : List Nat} {c : Nat} (h : wr_put w l = .error c) : c = 3 := by
  unfold wr_put at h
  split at h
  · cases h
  · cases h; rfl
theorem wr_bare_ok {x : Int32} {w w' : List Nat} (h : wr_bare x w = .ok w') : w <+: w' := by
  unfold wr_bare at h
  split at h
  · cases h
  next w1 h1 =>
  split at h
  · cases h
  next w2 h2 => exact (wr_put_ok h1).trans ((wr_put_ok h2).trans (wr_put_ok h))
def wr_inn (inner : wr_i) : Prop := ∀ f, inner = some f → ∀ s e z k w w', f s e z k w = .ok w' → w <+: w'
theorem wr_br_ok {M : mg} {inner : wr_i} {b : Option Nat} {z : Int} {k : Nat} {w w' : List Nat} (hi : wr_inn inner) (h : wr_br M inner b z k w = .ok w') : w <+: w' := by
  unfold wr_br at h
  split at h
  · cases h; exact List.prefix_refl w
  split at h
  · cases h; exact List.prefix_refl w
  next f => exact hi f rfl _ _ _ _ _ _ h
theorem wr_val_ok {M : mg} {vf : wr_v} {S0 S1 : rg} {inner : wr_i} {i : Nat} {w w' : List Nat} (hi : wr_inn inner) (h : wr_val M vf S0 S1 inner i w = .ok w') : w <+: w' := by
  unfold wr_val at h
  split at h
  · cases h
  split at h
  · exact wr_br_ok hi h
  split at h
  · split at h
    · exact wr_put_ok h
    · cases h
  · split at h
    · split at h
      · exact wr_put_ok h
      · cases h
    split at h
    · exact wr_br_ok hi h
    · exact wr_put_ok h
theorem wr_arg_ok {M : mg} {vf : wr_v} {S0 S1 : rg} {len top : Bool} {inner : wr_i} {i : Nat} {w w' : List Nat} (hi : wr_inn inner) (h : wr_arg M vf S0 S1 len inner top i w = .ok w') : w <+: w' := by
  unfold wr_arg at h
  split at h
  · next w1 h1 => cases h; exact wr_val_ok hi h1
  split at h
  · exact wr_bare_ok h
  · cases h
theorem wr_part_ok {M : mg} {vf : wr_v} {S0 S1 : rg} {len top : Bool} {inner : wr_i} {z : Int} {k i : Nat} {w w' : List Nat} (hi : wr_inn inner) (h : wr_part M vf S0 S1 len inner top z k i w = .ok w') : w <+: w' := by
  unfold wr_part at h
  split at h
  · exact wr_put_ok h
  split at h
  · exact wr_put_ok h
  · exact wr_arg_ok hi h
theorem wr_loop_ok {M : mg} {vf : wr_v} {S0 S1 : rg} {len top : Bool} {inner : wr_i} {e : Nat} {z : Int} {k : Nat} (hi : wr_inn inner) : ∀ f i w w', wr_loop M vf S0 S1 len inner top e z k f i w = .ok w' → w <+: w'
  | 0, i, w, w', h => by cases h; exact List.prefix_refl w
  | f + 1, i, w, w', h => by
    rw [wr_loop] at h
    split at h
    · cases h; exact List.prefix_refl w
    split at h
    · cases h
    next w1 h1 => exact (wr_part_ok hi h1).trans (wr_loop_ok hi f _ _ _ h)
theorem wr_msg_ok {M : mg} {vf : wr_v} {S0 S1 : rg} {len : Bool} : ∀ D top s e z k w w', wr_msg M vf S0 S1 len D top s e z k w = .ok w' → w <+: w'
  | 0, top, s, e, z, k, w, w', h => wr_loop_ok (fun f hf => by cases hf) 120 s w w' h
  | D + 1, top, s, e, z, k, w, w', h => wr_loop_ok (fun f hf s e z k w w' h => by cases hf; exact wr_msg_ok D false s e z k w w' h) 120 s w w' h
/-! numbers with a sign -/
theorem i64_pos {z : Int} (h : ¬ z < 0) : Int64.ofInt z = Int64.ofNat z.natAbs := by
  have h1 : z = (z.natAbs : Int) := by omega
  rw [h1]
  exact Int64.ofInt_eq_ofNat
theorem i64_negz {z : Int} (h : z < 0) : Int64.ofInt z = -Int64.ofNat z.natAbs := by
  have h1 : z = -(z.natAbs : Int) := by omega
  have h2 : Int64.ofInt (-(z.natAbs : Int)) = -Int64.ofNat z.natAbs := by
    rw [Int64.ofInt_neg, Int64.ofInt_eq_ofNat]
  rw [← h2, ← h1]
theorem i64_zsub {z : Int} {n : Nat} : Int64.ofInt z - Int64.ofNat n = Int64.ofInt (z - n) := by
  rw [Int64.ofInt_sub, Int64.ofInt_eq_ofNat]
theorem op_z {d u k : Nat} {z : Int} {g : Bool} {w : List Nat} {A : am_H} (hd : 3 ≤ d) (hz : z.natAbs < 9223372036854775808) (hkk : k ≤ 6) (h : sb_O A u w) (hTn : A[1]? = some (101, am_TENS.map Value.long)) : sb_wrt d 103 [.ref u, .long (Int64.ofInt z), .int (Int32.ofNat k), .int (sb_i g)] A u w (wr_dg z k g) := by
  unfold wr_dg
  by_cases h0 : z < 0
  · rw [if_pos h0, i64_negz h0]
    exact op_numn hd (by omega) hz hkk h hTn
  · rw [if_neg h0, i64_pos h0]
    exact op_num hd hz hkk h hTn
theorem gn_catz {d s k : Nat} {z : Int} {S : rg} {am : List Int64} {un : Int64} {A : am_H} (hd : 3 ≤ d) (hk : k ≤ 6) (hz : z.natAbs < 9223372036854775808) (hw : rg_wf S) (hT : A[1]? = some (101, am_TENS.map Value.long)) (hP : sb_P A (s + 11) am un) (h : sb_G A s S) : ∃ B, am_go d 93 [.ref s, .long (Int64.ofInt z), .int (Int32.ofNat k)] A (.inl (some (.int (Int32.ofNat (ct_cat S z.natAbs k 5 0)))), B) ∧ sb_G B s S ∧ sb_P B (s + 11) (sb_am z.natAbs k) (Int64.ofNat (10 ^ k)) ∧ sb_fr A B (s + 11) (s + 13) := by
  by_cases h0 : z < 0
  · rw [i64_negz h0]
    exact gn_catn hd (by omega) hk hz hw hT hP h
  · rw [i64_pos h0]
    exact gn_cat hd hk hz hw hT hP h
theorem ct_cat_le (S : rg) (v k : Nat) : ∀ q c, q + c = 5 → ct_cat S v k q c ≤ 5
  | 0, c, h => by rw [ct_cat]; omega
  | q + 1, c, h => by
    rw [ct_cat]
    split
    · omega
    · exact ct_cat_le S v k q (c + 1) (by omega)
theorem wp_gt {d m pc t : Nat} {off : Int} {L : am_L} {S : List Value} {A : am_H} {Q : am_O × am_H → Prop} (hc : am_code m pc = some (.goto off, 3)) (ht : am_tgt pc off = t) (kk : am_wp d m (t, L, S, A) Q) : am_wp d m (pc, L, S, A) Q :=
  wp_1 hc rfl (show some (am_tgt pc off, L, S, A) = some (t, L, S, A) by rw [ht]) kk
