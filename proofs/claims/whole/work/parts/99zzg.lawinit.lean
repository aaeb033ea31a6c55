/-! The law's beginning: a new object and a new reference say the same. -/
theorem rp_c (k : Nat) : List.replicate k (Value.int 0) = (List.replicate k 0).map sb_c := by rw [List.map_replicate]; rfl
theorem rp_z (k : Nat) : List.replicate k (Value.int 0) = (List.replicate k false).map sb_z := by rw [List.map_replicate]; rfl
theorem rp_i (k : Nat) : List.replicate k (Value.int 0) = (List.replicate k (0 : Int32)).map Value.int := by rw [List.map_replicate]
theorem rp_l (k : Nat) : List.replicate k (Value.long 0) = (List.replicate k (0 : Int64)).map Value.long := by rw [List.map_replicate]
theorem rp_g {α : Type} (k i : Nat) (x : α) : (List.replicate k x).getD i x = x := by
  rw [List.getD_eq_getElem?_getD, List.getElem?_replicate]
  split <;> rfl
def mg0 : mg := (fun _ => 0, fun _ => 0, fun _ => 0, fun _ => 0, 0, fun _ => 0, fun _ => 0, fun _ => 0, fun _ => 0, 0)
def rg0 : rg := (fun _ => 0, fun _ => 0, fun _ => 0, fun _ => 0, fun _ => false, fun _ => false, fun _ => 0, fun _ => 0, 0, fun _ => 0, fun _ => 0, 0)
theorem in_N {H : am_H} {m : Nat} (h0 : H[m]? = some (sb_mc m 0 0 false)) (h1 : H[m + 1]? = some (100, List.replicate 120 (Value.int 0))) (h2 : H[m + 2]? = some (100, List.replicate 120 (Value.int 0))) (h3 : H[m + 3]? = some (100, List.replicate 120 (Value.int 0))) (h4 : H[m + 4]? = some (100, List.replicate 120 (Value.int 0))) (h5 : H[m + 5]? = some (100, List.replicate 40 (Value.int 0))) (h6 : H[m + 6]? = some (101, List.replicate 40 (Value.long 0))) (h7 : H[m + 7]? = some (100, List.replicate 40 (Value.int 0))) (h8 : H[m + 8]? = some (100, List.replicate 40 (Value.int 0))) (hm : 45 ≤ m) : sb_N H m mg0 false := by
  refine ⟨List.replicate 120 0, List.replicate 120 0, List.replicate 120 0, List.replicate 120 0, List.replicate 40 0, List.replicate 40 0, List.replicate 40 0, List.replicate 40 0, ⟨h0, ?_, ?_, ?_, ?_, ?_, ?_, ?_, ?_, ?_, ?_, Nat.zero_le _, Nat.zero_le _, hm⟩, fun i => rp_g _ _ _, fun i => rp_g _ _ _, fun i => rp_g _ _ _, fun i => rp_g _ _ _, fun i => rp_g _ _ _, fun i => rp_g _ _ _, fun i => rp_g _ _ _, fun i => rp_g _ _ _, fun i => show (0 : Nat) < 1000 by omega⟩
  · rw [← rp_c]; exact h1
  · rw [← rp_i]; exact h2
  · rw [← rp_c]; exact h3
  · rw [← rp_c]; exact h4
  · rw [← rp_c]; exact h5
  · rw [← rp_l]; exact h6
  · rw [← rp_c]; exact h7
  · rw [← rp_c]; exact h8
  · simp
  · simp
theorem in_G {H : am_H} {m : Nat} (h0 : H[m]? = some (sb_rc m 0 0)) (h1 : H[m + 1]? = some (100, List.replicate 5 (Value.int 0))) (h2 : H[m + 2]? = some (100, List.replicate 5 (Value.int 0))) (h3 : H[m + 3]? = some (100, List.replicate 40 (Value.int 0))) (h4 : H[m + 4]? = some (100, List.replicate 40 (Value.int 0))) (h5 : H[m + 5]? = some (103, List.replicate 40 (Value.int 0))) (h6 : H[m + 6]? = some (103, List.replicate 40 (Value.int 0))) (h7 : H[m + 7]? = some (100, List.replicate 40 (Value.int 0))) (h8 : H[m + 8]? = some (100, List.replicate 40 (Value.int 0))) (h9 : H[m + 9]? = some (100, List.replicate 60 (Value.int 0))) (h10 : H[m + 10]? = some (100, List.replicate 60 (Value.int 0))) (hm : 45 ≤ m) : sb_G H m rg0 := by
  refine ⟨List.replicate 5 0, List.replicate 5 0, List.replicate 40 0, List.replicate 40 0, List.replicate 40 false, List.replicate 40 false, List.replicate 40 0, List.replicate 40 0, List.replicate 60 0, List.replicate 60 0, ⟨h0, ?_, ?_, ?_, ?_, ?_, ?_, ?_, ?_, ?_, ?_, ?_, ?_, ?_, Nat.zero_le _, Nat.zero_le _, hm⟩, ⟨fun i => rp_g _ _ _, fun i => rp_g _ _ _, fun i => rp_g _ _ _, fun i => rp_g _ _ _, fun i => rp_g _ _ _, fun i => rp_g _ _ _, fun i => rp_g _ _ _, fun i => rp_g _ _ _, fun i => rp_g _ _ _, fun i => rp_g _ _ _⟩, ?_⟩
  · rw [← rp_c]; exact h1
  · rw [← rp_c]; exact h2
  · rw [← rp_c]; exact h3
  · rw [← rp_c]; exact h4
  · rw [← rp_z]; exact h5
  · rw [← rp_z]; exact h6
  · rw [← rp_c]; exact h7
  · rw [← rp_c]; exact h8
  · rw [← rp_c]; exact h9
  · rw [← rp_c]; exact h10
  · simp
  · simp
  · simp
  · exact ⟨fun i => Nat.zero_le _, fun i => Nat.zero_le _, fun i => show (0 : Nat) < 6 by omega, fun i => show (0 : Nat) < 10000 by omega, fun i => Nat.zero_le _, fun i => Nat.zero_le _, fun i => show (0 : Nat) < 10000 by omega, fun i => show (0 : Nat) < 10000 by omega⟩
theorem in_P {H : am_H} {o : Nat} (h0 : H[o]? = some (6, [.ref (o + 1), .long 1])) (h1 : H[o + 1]? = some (101, List.replicate 6 (Value.long 0))) (ho : 45 ≤ o) : ∃ am un, sb_P H o am un := ⟨List.replicate 6 0, 1, h0, by rw [← rp_l]; exact h1, by simp, ho⟩
theorem in_O {H : am_H} {u : Nat} (h0 : H[u]? = some (sb_oc u 0)) (h1 : H[u + 1]? = some (102, List.replicate 160 (Value.int 0))) (hu : 45 ≤ u) : sb_O H u [] := ⟨List.replicate 160 0, h0, by rw [← rp_c]; exact h1, by simp, Nat.zero_le _, rfl, hu⟩
/-- what every field of a new reference holds -/
def rd0 (j : Nat) : Value := if j = 1 then .int (-1) else if j = 14 ∨ j = 28 ∨ j = 45 ∨ j = 52 then .long 0 else .int 0
def st0 : rf_S := fun j _ => rd0 j
theorem st0_row (j n : Nat) : (List.range n).map (st0 j) = List.replicate n (rd0 j) := by
  show (List.range n).map (fun _ => rd0 j) = _
  rw [List.map_const', List.length_range]
theorem A0_len (ws : List Int32) : (am_A0 ws).length = 45 := rfl
section IN
variable {ws : List Int32}
theorem in_L {i : Nat} {c : am_C} (h : ctL[i]? = some c) : ((am_A0 ws ++ ctL) ++ ctK)[45 + i]? = some c := by
  have hi : i < 83 := by
    have := (List.getElem?_eq_some_iff.mp h).1
    exact this
  have hl : (am_A0 ws ++ ctL).length = 128 := by rw [List.length_append, A0_len]; rfl
  rw [List.getElem?_append_left (by omega)]
  exact wq_at (by rw [A0_len]) h
theorem in_K {i : Nat} {c : am_C} (h : ctK[i]? = some c) : ((am_A0 ws ++ ctL) ++ ctK)[128 + i]? = some c := by
  have hl : (am_A0 ws ++ ctL).length = 128 := by rw [List.length_append, A0_len]; rfl
  exact wq_at (by rw [hl]) h
theorem in_O0 {q : Nat} (h : q < 45) : ((am_A0 ws ++ ctL) ++ ctK)[q]? = (am_A0 ws)[q]? := by
  rw [List.append_assoc, List.getElem?_append_left (by rw [A0_len]; exact h)]
theorem in_J : cl_J ((am_A0 ws ++ ctL) ++ ctK) 57 66 102 76 89 111 124 126 (-1) (List.replicate 120 0) 0 0 (-1) [50, 51, 52, 53, 54, 55] (List.replicate 6 sb_v0) 0 mg0 mg0 mg0 false false false rg0 rg0 rg0 [] [] := by
  refine ⟨in_L (i := 0) rfl, ⟨in_L (i := 1) rfl, ?_, by simp, Nat.zero_le _, Nat.zero_le _, fun k => by rw [rp_g]; omega, by omega⟩, ⟨in_L (i := 3) rfl, in_L (i := 4) rfl, rfl, by simp, Nat.zero_le _, by omega, fun j hj => ?_, fun i j hi hj he => ?_⟩, in_L (i := 11) rfl, in_L (i := 30) rfl,
    in_N (in_L (i := 12) rfl) (in_L (i := 13) rfl) (in_L (i := 14) rfl) (in_L (i := 15) rfl) (in_L (i := 16) rfl) (in_L (i := 17) rfl) (in_L (i := 18) rfl) (in_L (i := 19) rfl) (in_L (i := 20) rfl) (by omega),
    in_N (in_L (i := 21) rfl) (in_L (i := 22) rfl) (in_L (i := 23) rfl) (in_L (i := 24) rfl) (in_L (i := 25) rfl) (in_L (i := 26) rfl) (in_L (i := 27) rfl) (in_L (i := 28) rfl) (in_L (i := 29) rfl) (by omega),
    in_N (in_L (i := 57) rfl) (in_L (i := 58) rfl) (in_L (i := 59) rfl) (in_L (i := 60) rfl) (in_L (i := 61) rfl) (in_L (i := 62) rfl) (in_L (i := 63) rfl) (in_L (i := 64) rfl) (in_L (i := 65) rfl) (by omega),
    in_G (in_L (i := 31) rfl) (in_L (i := 32) rfl) (in_L (i := 33) rfl) (in_L (i := 34) rfl) (in_L (i := 35) rfl) (in_L (i := 36) rfl) (in_L (i := 37) rfl) (in_L (i := 38) rfl) (in_L (i := 39) rfl) (in_L (i := 40) rfl) (in_L (i := 41) rfl) (by omega),
    in_G (in_L (i := 44) rfl) (in_L (i := 45) rfl) (in_L (i := 46) rfl) (in_L (i := 47) rfl) (in_L (i := 48) rfl) (in_L (i := 49) rfl) (in_L (i := 50) rfl) (in_L (i := 51) rfl) (in_L (i := 52) rfl) (in_L (i := 53) rfl) (in_L (i := 54) rfl) (by omega),
    in_G (in_L (i := 66) rfl) (in_L (i := 67) rfl) (in_L (i := 68) rfl) (in_L (i := 69) rfl) (in_L (i := 70) rfl) (in_L (i := 71) rfl) (in_L (i := 72) rfl) (in_L (i := 73) rfl) (in_L (i := 74) rfl) (in_L (i := 75) rfl) (in_L (i := 76) rfl) (by omega),
    in_P (in_L (i := 42) rfl) (in_L (i := 43) rfl) (by omega), in_P (in_L (i := 55) rfl) (in_L (i := 56) rfl) (by omega), in_P (in_L (i := 77) rfl) (in_L (i := 78) rfl) (by omega),
    in_O (in_L (i := 79) rfl) (in_L (i := 80) rfl) (by omega), in_O (in_L (i := 81) rfl) (in_L (i := 82) rfl) (by omega), fun q hq => ?_, ?_, ?_⟩
  · rw [← rp_c]; exact in_L (i := 2) rfl
  · rcases (show j = 0 ∨ j = 1 ∨ j = 2 ∨ j = 3 ∨ j = 4 ∨ j = 5 by omega) with e | e | e | e | e | e <;> subst e
    · exact ⟨in_L (i := 5) rfl, by decide, by decide⟩
    · exact ⟨in_L (i := 6) rfl, by decide, by decide⟩
    · exact ⟨in_L (i := 7) rfl, by decide, by decide⟩
    · exact ⟨in_L (i := 8) rfl, by decide, by decide⟩
    · exact ⟨in_L (i := 9) rfl, by decide, by decide⟩
    · exact ⟨in_L (i := 10) rfl, by decide, by decide⟩
  · have hg : ∀ q, q < 6 → [50, 51, 52, 53, 54, 55].getD q 0 = 50 + q := fun q hq => by
      rcases (show q = 0 ∨ q = 1 ∨ q = 2 ∨ q = 3 ∨ q = 4 ∨ q = 5 by omega) with e | e | e | e | e | e <;> subst e <;> rfl
    rw [hg i hi, hg j hj] at he
    omega
  · rw [in_O0 (by omega)]
    rfl
  · unfold cl_P sb_dj
    omega
  · rw [List.length_append, List.length_append, A0_len]
    show 128 ≤ 45 + 83 + 39
    omega
theorem in_R : rf ((am_A0 ws ++ ctL) ++ ctK) 128 st0 := by
  refine ⟨in_K (i := 0) rfl, fun j hj hl => ?_, by omega⟩
  rw [st0_row]
  have key : ∀ j, j < 54 → rf_len j ≠ 0 → ctK[rf_off j]? = some (rf_knd j, List.replicate (rf_len j) (rd0 j)) := by
    intro j hj hl
    match j, hj, hl with
    | 0, _, h => exact absurd rfl h
    | 1, _, h => exact absurd rfl h
    | 2, _, _ => rfl
    | 3, _, h => exact absurd rfl h
    | 4, _, _ => rfl
    | 5, _, _ => rfl
    | 6, _, _ => rfl
    | 7, _, _ => rfl
    | 8, _, _ => rfl
    | 9, _, _ => rfl
    | 10, _, _ => rfl
    | 11, _, _ => rfl
    | 12, _, _ => rfl
    | 13, _, _ => rfl
    | 14, _, _ => rfl
    | 15, _, _ => rfl
    | 16, _, _ => rfl
    | 17, _, h => exact absurd rfl h
    | 18, _, h => exact absurd rfl h
    | 19, _, h => exact absurd rfl h
    | 20, _, h => exact absurd rfl h
    | 21, _, h => exact absurd rfl h
    | 22, _, h => exact absurd rfl h
    | 23, _, _ => rfl
    | 24, _, _ => rfl
    | 25, _, _ => rfl
    | 26, _, _ => rfl
    | 27, _, h => exact absurd rfl h
    | 28, _, h => exact absurd rfl h
    | 29, _, h => exact absurd rfl h
    | 30, _, _ => rfl
    | 31, _, _ => rfl
    | 32, _, _ => rfl
    | 33, _, _ => rfl
    | 34, _, _ => rfl
    | 35, _, _ => rfl
    | 36, _, _ => rfl
    | 37, _, _ => rfl
    | 38, _, _ => rfl
    | 39, _, _ => rfl
    | 40, _, h => exact absurd rfl h
    | 41, _, h => exact absurd rfl h
    | 42, _, h => exact absurd rfl h
    | 43, _, _ => rfl
    | 44, _, _ => rfl
    | 45, _, _ => rfl
    | 46, _, _ => rfl
    | 47, _, _ => rfl
    | 48, _, h => exact absurd rfl h
    | 49, _, _ => rfl
    | 50, _, h => exact absurd rfl h
    | 51, _, _ => rfl
    | 52, _, _ => rfl
    | 53, _, _ => rfl
    | j + 54, hj, _ => omega
  exact in_K (key j hj hl)
theorem rs_B0 : rs_B rg0 := ⟨Nat.zero_le _, Nat.zero_le _, ⟨fun r hr => absurd hr (Nat.not_lt_zero _), fun c _ => Nat.zero_le _⟩, ⟨fun i => Nat.zero_le _, fun i => Nat.zero_le _, fun i => show (0 : Nat) < 6 by omega, fun i => show (0 : Nat) < 10000 by omega, fun i => Nat.zero_le _, fun i => Nat.zero_le _, fun i => show (0 : Nat) < 10000 by omega, fun i => show (0 : Nat) < 10000 by omega⟩⟩
theorem rs_K0 (t : Nat) : rs_K st0 rg0 t := ⟨⟨fun i hi => absurd hi (Nat.not_lt_zero _), fun i hi => absurd hi (Nat.not_lt_zero _)⟩, fun c _ => ⟨rfl, rfl⟩⟩
theorem in_V : lw_V ws ((am_A0 ws ++ ctL) ++ ctK) 0 := by
  refine ⟨-1, List.replicate 120 0, 0, List.replicate 6 sb_v0, 0, mg0, mg0, false, false, rg0, rg0, [], st0, ⟨57, 66, 102, 76, 89, 111, 124, 126, 0, -1, [50, 51, 52, 53, 54, 55], mg0, false, rg0, [], in_J⟩, in_R, ⟨⟨rfl, fun i hi => absurd hi (Nat.not_lt_zero _), Nat.zero_le _, fun i hi => absurd hi (Nat.not_lt_zero _)⟩, rfl, ⟨rfl, fun h => by cases h⟩, ⟨rfl, fun h => by cases h⟩, ⟨rs_K0 0, rs_B0⟩, ⟨rs_K0 1, rs_B0⟩, ⟨fun _ => 0, fun _ => false, fun _ => 0, fun _ => 0, ⟨rfl, Nat.zero_le _, fun i _ => ⟨rfl, rfl, rfl, rfl⟩⟩, ⟨by simp, Nat.zero_le _, fun i hi => absurd hi (Nat.not_lt_zero _), fun i hi => absurd hi (Nat.not_lt_zero _), fun i i' hi => absurd hi (Nat.not_lt_zero _), fun i i' hi => absurd hi (Nat.not_lt_zero _)⟩⟩, ⟨rfl, fun i hi => absurd hi (Nat.not_lt_zero _), Nat.zero_le _⟩, ⟨0, 0, 0, 0, rfl, rfl, rfl, rfl⟩⟩, ⟨?_, ⟨0, in_K (i := 38) rfl⟩, ?_, ?_, ?_⟩⟩
  · rw [in_O0 (by omega)]
    rfl
  · rw [List.length_append, List.length_append, A0_len]
    show 167 ≤ 45 + 83 + 39
    omega
  · rw [List.length_append, List.length_append, A0_len]
    show 45 + 83 + 39 ≤ 167 + 2 * 0
    omega
  · rw [am_sl_app, am_sl_app]
    have h1 : am_sl ctL ≤ 10000 := by decide +kernel
    have h2 : am_sl ctK ≤ 10000 := by decide +kernel
    omega
end IN
/-- the law's beginning -/
theorem lw_begin {ws : List Int32} {d : Nat} {Q : am_O × am_H → Prop} (hd : 20 ≤ d) (kk : am_wp d 181 (23, [some (.ref 0), some (.ref 45), some (.ref 128), some (.ref 166), some (.int (Int32.ofNat (5 * 0))), none, none], [], (am_A0 ws ++ ctL) ++ ctK) Q) : am_wp d 181 (0, am_ent 181 [.ref 0], [], am_A0 ws) Q := by
  have hA : (am_A0 ws).length = 45 := A0_len ws
  have hA1 : (am_A0 ws ++ ctL).length = 128 := by rw [List.length_append, hA]; rfl
  generalize am_A0 ws = A at *
  rw [← List.append_nil A]
  refine wq_nw (a := 45) (l' := [nc 0 [Value.null, Value.null, Value.null, Value.null, Value.null, Value.null, Value.null, Value.null, Value.int 0]]) rfl rfl rfl (show A.length + 0 = _ by omega) rfl rfl ?_
  refine wp_st 1 (f' := (4, [some (.ref 0), none, none, none, none, none, none], [.ref 45, .ref 45], A ++ [nc 0 [Value.null, Value.null, Value.null, Value.null, Value.null, Value.null, Value.null, Value.null, Value.int 0]])) rfl ?_
  refine wq_ct (l0 := []) (B := ctL) (l' := ctL) rfl rfl rfl (by omega) rfl (by rw [List.append_nil]; exact ctC (by omega) hA) rfl rfl ?_
  refine wp_st 1 (f' := (8, [some (.ref 0), some (.ref 45), none, none, none, none, none], [], A ++ ctL)) rfl ?_
  generalize A ++ ctL = A1 at *
  rw [← List.append_nil A1]
  refine wq_nw (a := 128) (l' := [nc 11 (am_def 11)]) rfl rfl rfl (show A1.length + 0 = _ by omega) rfl rfl ?_
  refine wp_st 1 (f' := (12, [some (.ref 0), some (.ref 45), none, none, none, none, none], [.ref 128, .ref 128], A1 ++ [nc 11 (am_def 11)])) rfl ?_
  refine wq_ct (l0 := []) (B := ctK.take 38) (l' := ctK.take 38) rfl rfl rfl (by omega) rfl (by rw [List.append_nil]; exact ctX (n := 128) (by omega) hA1 (by omega)) rfl rfl ?_
  refine wp_st 2 (f' := (17, [some (.ref 0), some (.ref 45), some (.ref 128), none, none, none, none], [.int (Int32.ofNat 1)], A1 ++ ctK.take 38)) rfl ?_
  refine wq_na (a := 166) (l' := ctK) rfl rfl rfl rfl (by omega) (show A1.length + 38 = _ by omega) rfl rfl ?_
  refine wp_st 3 (f' := (23, [some (.ref 0), some (.ref 45), some (.ref 128), some (.ref 166), some (.int (Int32.ofNat 0)), none, none], [], A1 ++ ctK)) rfl ?_
  exact kk
theorem am_law : am_Law := by
  intro ws hl
  obtain ⟨⟨o, A⟩, h1, h2, h3, h4⟩ := lw_begin (ws := ws) (d := 1400) (Q := lw_Q1 ws) (by omega) (lw_loop (by omega) hl (ws.length + 1) 0 _ none none (by omega) (by omega) in_V)
  dsimp only at h2 h3 h4
  subst h2
  exact ⟨A, h1, h3, h4⟩
