/-! Words of categories: the class's bytes and the reference's letters. -/
theorem rf_b1 (cs : List Nat) (p : Nat) : rf_b32 cs 1 p 0 = cs.getD p 0 - 96 ∧ sb_pkn cs 1 p 0 = cs.getD p 0 := by simp [rf_b32, sb_pkn]
theorem rf_b2 (cs : List Nat) (p : Nat) : rf_b32 cs 2 p 0 = 32 * (cs.getD p 0 - 96) + (cs.getD (p + 1) 0 - 96) ∧ sb_pkn cs 2 p 0 = cs.getD p 0 * 256 + cs.getD (p + 1) 0 := by simp [rf_b32, sb_pkn]
theorem rf_b3 (cs : List Nat) (p : Nat) : rf_b32 cs 3 p 0 = 32 * (32 * (cs.getD p 0 - 96) + (cs.getD (p + 1) 0 - 96)) + (cs.getD (p + 2) 0 - 96) ∧ sb_pkn cs 3 p 0 = (cs.getD p 0 * 256 + cs.getD (p + 1) 0) * 256 + cs.getD (p + 2) 0 := by simp [rf_b32, sb_pkn]
theorem rf_b4 (cs : List Nat) (p : Nat) : rf_b32 cs 4 p 0 = 32 * (32 * (32 * (cs.getD p 0 - 96) + (cs.getD (p + 1) 0 - 96)) + (cs.getD (p + 2) 0 - 96)) + (cs.getD (p + 3) 0 - 96) ∧ sb_pkn cs 4 p 0 = ((cs.getD p 0 * 256 + cs.getD (p + 1) 0) * 256 + cs.getD (p + 2) 0) * 256 + cs.getD (p + 3) 0 := by simp [rf_b32, sb_pkn]
/-- the five words, as numbers -/
theorem rf_five {cs : List Nat} {p k : Nat} (h : sb_ltr cs p k) (h1 : 1 ≤ k) (h4 : k ≤ 4) : (rf_b32 cs k p 0 = 15813 ↔ sb_pkn cs k p 0 = 7302757) ∧ (rf_b32 cs k p 0 = 21231 ↔ sb_pkn cs k p 0 = 7632751) ∧ (rf_b32 cs k p 0 = 857679 ↔ sb_pkn cs k p 0 = 2053468783) ∧ (rf_b32 cs k p 0 = 6327 ↔ sb_pkn cs k p 0 = 6710647) ∧ (rf_b32 cs k p 0 = 427481 ↔ sb_pkn cs k p 0 = 1835101817) ∧ rf_b32 cs k p 0 < 2097152 ∧ sb_pkn cs k p 0 < 2147483648 := by
  rcases (show k = 1 ∨ k = 2 ∨ k = 3 ∨ k = 4 by omega) with rfl | rfl | rfl | rfl
  · have a := h p (by omega) (by omega)
    rw [(rf_b1 cs p).1, (rf_b1 cs p).2]
    omega
  · have a := h p (by omega) (by omega)
    have b := h (p + 1) (by omega) (by omega)
    rw [(rf_b2 cs p).1, (rf_b2 cs p).2]
    omega
  · have a := h p (by omega) (by omega)
    have b := h (p + 1) (by omega) (by omega)
    have c := h (p + 2) (by omega) (by omega)
    rw [(rf_b3 cs p).1, (rf_b3 cs p).2]
    omega
  · have a := h p (by omega) (by omega)
    have b := h (p + 1) (by omega) (by omega)
    have c := h (p + 2) (by omega) (by omega)
    have e := h (p + 3) (by omega) (by omega)
    rw [(rf_b4 cs p).1, (rf_b4 cs p).2]
    omega
theorem rf_b32_lo {cs : List Nat} {p : Nat} : ∀ {k : Nat}, sb_ltr cs p (k + 1) → 32 ^ k ≤ rf_b32 cs (k + 1) p 0
  | 0, h => by
    have a := h p (by omega) (by omega)
    rw [(rf_b1 cs p).1]
    omega
  | k + 1, h => by
    have h1 := h (p + (k + 1)) (by omega) (by omega)
    have h2 := rf_b32_lo (k := k) (fun j a b => h j a (by omega))
    rw [rf_b32_s, Nat.pow_succ]
    omega
theorem rf_rh_n {X : Nat} (hX : X < 9223372036854775808) : rf_rh (Int64.ofNat X) = if X = 15813 then some 1 else if X = 21231 then some 2 else if X = 857679 then some 0 else if X = 6327 then some 3 else if X = 427481 then some 4 else none := by
  unfold rf_rh
  simp only [i64_eq hX (show 15813 < 9223372036854775808 by omega), i64_eq hX (show 21231 < 9223372036854775808 by omega), i64_eq hX (show 857679 < 9223372036854775808 by omega), i64_eq hX (show 6327 < 9223372036854775808 by omega), i64_eq hX (show 427481 < 9223372036854775808 by omega)]
theorem ru_fc_n {S : rg} {Y : Nat} (hY : Y < 9223372036854775808) : ru_fc S (Int64.ofNat Y) 5 0 = if Y = 2053468783 ∧ rg_hr S 0 = false then some 0 else if Y = 7302757 ∧ rg_hr S 1 = false then some 1 else if Y = 7632751 ∧ rg_hr S 2 = false then some 2 else if Y = 6710647 ∧ rg_hr S 3 = false then some 3 else if Y = 1835101817 ∧ rg_hr S 4 = false then some 4 else none := by
  have e0 : ru_CW.getD 0 0 = Int64.ofNat Y ↔ Y = 2053468783 := by
    rw [show ru_CW.getD 0 0 = Int64.ofNat 2053468783 from rfl, i64_eq (by omega) hY]; omega
  have e1 : ru_CW.getD 1 0 = Int64.ofNat Y ↔ Y = 7302757 := by
    rw [show ru_CW.getD 1 0 = Int64.ofNat 7302757 from rfl, i64_eq (by omega) hY]; omega
  have e2 : ru_CW.getD 2 0 = Int64.ofNat Y ↔ Y = 7632751 := by
    rw [show ru_CW.getD 2 0 = Int64.ofNat 7632751 from rfl, i64_eq (by omega) hY]; omega
  have e3 : ru_CW.getD 3 0 = Int64.ofNat Y ↔ Y = 6710647 := by
    rw [show ru_CW.getD 3 0 = Int64.ofNat 6710647 from rfl, i64_eq (by omega) hY]; omega
  have e4 : ru_CW.getD 4 0 = Int64.ofNat Y ↔ Y = 1835101817 := by
    rw [show ru_CW.getD 4 0 = Int64.ofNat 1835101817 from rfl, i64_eq (by omega) hY]; omega
  simp only [ru_fc, Nat.zero_add, Nat.reduceAdd, e0, e1, e2, e3, e4]
/-- the reference's category of a word and the class's -/
theorem rf_fc {cs : List Nat} {p k : Nat} {S : rg} (h : sb_ltr cs p k) (hc : ∀ j, cs.getD j 0 < 128) (h1 : 1 ≤ k) : (rf_rh (rf_rw cs p k) = none → 4 < k ∨ ru_fc S (sb_pk cs k p 0) 5 0 = none) ∧ ∀ c, rf_rh (rf_rw cs p k) = some c → k ≤ 4 ∧ c < 5 ∧ ru_fc S (sb_pk cs k p 0) 5 0 = if rg_hr S c = false then some c else none := by
  by_cases h4 : k ≤ 4
  · obtain ⟨w1, w2, w3, w4, w5, hX, hY⟩ := rf_five h h1 h4
    have e1 : rf_rw cs p k = Int64.ofNat (rf_b32 cs k p 0) := by unfold rf_rw; rw [if_pos (by omega)]
    have e2 : sb_pk cs k p 0 = Int64.ofNat (sb_pkn cs k p 0) := sb_pk_n cs hc k p 0 (by omega) (Nat.pow_pos (by omega))
    rw [e1, e2, rf_rh_n (by omega), ru_fc_n (by omega)]
    constructor
    · intro q
      right
      repeat' split at q
      all_goals first | (cases q; done) | skip
      rw [if_neg (by omega), if_neg (by omega), if_neg (by omega), if_neg (by omega), if_neg (by omega)]
    · intro c q
      refine ⟨h4, ?_⟩
      repeat' split at q
      all_goals first | (cases q; done) | skip
      · cases q
        refine ⟨by omega, ?_⟩
        rw [if_neg (by omega)]
        by_cases hh : rg_hr S 1 = false
        · rw [if_pos ⟨by omega, hh⟩, if_pos hh]
        · rw [if_neg (fun e => hh e.2), if_neg (by omega), if_neg (by omega), if_neg (by omega), if_neg hh]
      · cases q
        refine ⟨by omega, ?_⟩
        rw [if_neg (by omega), if_neg (by omega)]
        by_cases hh : rg_hr S 2 = false
        · rw [if_pos ⟨by omega, hh⟩, if_pos hh]
        · rw [if_neg (fun e => hh e.2), if_neg (by omega), if_neg (by omega), if_neg hh]
      · cases q
        refine ⟨by omega, ?_⟩
        by_cases hh : rg_hr S 0 = false
        · rw [if_pos ⟨by omega, hh⟩, if_pos hh]
        · rw [if_neg (fun e => hh e.2), if_neg (by omega), if_neg (by omega), if_neg (by omega), if_neg (by omega), if_neg hh]
      · cases q
        refine ⟨by omega, ?_⟩
        rw [if_neg (by omega), if_neg (by omega), if_neg (by omega)]
        by_cases hh : rg_hr S 3 = false
        · rw [if_pos ⟨by omega, hh⟩, if_pos hh]
        · rw [if_neg (fun e => hh e.2), if_neg (by omega), if_neg hh]
      · cases q
        refine ⟨by omega, ?_⟩
        rw [if_neg (by omega), if_neg (by omega), if_neg (by omega), if_neg (by omega)]
        by_cases hh : rg_hr S 4 = false
        · rw [if_pos ⟨by omega, hh⟩, if_pos hh]
        · rw [if_neg (fun e => hh e.2), if_neg hh]
  · have hn : rf_rh (rf_rw cs p k) = none := by
      by_cases h12 : k ≤ 12
      · have e1 : rf_rw cs p k = Int64.ofNat (rf_b32 cs k p 0) := by unfold rf_rw; rw [if_pos h12]
        obtain ⟨k', rfl⟩ : ∃ k', k = k' + 1 := ⟨k - 1, by omega⟩
        have hlo := rf_b32_lo h
        have hhi := (rf_b32_ge h).2.2
        have hp4 : 32 ^ 4 ≤ 32 ^ k' := Nat.pow_le_pow_right (by omega) (by omega)
        have hp12 : 32 ^ (k' + 1) ≤ 32 ^ 12 := Nat.pow_le_pow_right (by omega) h12
        rw [e1, rf_rh_n (by omega)]
        rw [if_neg (by omega), if_neg (by omega), if_neg (by omega), if_neg (by omega), if_neg (by omega)]
      · have e1 : rf_rw cs p k = -1 := by unfold rf_rw; rw [if_neg h12]
        rw [e1]
        decide
    exact ⟨fun _ => Or.inl (by omega), fun c q => by rw [hn] at q; cases q⟩
/-- and, or -/
theorem rf_andor {cs : List Nat} {p k : Nat} (h : sb_ltr cs p k) (h1 : 1 ≤ k) : (rf_rw cs p k = Int64.ofNat 1476 ↔ (k = 3 ∧ cs.getD p 0 = 97 ∧ cs.getD (p + 1) 0 = 110 ∧ cs.getD (p + 2) 0 = 100)) ∧ (rf_rw cs p k = Int64.ofNat 498 ↔ (k = 2 ∧ cs.getD p 0 = 111 ∧ cs.getD (p + 1) 0 = 114)) := by
  by_cases h4 : k ≤ 4
  · have e1 : rf_rw cs p k = Int64.ofNat (rf_b32 cs k p 0) := by unfold rf_rw; rw [if_pos (by omega)]
    have hX := (rf_five h h1 h4).2.2.2.2.2.1
    rw [e1, i64_eq (by omega) (by omega), i64_eq (by omega) (by omega)]
    rcases (show k = 1 ∨ k = 2 ∨ k = 3 ∨ k = 4 by omega) with rfl | rfl | rfl | rfl
    · have a := h p (by omega) (by omega)
      rw [(rf_b1 cs p).1]
      omega
    · have a := h p (by omega) (by omega)
      have b := h (p + 1) (by omega) (by omega)
      rw [(rf_b2 cs p).1]
      omega
    · have a := h p (by omega) (by omega)
      have b := h (p + 1) (by omega) (by omega)
      have c := h (p + 2) (by omega) (by omega)
      rw [(rf_b3 cs p).1]
      omega
    · have a := h p (by omega) (by omega)
      have b := h (p + 1) (by omega) (by omega)
      have c := h (p + 2) (by omega) (by omega)
      have e := h (p + 3) (by omega) (by omega)
      rw [(rf_b4 cs p).1]
      omega
  · by_cases h12 : k ≤ 12
    · have e1 : rf_rw cs p k = Int64.ofNat (rf_b32 cs k p 0) := by unfold rf_rw; rw [if_pos h12]
      obtain ⟨k', rfl⟩ : ∃ k', k = k' + 1 := ⟨k - 1, by omega⟩
      have hlo := rf_b32_lo h
      have hhi := (rf_b32_ge h).2.2
      have hp4 : 32 ^ 4 ≤ 32 ^ k' := Nat.pow_le_pow_right (by omega) (by omega)
      have hp12 : 32 ^ (k' + 1) ≤ 32 ^ 12 := Nat.pow_le_pow_right (by omega) h12
      rw [e1, i64_eq (by omega) (by omega), i64_eq (by omega) (by omega)]
      omega
    · have e1 : rf_rw cs p k = -1 := by unfold rf_rw; rw [if_neg h12]
      rw [e1]
      refine ⟨⟨fun q => absurd q (by decide), fun q => by omega⟩, ⟨fun q => absurd q (by decide), fun q => by omega⟩⟩
theorem rd_is_and {cs : List Nat} {p e : Nat} : rd_is cs rd_WA p e = true ↔ (e - p = 3 ∧ cs.getD p 0 = 97 ∧ cs.getD (p + 1) 0 = 110 ∧ cs.getD (p + 2) 0 = 100) := by
  unfold rd_is rd_WA
  by_cases h : e - p = 3
  · simp [h, sb_eqw]
  · simp [h]
theorem rd_is_or {cs : List Nat} {p e : Nat} : rd_is cs rd_WO p e = true ↔ (e - p = 2 ∧ cs.getD p 0 = 111 ∧ cs.getD (p + 1) 0 = 114) := by
  unfold rd_is rd_WO
  by_cases h : e - p = 2
  · simp [h, sb_eqw]
  · simp [h]
