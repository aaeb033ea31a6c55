/-! Text.append. -/
theorem i32_m1 {a : Nat} (h : 1 ≤ a) : Int32.ofNat a + (-1) = Int32.ofNat (a - 1) := by
  rw [← i32_sub h, Int32.sub_eq_add_neg]
  rfl
theorem i32_ush8 {R : Nat} (h : R < 2147483648) : ((Int32.ofNat R).toUInt32 >>> ((Int32.ofNat 8).toUInt32 &&& Int32.toUInt32 31)).toInt32 = Int32.ofNat (R / 256) := by
  apply i32_of_u32
  rw [UInt32.toNat_shiftRight, Int32.toUInt32_ofNat', UInt32.toNat_ofNat']
  have h1 : ((Int32.ofNat 8).toUInt32 &&& Int32.toUInt32 31).toNat % 32 = 8 := by decide
  rw [h1, Nat.mod_eq_of_lt (by omega), Nat.shiftRight_eq_div_pow]
theorem sb_by_n {N k : Nat} (h : N < 2147483648) : sb_by (Int32.ofNat N) k = N / 2 ^ k % 256 := by
  unfold sb_by
  rw [Int32.toUInt32_ofNat', UInt32.toNat_ofNat', Nat.mod_eq_of_lt (show N < 2 ^ 32 by omega)]
def sb_plc (cs : List Nat) : Nat → List Nat → List Nat
  | _, [] => cs
  | n, b :: r => sb_plc (cs.set n b) (n + 1) r
def sb_fpn : Nat → List Nat → Nat
  | w, [] => w
  | w, b :: r => sb_fpn (w * 256 + b) r
theorem i32_or8 {W c : Nat} (hW : W < 8388608) (hc : c < 256) : Int32.ofNat W <<< (Int32.ofNat 8 &&& 31) ||| Int32.ofNat c = Int32.ofNat (W * 256 + c) := by
  have h8 : Int32.ofNat 8 &&& 31 = 8 := by decide
  rw [h8]
  apply Int32.toBitVec_inj.mp
  apply BitVec.eq_of_toNat_eq
  have h1 : (Int32.ofNat W <<< (8 : Int32) ||| Int32.ofNat c).toBitVec = (BitVec.ofNat 32 W <<< 8) ||| BitVec.ofNat 32 c := by
    rw [Int32.toBitVec_or, Int32.toBitVec_shiftLeft]
    rfl
  rw [h1]
  have h2 : (Int32.ofNat (W * 256 + c)).toBitVec = BitVec.ofNat 32 (W * 256 + c) := rfl
  rw [h2, BitVec.toNat_or, BitVec.toNat_shiftLeft, BitVec.toNat_ofNat, BitVec.toNat_ofNat, BitVec.toNat_ofNat]
  rw [Nat.mod_eq_of_lt (show W < 2 ^ 32 by omega), Nat.mod_eq_of_lt (show c < 2 ^ 32 by omega), Nat.mod_eq_of_lt (show W * 256 + c < 2 ^ 32 by omega)]
  rw [Nat.shiftLeft_eq, Nat.mod_eq_of_lt (show W * 2 ^ 8 < 2 ^ 32 by omega)]
  have h3 := Nat.shiftLeft_add_eq_or_of_lt (show c < 2 ^ 8 by omega) W
  rw [Nat.shiftLeft_eq] at h3
  rw [← h3]
theorem tx_app0 {d t n a N : Nat} {f : Int32} {cs : List Nat} {A : am_H} (hN : N = 0)  (hr : n + 0 ≤ 120) (h : sb_T A t cs n a f) : ∃ B, am_go d 10 [.ref t, .int (Int32.ofNat N)] A (.inl (some (.int 1)), B) ∧ sb_T B t (cs) (n) a f ∧ sb_fr A B t (t + 2) := by
  have hh := h
  have hNl : N < 2147483648 := by omega
  obtain ⟨hT, hC, hl, hn, ha, hb, h45⟩ := h
  unfold sb_tc at hT
  refine wp_goE ?_
  refine wp_st 1 (f' := (1, [some (.ref (t)), some (.int (Int32.ofNat N)), none, none, none], [.ref (t)], A)) rfl ?_
  refine wp_gf rfl rfl hT rfl rfl ?_
  refine wp_ln rfl hC rfl rfl rfl ?_
  rw [show (cs.map sb_c).length = 120 from by simp [hl]]
  refine wp_st 1 (f' := (6, [some (.ref (t)), some (.int (Int32.ofNat N)), none, none, none], [.ref (t), .int (Int32.ofNat 120)], A)) rfl ?_
  refine wp_gf rfl rfl hT rfl rfl ?_
  refine wp_st 1 (f' := (10, [some (.ref (t)), some (.int (Int32.ofNat N)), none, none, none], [.int ((Int32.ofNat 120) - (Int32.ofNat n))], A)) rfl ?_
  rw [i32_sub (a := 120) (b := n) (by omega)]
  refine wp_st 6 (f' := (17, [some (.ref (t)), some (.int (Int32.ofNat N)), some (.int (Int32.ofNat (120 - n))), some (.int (Int32.ofNat N)), some (.int (Int32.ofNat 0))], [.int (Int32.ofNat N)], A)) rfl ?_
  refine wp_izT rfl rfl ((i32_eq (a := N) (b := 0) (by omega) (by omega)).mpr (by omega)) ?_
  refine wp_st 1 (f' := (41, [some (.ref (t)), some (.int (Int32.ofNat N)), some (.int (Int32.ofNat (120 - n))), some (.int (Int32.ofNat N)), some (.int (Int32.ofNat 0))], [.int (Int32.ofNat (120 - n))], A)) rfl ?_
  refine wp_izT rfl rfl ((i32_le (a := 0) (b := 120 - n) (by omega) (by omega)).mpr (by omega)) ?_
  refine wp_st 3 (f' := (50, [some (.ref (t)), some (.int (Int32.ofNat N)), some (.int (Int32.ofNat (120 - n))), some (.int (Int32.ofNat 24)), some (.int (Int32.ofNat 0))], [.int (Int32.ofNat 24)], A)) rfl ?_
  refine wp_izF rfl rfl (Int32.ofNat_not_neg (by omega)) ?_
  refine wp_st 5 (f' := (60, [some (.ref (t)), some (.int (Int32.ofNat N)), some (.int (Int32.ofNat (120 - n))), some (.int (Int32.ofNat 24)), some (.int (Int32.ofNat 0))], [.int ((((Int32.ofNat N).toUInt32 >>> ((Int32.ofNat 24).toUInt32 &&& Int32.toUInt32 31)).toInt32) &&& (Int32.ofNat 255))], A)) rfl ?_
  rw [show (((Int32.ofNat N).toUInt32 >>> ((Int32.ofNat 24).toUInt32 &&& Int32.toUInt32 31)).toInt32) &&& (Int32.ofNat 255) = Int32.ofNat 0 from by rw [sb_ush (k := 24) (by omega), sb_by_n (by omega)]; first | done | (congr 1; omega)]
  refine wp_st 2 (f' := (64, [some (.ref (t)), some (.int (Int32.ofNat N)), some (.int (Int32.ofNat (120 - n))), some (.int (Int32.ofNat 24)), some (.int (Int32.ofNat 0))], [.int (Int32.ofNat 0)], A)) rfl ?_
  refine wp_izT rfl rfl ((i32_eq (a := 0) (b := 0) (by omega) (by omega)).mpr (by omega)) ?_
  refine wp_st 1 (f' := (104, [some (.ref (t)), some (.int (Int32.ofNat N)), some (.int (Int32.ofNat (120 - n))), some (.int ((Int32.ofNat 24) + (-8))), some (.int (Int32.ofNat 0))], [], A)) rfl ?_
  rw [show (Int32.ofNat 24) + (-8) = Int32.ofNat 16 from by decide]
  refine wp_st 2 (f' := (50, [some (.ref (t)), some (.int (Int32.ofNat N)), some (.int (Int32.ofNat (120 - n))), some (.int (Int32.ofNat 16)), some (.int (Int32.ofNat 0))], [.int (Int32.ofNat 16)], A)) rfl ?_
  refine wp_izF rfl rfl (Int32.ofNat_not_neg (by omega)) ?_
  refine wp_st 5 (f' := (60, [some (.ref (t)), some (.int (Int32.ofNat N)), some (.int (Int32.ofNat (120 - n))), some (.int (Int32.ofNat 16)), some (.int (Int32.ofNat 0))], [.int ((((Int32.ofNat N).toUInt32 >>> ((Int32.ofNat 16).toUInt32 &&& Int32.toUInt32 31)).toInt32) &&& (Int32.ofNat 255))], A)) rfl ?_
  rw [show (((Int32.ofNat N).toUInt32 >>> ((Int32.ofNat 16).toUInt32 &&& Int32.toUInt32 31)).toInt32) &&& (Int32.ofNat 255) = Int32.ofNat 0 from by rw [sb_ush (k := 16) (by omega), sb_by_n (by omega)]; first | done | (congr 1; omega)]
  refine wp_st 2 (f' := (64, [some (.ref (t)), some (.int (Int32.ofNat N)), some (.int (Int32.ofNat (120 - n))), some (.int (Int32.ofNat 16)), some (.int (Int32.ofNat 0))], [.int (Int32.ofNat 0)], A)) rfl ?_
  refine wp_izT rfl rfl ((i32_eq (a := 0) (b := 0) (by omega) (by omega)).mpr (by omega)) ?_
  refine wp_st 1 (f' := (104, [some (.ref (t)), some (.int (Int32.ofNat N)), some (.int (Int32.ofNat (120 - n))), some (.int ((Int32.ofNat 16) + (-8))), some (.int (Int32.ofNat 0))], [], A)) rfl ?_
  rw [show (Int32.ofNat 16) + (-8) = Int32.ofNat 8 from by decide]
  refine wp_st 2 (f' := (50, [some (.ref (t)), some (.int (Int32.ofNat N)), some (.int (Int32.ofNat (120 - n))), some (.int (Int32.ofNat 8)), some (.int (Int32.ofNat 0))], [.int (Int32.ofNat 8)], A)) rfl ?_
  refine wp_izF rfl rfl (Int32.ofNat_not_neg (by omega)) ?_
  refine wp_st 5 (f' := (60, [some (.ref (t)), some (.int (Int32.ofNat N)), some (.int (Int32.ofNat (120 - n))), some (.int (Int32.ofNat 8)), some (.int (Int32.ofNat 0))], [.int ((((Int32.ofNat N).toUInt32 >>> ((Int32.ofNat 8).toUInt32 &&& Int32.toUInt32 31)).toInt32) &&& (Int32.ofNat 255))], A)) rfl ?_
  rw [show (((Int32.ofNat N).toUInt32 >>> ((Int32.ofNat 8).toUInt32 &&& Int32.toUInt32 31)).toInt32) &&& (Int32.ofNat 255) = Int32.ofNat 0 from by rw [sb_ush (k := 8) (by omega), sb_by_n (by omega)]; first | done | (congr 1; omega)]
  refine wp_st 2 (f' := (64, [some (.ref (t)), some (.int (Int32.ofNat N)), some (.int (Int32.ofNat (120 - n))), some (.int (Int32.ofNat 8)), some (.int (Int32.ofNat 0))], [.int (Int32.ofNat 0)], A)) rfl ?_
  refine wp_izT rfl rfl ((i32_eq (a := 0) (b := 0) (by omega) (by omega)).mpr (by omega)) ?_
  refine wp_st 1 (f' := (104, [some (.ref (t)), some (.int (Int32.ofNat N)), some (.int (Int32.ofNat (120 - n))), some (.int ((Int32.ofNat 8) + (-8))), some (.int (Int32.ofNat 0))], [], A)) rfl ?_
  rw [show (Int32.ofNat 8) + (-8) = Int32.ofNat 0 from by decide]
  refine wp_st 2 (f' := (50, [some (.ref (t)), some (.int (Int32.ofNat N)), some (.int (Int32.ofNat (120 - n))), some (.int (Int32.ofNat 0)), some (.int (Int32.ofNat 0))], [.int (Int32.ofNat 0)], A)) rfl ?_
  refine wp_izF rfl rfl (Int32.ofNat_not_neg (by omega)) ?_
  refine wp_st 5 (f' := (60, [some (.ref (t)), some (.int (Int32.ofNat N)), some (.int (Int32.ofNat (120 - n))), some (.int (Int32.ofNat 0)), some (.int (Int32.ofNat 0))], [.int ((((Int32.ofNat N).toUInt32 >>> ((Int32.ofNat 0).toUInt32 &&& Int32.toUInt32 31)).toInt32) &&& (Int32.ofNat 255))], A)) rfl ?_
  rw [show (((Int32.ofNat N).toUInt32 >>> ((Int32.ofNat 0).toUInt32 &&& Int32.toUInt32 31)).toInt32) &&& (Int32.ofNat 255) = Int32.ofNat 0 from by rw [sb_ush (k := 0) (by omega), sb_by_n (by omega)]; first | done | (congr 1; omega)]
  refine wp_st 2 (f' := (64, [some (.ref (t)), some (.int (Int32.ofNat N)), some (.int (Int32.ofNat (120 - n))), some (.int (Int32.ofNat 0)), some (.int (Int32.ofNat 0))], [.int (Int32.ofNat 0)], A)) rfl ?_
  refine wp_izT rfl rfl ((i32_eq (a := 0) (b := 0) (by omega) (by omega)).mpr (by omega)) ?_
  refine wp_st 1 (f' := (104, [some (.ref (t)), some (.int (Int32.ofNat N)), some (.int (Int32.ofNat (120 - n))), some (.int ((Int32.ofNat 0) + (-8))), some (.int (Int32.ofNat 0))], [], A)) rfl ?_
  rw [show (Int32.ofNat 0) + (-8) = (-8) from by decide]
  refine wp_st 2 (f' := (50, [some (.ref (t)), some (.int (Int32.ofNat N)), some (.int (Int32.ofNat (120 - n))), some (.int ((-8))), some (.int (Int32.ofNat 0))], [.int ((-8))], A)) rfl ?_
  refine wp_izT rfl rfl (show (-8 : Int32) < Int32.ofNat 0 from by decide) ?_
  refine wp_st 1 (f' := (108, [some (.ref (t)), some (.int (Int32.ofNat N)), some (.int (Int32.ofNat (120 - n))), some (.int ((-8))), some (.int (Int32.ofNat 0))], [.int (Int32.ofNat 1)], A)) rfl ?_
  refine wp_rt rfl rfl rfl ?_
  refine ⟨rfl, ⟨hT, hC, by simp [hl], by omega, ha, fun k => ?_, h45⟩, (sb_fr.refl A t (t + 2))⟩
  exact hb k
theorem sb_gset {cs : List Nat} {p b k : Nat} : (cs.set p b).getD k 0 = if p = k ∧ p < cs.length then b else cs.getD k 0 := by
  rw [List.getD_eq_getElem?_getD, List.getElem?_set, List.getD_eq_getElem?_getD]
  by_cases h1 : p = k
  · subst h1
    by_cases h2 : p < cs.length
    · simp [h2]
    · simp [h2]
  · simp [h1]
theorem sb_st1 {cs : List Nat} {p1 b1 : Nat} (h : ∀ k, cs.getD k 0 < 128) (hb1 : b1 < 128) (k : Nat) : (cs.set p1 b1).getD k 0 < 128 := by
  rw [sb_gset]
  split
  · exact hb1
  · exact h k
theorem tx_app1 {d t n a N b1 : Nat} {f : Int32} {cs : List Nat} {A : am_H} (hN : N = (0 * 256 + b1)) (hb1 : 32 ≤ b1 ∧ b1 ≤ 126) (hr : n + 1 ≤ 120) (h : sb_T A t cs n a f) : ∃ B, am_go d 10 [.ref t, .int (Int32.ofNat N)] A (.inl (some (.int 1)), B) ∧ sb_T B t ((cs).set (n) b1) (n + 1) a f ∧ sb_fr A B t (t + 2) := by
  have hh := h
  have hNl : N < 2147483648 := by omega
  obtain ⟨hT, hC, hl, hn, ha, hb, h45⟩ := h
  unfold sb_tc at hT
  refine wp_goE ?_
  refine wp_st 1 (f' := (1, [some (.ref (t)), some (.int (Int32.ofNat N)), none, none, none], [.ref (t)], A)) rfl ?_
  refine wp_gf rfl rfl hT rfl rfl ?_
  refine wp_ln rfl hC rfl rfl rfl ?_
  rw [show (cs.map sb_c).length = 120 from by simp [hl]]
  refine wp_st 1 (f' := (6, [some (.ref (t)), some (.int (Int32.ofNat N)), none, none, none], [.ref (t), .int (Int32.ofNat 120)], A)) rfl ?_
  refine wp_gf rfl rfl hT rfl rfl ?_
  refine wp_st 1 (f' := (10, [some (.ref (t)), some (.int (Int32.ofNat N)), none, none, none], [.int ((Int32.ofNat 120) - (Int32.ofNat n))], A)) rfl ?_
  rw [i32_sub (a := 120) (b := n) (by omega)]
  refine wp_st 6 (f' := (17, [some (.ref (t)), some (.int (Int32.ofNat N)), some (.int (Int32.ofNat (120 - n))), some (.int (Int32.ofNat N)), some (.int (Int32.ofNat 0))], [.int (Int32.ofNat N)], A)) rfl ?_
  refine wp_izF rfl rfl (fun q => absurd ((i32_eq (a := N) (b := 0) (by omega) (by omega)).mp q) (by omega)) ?_
  refine wp_st 2 (f' := (23, [some (.ref (t)), some (.int (Int32.ofNat N)), some (.int (Int32.ofNat (120 - n))), some (.int (Int32.ofNat N)), some (.int (Int32.ofNat 0))], [.int (Int32.ofNat 4), .int (Int32.ofNat 0)], A)) rfl ?_
  refine wp_ifF rfl rfl (fun q => absurd ((i32_le (a := 4) (b := 0) (by omega) (by omega)).mp q) (by omega)) ?_
  refine wp_st 1 (f' := (29, [some (.ref (t)), some (.int (Int32.ofNat N)), some (.int ((Int32.ofNat (120 - n)) + (-1))), some (.int (Int32.ofNat N)), some (.int (Int32.ofNat 0))], [], A)) rfl ?_
  rw [i32_m1 (a := 120 - n) (by omega)]
  refine wp_st 3 (f' := (33, [some (.ref (t)), some (.int (Int32.ofNat N)), some (.int (Int32.ofNat ((120 - n) - 1))), some (.int (Int32.ofNat N)), some (.int (Int32.ofNat 0))], [.int (((Int32.ofNat N).toUInt32 >>> ((Int32.ofNat 8).toUInt32 &&& Int32.toUInt32 31)).toInt32)], A)) rfl ?_
  rw [show ((Int32.ofNat N).toUInt32 >>> ((Int32.ofNat 8).toUInt32 &&& Int32.toUInt32 31)).toInt32 = Int32.ofNat (N / 256) from by rw [i32_ush8 (by omega)]; first | done | (congr 1; omega)]
  refine wp_st 2 (f' := (37, [some (.ref (t)), some (.int (Int32.ofNat N)), some (.int (Int32.ofNat ((120 - n) - 1))), some (.int (Int32.ofNat (N / 256))), some (.int ((Int32.ofNat 0) + (Int32.ofNat 1)))], [], A)) rfl ?_
  rw [i32_add (0) (1)]
  refine wp_st 2 (f' := (17, [some (.ref (t)), some (.int (Int32.ofNat N)), some (.int (Int32.ofNat ((120 - n) - 1))), some (.int (Int32.ofNat (N / 256))), some (.int (Int32.ofNat (0 + 1)))], [.int (Int32.ofNat (N / 256))], A)) rfl ?_
  refine wp_izT rfl rfl ((i32_eq (a := N / 256) (b := 0) (by omega) (by omega)).mpr (by omega)) ?_
  refine wp_st 1 (f' := (41, [some (.ref (t)), some (.int (Int32.ofNat N)), some (.int (Int32.ofNat ((120 - n) - 1))), some (.int (Int32.ofNat (N / 256))), some (.int (Int32.ofNat (0 + 1)))], [.int (Int32.ofNat ((120 - n) - 1))], A)) rfl ?_
  refine wp_izT rfl rfl ((i32_le (a := 0) (b := (120 - n) - 1) (by omega) (by omega)).mpr (by omega)) ?_
  refine wp_st 3 (f' := (50, [some (.ref (t)), some (.int (Int32.ofNat N)), some (.int (Int32.ofNat ((120 - n) - 1))), some (.int (Int32.ofNat 24)), some (.int (Int32.ofNat (0 + 1)))], [.int (Int32.ofNat 24)], A)) rfl ?_
  refine wp_izF rfl rfl (Int32.ofNat_not_neg (by omega)) ?_
  refine wp_st 5 (f' := (60, [some (.ref (t)), some (.int (Int32.ofNat N)), some (.int (Int32.ofNat ((120 - n) - 1))), some (.int (Int32.ofNat 24)), some (.int (Int32.ofNat (0 + 1)))], [.int ((((Int32.ofNat N).toUInt32 >>> ((Int32.ofNat 24).toUInt32 &&& Int32.toUInt32 31)).toInt32) &&& (Int32.ofNat 255))], A)) rfl ?_
  rw [show (((Int32.ofNat N).toUInt32 >>> ((Int32.ofNat 24).toUInt32 &&& Int32.toUInt32 31)).toInt32) &&& (Int32.ofNat 255) = Int32.ofNat 0 from by rw [sb_ush (k := 24) (by omega), sb_by_n (by omega)]; first | done | (congr 1; omega)]
  refine wp_st 2 (f' := (64, [some (.ref (t)), some (.int (Int32.ofNat N)), some (.int (Int32.ofNat ((120 - n) - 1))), some (.int (Int32.ofNat 24)), some (.int (Int32.ofNat 0))], [.int (Int32.ofNat 0)], A)) rfl ?_
  refine wp_izT rfl rfl ((i32_eq (a := 0) (b := 0) (by omega) (by omega)).mpr (by omega)) ?_
  refine wp_st 1 (f' := (104, [some (.ref (t)), some (.int (Int32.ofNat N)), some (.int (Int32.ofNat ((120 - n) - 1))), some (.int ((Int32.ofNat 24) + (-8))), some (.int (Int32.ofNat 0))], [], A)) rfl ?_
  rw [show (Int32.ofNat 24) + (-8) = Int32.ofNat 16 from by decide]
  refine wp_st 2 (f' := (50, [some (.ref (t)), some (.int (Int32.ofNat N)), some (.int (Int32.ofNat ((120 - n) - 1))), some (.int (Int32.ofNat 16)), some (.int (Int32.ofNat 0))], [.int (Int32.ofNat 16)], A)) rfl ?_
  refine wp_izF rfl rfl (Int32.ofNat_not_neg (by omega)) ?_
  refine wp_st 5 (f' := (60, [some (.ref (t)), some (.int (Int32.ofNat N)), some (.int (Int32.ofNat ((120 - n) - 1))), some (.int (Int32.ofNat 16)), some (.int (Int32.ofNat 0))], [.int ((((Int32.ofNat N).toUInt32 >>> ((Int32.ofNat 16).toUInt32 &&& Int32.toUInt32 31)).toInt32) &&& (Int32.ofNat 255))], A)) rfl ?_
  rw [show (((Int32.ofNat N).toUInt32 >>> ((Int32.ofNat 16).toUInt32 &&& Int32.toUInt32 31)).toInt32) &&& (Int32.ofNat 255) = Int32.ofNat 0 from by rw [sb_ush (k := 16) (by omega), sb_by_n (by omega)]; first | done | (congr 1; omega)]
  refine wp_st 2 (f' := (64, [some (.ref (t)), some (.int (Int32.ofNat N)), some (.int (Int32.ofNat ((120 - n) - 1))), some (.int (Int32.ofNat 16)), some (.int (Int32.ofNat 0))], [.int (Int32.ofNat 0)], A)) rfl ?_
  refine wp_izT rfl rfl ((i32_eq (a := 0) (b := 0) (by omega) (by omega)).mpr (by omega)) ?_
  refine wp_st 1 (f' := (104, [some (.ref (t)), some (.int (Int32.ofNat N)), some (.int (Int32.ofNat ((120 - n) - 1))), some (.int ((Int32.ofNat 16) + (-8))), some (.int (Int32.ofNat 0))], [], A)) rfl ?_
  rw [show (Int32.ofNat 16) + (-8) = Int32.ofNat 8 from by decide]
  refine wp_st 2 (f' := (50, [some (.ref (t)), some (.int (Int32.ofNat N)), some (.int (Int32.ofNat ((120 - n) - 1))), some (.int (Int32.ofNat 8)), some (.int (Int32.ofNat 0))], [.int (Int32.ofNat 8)], A)) rfl ?_
  refine wp_izF rfl rfl (Int32.ofNat_not_neg (by omega)) ?_
  refine wp_st 5 (f' := (60, [some (.ref (t)), some (.int (Int32.ofNat N)), some (.int (Int32.ofNat ((120 - n) - 1))), some (.int (Int32.ofNat 8)), some (.int (Int32.ofNat 0))], [.int ((((Int32.ofNat N).toUInt32 >>> ((Int32.ofNat 8).toUInt32 &&& Int32.toUInt32 31)).toInt32) &&& (Int32.ofNat 255))], A)) rfl ?_
  rw [show (((Int32.ofNat N).toUInt32 >>> ((Int32.ofNat 8).toUInt32 &&& Int32.toUInt32 31)).toInt32) &&& (Int32.ofNat 255) = Int32.ofNat 0 from by rw [sb_ush (k := 8) (by omega), sb_by_n (by omega)]; first | done | (congr 1; omega)]
  refine wp_st 2 (f' := (64, [some (.ref (t)), some (.int (Int32.ofNat N)), some (.int (Int32.ofNat ((120 - n) - 1))), some (.int (Int32.ofNat 8)), some (.int (Int32.ofNat 0))], [.int (Int32.ofNat 0)], A)) rfl ?_
  refine wp_izT rfl rfl ((i32_eq (a := 0) (b := 0) (by omega) (by omega)).mpr (by omega)) ?_
  refine wp_st 1 (f' := (104, [some (.ref (t)), some (.int (Int32.ofNat N)), some (.int (Int32.ofNat ((120 - n) - 1))), some (.int ((Int32.ofNat 8) + (-8))), some (.int (Int32.ofNat 0))], [], A)) rfl ?_
  rw [show (Int32.ofNat 8) + (-8) = Int32.ofNat 0 from by decide]
  refine wp_st 2 (f' := (50, [some (.ref (t)), some (.int (Int32.ofNat N)), some (.int (Int32.ofNat ((120 - n) - 1))), some (.int (Int32.ofNat 0)), some (.int (Int32.ofNat 0))], [.int (Int32.ofNat 0)], A)) rfl ?_
  refine wp_izF rfl rfl (Int32.ofNat_not_neg (by omega)) ?_
  refine wp_st 5 (f' := (60, [some (.ref (t)), some (.int (Int32.ofNat N)), some (.int (Int32.ofNat ((120 - n) - 1))), some (.int (Int32.ofNat 0)), some (.int (Int32.ofNat 0))], [.int ((((Int32.ofNat N).toUInt32 >>> ((Int32.ofNat 0).toUInt32 &&& Int32.toUInt32 31)).toInt32) &&& (Int32.ofNat 255))], A)) rfl ?_
  rw [show (((Int32.ofNat N).toUInt32 >>> ((Int32.ofNat 0).toUInt32 &&& Int32.toUInt32 31)).toInt32) &&& (Int32.ofNat 255) = Int32.ofNat b1 from by rw [sb_ush (k := 0) (by omega), sb_by_n (by omega)]; first | done | (congr 1; omega)]
  refine wp_st 2 (f' := (64, [some (.ref (t)), some (.int (Int32.ofNat N)), some (.int (Int32.ofNat ((120 - n) - 1))), some (.int (Int32.ofNat 0)), some (.int (Int32.ofNat b1))], [.int (Int32.ofNat b1)], A)) rfl ?_
  refine wp_izF rfl rfl (fun q => absurd ((i32_eq (a := b1) (b := 0) (by omega) (by omega)).mp q) (by omega)) ?_
  refine wp_st 1 (f' := (68, [some (.ref (t)), some (.int (Int32.ofNat N)), some (.int (Int32.ofNat ((120 - n) - 1))), some (.int (Int32.ofNat 0)), some (.int (Int32.ofNat b1))], [.ref (t)], A)) rfl ?_
  refine wp_gf rfl rfl hT rfl rfl ?_
  refine wp_st 1 (f' := (72, [some (.ref (t)), some (.int (Int32.ofNat N)), some (.int (Int32.ofNat ((120 - n) - 1))), some (.int (Int32.ofNat 0)), some (.int (Int32.ofNat b1))], [.ref (t), .int (Int32.ofNat n)], A)) rfl ?_
  refine wp_gf rfl rfl hT rfl rfl ?_
  refine wp_ln rfl hC rfl rfl rfl ?_
  rw [show (cs.map sb_c).length = 120 from by simp [hl]]
  refine wp_ifF rfl rfl (fun q => absurd ((i32_le (a := 120) (b := n) (by omega) (by omega)).mp q) (by omega)) ?_
  refine wp_st 1 (f' := (80, [some (.ref (t)), some (.int (Int32.ofNat N)), some (.int (Int32.ofNat ((120 - n) - 1))), some (.int (Int32.ofNat 0)), some (.int (Int32.ofNat b1))], [.ref (t)], A)) rfl ?_
  refine wp_gf rfl rfl hT rfl rfl ?_
  refine wp_st 1 (f' := (84, [some (.ref (t)), some (.int (Int32.ofNat N)), some (.int (Int32.ofNat ((120 - n) - 1))), some (.int (Int32.ofNat 0)), some (.int (Int32.ofNat b1))], [.ref (t), .ref (t + 1)], A)) rfl ?_
  refine wp_gf rfl rfl hT rfl rfl ?_
  refine wp_st 2 (f' := (90, [some (.ref (t)), some (.int (Int32.ofNat N)), some (.int (Int32.ofNat ((120 - n) - 1))), some (.int (Int32.ofNat 0)), some (.int (Int32.ofNat b1))], [.int (((Int32.ofNat b1).toUInt32 % 65536).toInt32), .int (Int32.ofNat n), .ref (t + 1)], A)) rfl ?_
  rw [i32_i2c (b := b1) (by omega)]
  obtain ⟨A1, e2⟩ : ∃ B, B = A.set (t + 1) (102, (cs.set n b1).map sb_c) := ⟨_, rfl⟩
  refine wp_as (A' := A1) rfl (Or.inr (Or.inl ⟨rfl, rfl, rfl⟩)) hC (by omega) (by simp; omega) (decide_eq_true (by omega)) rfl (by rw [e2]; rw [sb_sc (by omega)]) ?_
  have g3 : A1[t]? = some (1, [.ref (t + 1), .int (Int32.ofNat n), .int (Int32.ofNat a), .int (f)]) := by rw [e2]; exact sb_so (by omega) hT
  have g4 : A1[t + 1]? = some (102, (cs.set n b1).map sb_c) := by rw [e2]; exact sb_ss hC
  have f5 : sb_fr A A1 t (t + 2) := (sb_fr.refl A t (t + 2)).set e2 hC (by simp) (by omega) (by omega)
  refine wp_st 2 (f' := (93, [some (.ref (t)), some (.int (Int32.ofNat N)), some (.int (Int32.ofNat ((120 - n) - 1))), some (.int (Int32.ofNat 0)), some (.int (Int32.ofNat b1))], [.ref (t), .ref (t)], A1)) rfl ?_
  refine wp_gf rfl rfl g3 rfl rfl ?_
  refine wp_st 2 (f' := (98, [some (.ref (t)), some (.int (Int32.ofNat N)), some (.int (Int32.ofNat ((120 - n) - 1))), some (.int (Int32.ofNat 0)), some (.int (Int32.ofNat b1))], [.int ((Int32.ofNat n) + (Int32.ofNat 1)), .ref (t)], A1)) rfl ?_
  rw [i32_add (n) (1)]
  obtain ⟨A6, e7⟩ : ∃ B, B = A1.set (t) (1, [.ref (t + 1), .int (Int32.ofNat (n + 1)), .int (Int32.ofNat a), .int (f)]) := ⟨_, rfl⟩
  refine wp_pf (A' := A6) rfl rfl g3 rfl rfl (decide_eq_true (by omega)) rfl e7.symm ?_
  have g8 : A6[t]? = some (1, [.ref (t + 1), .int (Int32.ofNat (n + 1)), .int (Int32.ofNat a), .int (f)]) := by rw [e7]; exact sb_ss g3
  have g9 : A6[t + 1]? = some (102, (cs.set n b1).map sb_c) := by rw [e7]; exact sb_so (by omega) g4
  have f10 : sb_fr A A6 t (t + 2) := f5.set e7 g3 (by simp) (by omega) (by omega)
  refine wp_st 1 (f' := (104, [some (.ref (t)), some (.int (Int32.ofNat N)), some (.int (Int32.ofNat ((120 - n) - 1))), some (.int ((Int32.ofNat 0) + (-8))), some (.int (Int32.ofNat b1))], [], A6)) rfl ?_
  rw [show (Int32.ofNat 0) + (-8) = (-8) from by decide]
  refine wp_st 2 (f' := (50, [some (.ref (t)), some (.int (Int32.ofNat N)), some (.int (Int32.ofNat ((120 - n) - 1))), some (.int ((-8))), some (.int (Int32.ofNat b1))], [.int ((-8))], A6)) rfl ?_
  refine wp_izT rfl rfl (show (-8 : Int32) < Int32.ofNat 0 from by decide) ?_
  refine wp_st 1 (f' := (108, [some (.ref (t)), some (.int (Int32.ofNat N)), some (.int (Int32.ofNat ((120 - n) - 1))), some (.int ((-8))), some (.int (Int32.ofNat b1))], [.int (Int32.ofNat 1)], A6)) rfl ?_
  refine wp_rt rfl rfl rfl ?_
  refine ⟨rfl, ⟨g8, g9, by simp [hl], by omega, ha, fun k => ?_, h45⟩, f10⟩
  exact sb_st1 hb (by omega) k
theorem i32_neg1m {R : Nat} (h : R < 1) : ¬ Int32.ofNat 0 ≤ (Int32.ofNat R) + (-1) := by
  have h1 : ∀ x : Fin 1, ¬ Int32.ofNat 0 ≤ (Int32.ofNat x.val) + (-1) := by decide +kernel
  exact h1 ⟨R, h⟩
theorem tx_apf1 {d t n a N b1 : Nat} {f : Int32} {cs : List Nat} {A : am_H} (hN : N = (0 * 256 + b1)) (hb1 : 32 ≤ b1 ∧ b1 ≤ 126) (hr : 120 < n + 1) (h : sb_T A t cs n a f) : am_go d 10 [.ref t, .int (Int32.ofNat N)] A (.inl (some (.int 0)), A) := by
  have hh := h
  have hNl : N < 2147483648 := by omega
  obtain ⟨hT, hC, hl, hn, ha, hb, h45⟩ := h
  unfold sb_tc at hT
  refine wp_go ?_
  refine wp_st 1 (f' := (1, [some (.ref (t)), some (.int (Int32.ofNat N)), none, none, none], [.ref (t)], A)) rfl ?_
  refine wp_gf rfl rfl hT rfl rfl ?_
  refine wp_ln rfl hC rfl rfl rfl ?_
  rw [show (cs.map sb_c).length = 120 from by simp [hl]]
  refine wp_st 1 (f' := (6, [some (.ref (t)), some (.int (Int32.ofNat N)), none, none, none], [.ref (t), .int (Int32.ofNat 120)], A)) rfl ?_
  refine wp_gf rfl rfl hT rfl rfl ?_
  refine wp_st 1 (f' := (10, [some (.ref (t)), some (.int (Int32.ofNat N)), none, none, none], [.int ((Int32.ofNat 120) - (Int32.ofNat n))], A)) rfl ?_
  rw [i32_sub (a := 120) (b := n) (by omega)]
  refine wp_st 6 (f' := (17, [some (.ref (t)), some (.int (Int32.ofNat N)), some (.int (Int32.ofNat (120 - n))), some (.int (Int32.ofNat N)), some (.int (Int32.ofNat 0))], [.int (Int32.ofNat N)], A)) rfl ?_
  refine wp_izF rfl rfl (fun q => absurd ((i32_eq (a := N) (b := 0) (by omega) (by omega)).mp q) (by omega)) ?_
  refine wp_st 2 (f' := (23, [some (.ref (t)), some (.int (Int32.ofNat N)), some (.int (Int32.ofNat (120 - n))), some (.int (Int32.ofNat N)), some (.int (Int32.ofNat 0))], [.int (Int32.ofNat 4), .int (Int32.ofNat 0)], A)) rfl ?_
  refine wp_ifF rfl rfl (fun q => absurd ((i32_le (a := 4) (b := 0) (by omega) (by omega)).mp q) (by omega)) ?_
  refine wp_st 4 (f' := (33, [some (.ref (t)), some (.int (Int32.ofNat N)), some (.int ((Int32.ofNat (120 - n)) + (-1))), some (.int (Int32.ofNat N)), some (.int (Int32.ofNat 0))], [.int (((Int32.ofNat N).toUInt32 >>> ((Int32.ofNat 8).toUInt32 &&& Int32.toUInt32 31)).toInt32)], A)) rfl ?_
  rw [show ((Int32.ofNat N).toUInt32 >>> ((Int32.ofNat 8).toUInt32 &&& Int32.toUInt32 31)).toInt32 = Int32.ofNat (N / 256) from by rw [i32_ush8 (by omega)]; first | done | (congr 1; omega)]
  refine wp_st 2 (f' := (37, [some (.ref (t)), some (.int (Int32.ofNat N)), some (.int ((Int32.ofNat (120 - n)) + (-1))), some (.int (Int32.ofNat (N / 256))), some (.int ((Int32.ofNat 0) + (Int32.ofNat 1)))], [], A)) rfl ?_
  rw [i32_add (0) (1)]
  refine wp_st 2 (f' := (17, [some (.ref (t)), some (.int (Int32.ofNat N)), some (.int ((Int32.ofNat (120 - n)) + (-1))), some (.int (Int32.ofNat (N / 256))), some (.int (Int32.ofNat (0 + 1)))], [.int (Int32.ofNat (N / 256))], A)) rfl ?_
  refine wp_izT rfl rfl ((i32_eq (a := N / 256) (b := 0) (by omega) (by omega)).mpr (by omega)) ?_
  refine wp_st 1 (f' := (41, [some (.ref (t)), some (.int (Int32.ofNat N)), some (.int ((Int32.ofNat (120 - n)) + (-1))), some (.int (Int32.ofNat (N / 256))), some (.int (Int32.ofNat (0 + 1)))], [.int ((Int32.ofNat (120 - n)) + (-1))], A)) rfl ?_
  refine wp_izF rfl rfl (i32_neg1m (by omega)) ?_
  refine wp_st 1 (f' := (45, [some (.ref (t)), some (.int (Int32.ofNat N)), some (.int ((Int32.ofNat (120 - n)) + (-1))), some (.int (Int32.ofNat (N / 256))), some (.int (Int32.ofNat (0 + 1)))], [.int (Int32.ofNat 0)], A)) rfl ?_
  refine wp_rt rfl rfl rfl ?_
  rfl
theorem sb_st2 {cs : List Nat} {p1 p2 b1 b2 : Nat} (h : ∀ k, cs.getD k 0 < 128) (hb1 : b1 < 128) (hb2 : b2 < 128) (k : Nat) : (((cs).set p1 b1).set p2 b2).getD k 0 < 128 := by
  repeat (rw [sb_gset]; split; omega)
  exact h k
theorem tx_app2 {d t n a N b1 b2 : Nat} {f : Int32} {cs : List Nat} {A : am_H} (hN : N = ((0 * 256 + b1) * 256 + b2)) (hb1 : 32 ≤ b1 ∧ b1 ≤ 126) (hb2 : 32 ≤ b2 ∧ b2 ≤ 126) (hr : n + 2 ≤ 120) (h : sb_T A t cs n a f) : ∃ B, am_go d 10 [.ref t, .int (Int32.ofNat N)] A (.inl (some (.int 1)), B) ∧ sb_T B t (((cs).set (n) b1).set (n + 1) b2) (n + 1 + 1) a f ∧ sb_fr A B t (t + 2) := by
  have hh := h
  have hNl : N < 2147483648 := by omega
  obtain ⟨hT, hC, hl, hn, ha, hb, h45⟩ := h
  unfold sb_tc at hT
  refine wp_goE ?_
  refine wp_st 1 (f' := (1, [some (.ref (t)), some (.int (Int32.ofNat N)), none, none, none], [.ref (t)], A)) rfl ?_
  refine wp_gf rfl rfl hT rfl rfl ?_
  refine wp_ln rfl hC rfl rfl rfl ?_
  rw [show (cs.map sb_c).length = 120 from by simp [hl]]
  refine wp_st 1 (f' := (6, [some (.ref (t)), some (.int (Int32.ofNat N)), none, none, none], [.ref (t), .int (Int32.ofNat 120)], A)) rfl ?_
  refine wp_gf rfl rfl hT rfl rfl ?_
  refine wp_st 1 (f' := (10, [some (.ref (t)), some (.int (Int32.ofNat N)), none, none, none], [.int ((Int32.ofNat 120) - (Int32.ofNat n))], A)) rfl ?_
  rw [i32_sub (a := 120) (b := n) (by omega)]
  refine wp_st 6 (f' := (17, [some (.ref (t)), some (.int (Int32.ofNat N)), some (.int (Int32.ofNat (120 - n))), some (.int (Int32.ofNat N)), some (.int (Int32.ofNat 0))], [.int (Int32.ofNat N)], A)) rfl ?_
  refine wp_izF rfl rfl (fun q => absurd ((i32_eq (a := N) (b := 0) (by omega) (by omega)).mp q) (by omega)) ?_
  refine wp_st 2 (f' := (23, [some (.ref (t)), some (.int (Int32.ofNat N)), some (.int (Int32.ofNat (120 - n))), some (.int (Int32.ofNat N)), some (.int (Int32.ofNat 0))], [.int (Int32.ofNat 4), .int (Int32.ofNat 0)], A)) rfl ?_
  refine wp_ifF rfl rfl (fun q => absurd ((i32_le (a := 4) (b := 0) (by omega) (by omega)).mp q) (by omega)) ?_
  refine wp_st 1 (f' := (29, [some (.ref (t)), some (.int (Int32.ofNat N)), some (.int ((Int32.ofNat (120 - n)) + (-1))), some (.int (Int32.ofNat N)), some (.int (Int32.ofNat 0))], [], A)) rfl ?_
  rw [i32_m1 (a := 120 - n) (by omega)]
  refine wp_st 3 (f' := (33, [some (.ref (t)), some (.int (Int32.ofNat N)), some (.int (Int32.ofNat ((120 - n) - 1))), some (.int (Int32.ofNat N)), some (.int (Int32.ofNat 0))], [.int (((Int32.ofNat N).toUInt32 >>> ((Int32.ofNat 8).toUInt32 &&& Int32.toUInt32 31)).toInt32)], A)) rfl ?_
  rw [show ((Int32.ofNat N).toUInt32 >>> ((Int32.ofNat 8).toUInt32 &&& Int32.toUInt32 31)).toInt32 = Int32.ofNat (N / 256) from by rw [i32_ush8 (by omega)]; first | done | (congr 1; omega)]
  refine wp_st 2 (f' := (37, [some (.ref (t)), some (.int (Int32.ofNat N)), some (.int (Int32.ofNat ((120 - n) - 1))), some (.int (Int32.ofNat (N / 256))), some (.int ((Int32.ofNat 0) + (Int32.ofNat 1)))], [], A)) rfl ?_
  rw [i32_add (0) (1)]
  refine wp_st 2 (f' := (17, [some (.ref (t)), some (.int (Int32.ofNat N)), some (.int (Int32.ofNat ((120 - n) - 1))), some (.int (Int32.ofNat (N / 256))), some (.int (Int32.ofNat (0 + 1)))], [.int (Int32.ofNat (N / 256))], A)) rfl ?_
  refine wp_izF rfl rfl (fun q => absurd ((i32_eq (a := N / 256) (b := 0) (by omega) (by omega)).mp q) (by omega)) ?_
  refine wp_st 2 (f' := (23, [some (.ref (t)), some (.int (Int32.ofNat N)), some (.int (Int32.ofNat ((120 - n) - 1))), some (.int (Int32.ofNat (N / 256))), some (.int (Int32.ofNat (0 + 1)))], [.int (Int32.ofNat 4), .int (Int32.ofNat (0 + 1))], A)) rfl ?_
  refine wp_ifF rfl rfl (fun q => absurd ((i32_le (a := 4) (b := 0 + 1) (by omega) (by omega)).mp q) (by omega)) ?_
  refine wp_st 1 (f' := (29, [some (.ref (t)), some (.int (Int32.ofNat N)), some (.int ((Int32.ofNat ((120 - n) - 1)) + (-1))), some (.int (Int32.ofNat (N / 256))), some (.int (Int32.ofNat (0 + 1)))], [], A)) rfl ?_
  rw [i32_m1 (a := (120 - n) - 1) (by omega)]
  refine wp_st 3 (f' := (33, [some (.ref (t)), some (.int (Int32.ofNat N)), some (.int (Int32.ofNat (((120 - n) - 1) - 1))), some (.int (Int32.ofNat (N / 256))), some (.int (Int32.ofNat (0 + 1)))], [.int (((Int32.ofNat (N / 256)).toUInt32 >>> ((Int32.ofNat 8).toUInt32 &&& Int32.toUInt32 31)).toInt32)], A)) rfl ?_
  rw [show ((Int32.ofNat (N / 256)).toUInt32 >>> ((Int32.ofNat 8).toUInt32 &&& Int32.toUInt32 31)).toInt32 = Int32.ofNat (N / 65536) from by rw [i32_ush8 (by omega)]; first | done | (congr 1; omega)]
  refine wp_st 2 (f' := (37, [some (.ref (t)), some (.int (Int32.ofNat N)), some (.int (Int32.ofNat (((120 - n) - 1) - 1))), some (.int (Int32.ofNat (N / 65536))), some (.int ((Int32.ofNat (0 + 1)) + (Int32.ofNat 1)))], [], A)) rfl ?_
  rw [i32_add (0 + 1) (1)]
  refine wp_st 2 (f' := (17, [some (.ref (t)), some (.int (Int32.ofNat N)), some (.int (Int32.ofNat (((120 - n) - 1) - 1))), some (.int (Int32.ofNat (N / 65536))), some (.int (Int32.ofNat (0 + 1 + 1)))], [.int (Int32.ofNat (N / 65536))], A)) rfl ?_
  refine wp_izT rfl rfl ((i32_eq (a := N / 65536) (b := 0) (by omega) (by omega)).mpr (by omega)) ?_
  refine wp_st 1 (f' := (41, [some (.ref (t)), some (.int (Int32.ofNat N)), some (.int (Int32.ofNat (((120 - n) - 1) - 1))), some (.int (Int32.ofNat (N / 65536))), some (.int (Int32.ofNat (0 + 1 + 1)))], [.int (Int32.ofNat (((120 - n) - 1) - 1))], A)) rfl ?_
  refine wp_izT rfl rfl ((i32_le (a := 0) (b := ((120 - n) - 1) - 1) (by omega) (by omega)).mpr (by omega)) ?_
  refine wp_st 3 (f' := (50, [some (.ref (t)), some (.int (Int32.ofNat N)), some (.int (Int32.ofNat (((120 - n) - 1) - 1))), some (.int (Int32.ofNat 24)), some (.int (Int32.ofNat (0 + 1 + 1)))], [.int (Int32.ofNat 24)], A)) rfl ?_
  refine wp_izF rfl rfl (Int32.ofNat_not_neg (by omega)) ?_
  refine wp_st 5 (f' := (60, [some (.ref (t)), some (.int (Int32.ofNat N)), some (.int (Int32.ofNat (((120 - n) - 1) - 1))), some (.int (Int32.ofNat 24)), some (.int (Int32.ofNat (0 + 1 + 1)))], [.int ((((Int32.ofNat N).toUInt32 >>> ((Int32.ofNat 24).toUInt32 &&& Int32.toUInt32 31)).toInt32) &&& (Int32.ofNat 255))], A)) rfl ?_
  rw [show (((Int32.ofNat N).toUInt32 >>> ((Int32.ofNat 24).toUInt32 &&& Int32.toUInt32 31)).toInt32) &&& (Int32.ofNat 255) = Int32.ofNat 0 from by rw [sb_ush (k := 24) (by omega), sb_by_n (by omega)]; first | done | (congr 1; omega)]
  refine wp_st 2 (f' := (64, [some (.ref (t)), some (.int (Int32.ofNat N)), some (.int (Int32.ofNat (((120 - n) - 1) - 1))), some (.int (Int32.ofNat 24)), some (.int (Int32.ofNat 0))], [.int (Int32.ofNat 0)], A)) rfl ?_
  refine wp_izT rfl rfl ((i32_eq (a := 0) (b := 0) (by omega) (by omega)).mpr (by omega)) ?_
  refine wp_st 1 (f' := (104, [some (.ref (t)), some (.int (Int32.ofNat N)), some (.int (Int32.ofNat (((120 - n) - 1) - 1))), some (.int ((Int32.ofNat 24) + (-8))), some (.int (Int32.ofNat 0))], [], A)) rfl ?_
  rw [show (Int32.ofNat 24) + (-8) = Int32.ofNat 16 from by decide]
  refine wp_st 2 (f' := (50, [some (.ref (t)), some (.int (Int32.ofNat N)), some (.int (Int32.ofNat (((120 - n) - 1) - 1))), some (.int (Int32.ofNat 16)), some (.int (Int32.ofNat 0))], [.int (Int32.ofNat 16)], A)) rfl ?_
  refine wp_izF rfl rfl (Int32.ofNat_not_neg (by omega)) ?_
  refine wp_st 5 (f' := (60, [some (.ref (t)), some (.int (Int32.ofNat N)), some (.int (Int32.ofNat (((120 - n) - 1) - 1))), some (.int (Int32.ofNat 16)), some (.int (Int32.ofNat 0))], [.int ((((Int32.ofNat N).toUInt32 >>> ((Int32.ofNat 16).toUInt32 &&& Int32.toUInt32 31)).toInt32) &&& (Int32.ofNat 255))], A)) rfl ?_
  rw [show (((Int32.ofNat N).toUInt32 >>> ((Int32.ofNat 16).toUInt32 &&& Int32.toUInt32 31)).toInt32) &&& (Int32.ofNat 255) = Int32.ofNat 0 from by rw [sb_ush (k := 16) (by omega), sb_by_n (by omega)]; first | done | (congr 1; omega)]
  refine wp_st 2 (f' := (64, [some (.ref (t)), some (.int (Int32.ofNat N)), some (.int (Int32.ofNat (((120 - n) - 1) - 1))), some (.int (Int32.ofNat 16)), some (.int (Int32.ofNat 0))], [.int (Int32.ofNat 0)], A)) rfl ?_
  refine wp_izT rfl rfl ((i32_eq (a := 0) (b := 0) (by omega) (by omega)).mpr (by omega)) ?_
  refine wp_st 1 (f' := (104, [some (.ref (t)), some (.int (Int32.ofNat N)), some (.int (Int32.ofNat (((120 - n) - 1) - 1))), some (.int ((Int32.ofNat 16) + (-8))), some (.int (Int32.ofNat 0))], [], A)) rfl ?_
  rw [show (Int32.ofNat 16) + (-8) = Int32.ofNat 8 from by decide]
  refine wp_st 2 (f' := (50, [some (.ref (t)), some (.int (Int32.ofNat N)), some (.int (Int32.ofNat (((120 - n) - 1) - 1))), some (.int (Int32.ofNat 8)), some (.int (Int32.ofNat 0))], [.int (Int32.ofNat 8)], A)) rfl ?_
  refine wp_izF rfl rfl (Int32.ofNat_not_neg (by omega)) ?_
  refine wp_st 5 (f' := (60, [some (.ref (t)), some (.int (Int32.ofNat N)), some (.int (Int32.ofNat (((120 - n) - 1) - 1))), some (.int (Int32.ofNat 8)), some (.int (Int32.ofNat 0))], [.int ((((Int32.ofNat N).toUInt32 >>> ((Int32.ofNat 8).toUInt32 &&& Int32.toUInt32 31)).toInt32) &&& (Int32.ofNat 255))], A)) rfl ?_
  rw [show (((Int32.ofNat N).toUInt32 >>> ((Int32.ofNat 8).toUInt32 &&& Int32.toUInt32 31)).toInt32) &&& (Int32.ofNat 255) = Int32.ofNat b1 from by rw [sb_ush (k := 8) (by omega), sb_by_n (by omega)]; first | done | (congr 1; omega)]
  refine wp_st 2 (f' := (64, [some (.ref (t)), some (.int (Int32.ofNat N)), some (.int (Int32.ofNat (((120 - n) - 1) - 1))), some (.int (Int32.ofNat 8)), some (.int (Int32.ofNat b1))], [.int (Int32.ofNat b1)], A)) rfl ?_
  refine wp_izF rfl rfl (fun q => absurd ((i32_eq (a := b1) (b := 0) (by omega) (by omega)).mp q) (by omega)) ?_
  refine wp_st 1 (f' := (68, [some (.ref (t)), some (.int (Int32.ofNat N)), some (.int (Int32.ofNat (((120 - n) - 1) - 1))), some (.int (Int32.ofNat 8)), some (.int (Int32.ofNat b1))], [.ref (t)], A)) rfl ?_
  refine wp_gf rfl rfl hT rfl rfl ?_
  refine wp_st 1 (f' := (72, [some (.ref (t)), some (.int (Int32.ofNat N)), some (.int (Int32.ofNat (((120 - n) - 1) - 1))), some (.int (Int32.ofNat 8)), some (.int (Int32.ofNat b1))], [.ref (t), .int (Int32.ofNat n)], A)) rfl ?_
  refine wp_gf rfl rfl hT rfl rfl ?_
  refine wp_ln rfl hC rfl rfl rfl ?_
  rw [show (cs.map sb_c).length = 120 from by simp [hl]]
  refine wp_ifF rfl rfl (fun q => absurd ((i32_le (a := 120) (b := n) (by omega) (by omega)).mp q) (by omega)) ?_
  refine wp_st 1 (f' := (80, [some (.ref (t)), some (.int (Int32.ofNat N)), some (.int (Int32.ofNat (((120 - n) - 1) - 1))), some (.int (Int32.ofNat 8)), some (.int (Int32.ofNat b1))], [.ref (t)], A)) rfl ?_
  refine wp_gf rfl rfl hT rfl rfl ?_
  refine wp_st 1 (f' := (84, [some (.ref (t)), some (.int (Int32.ofNat N)), some (.int (Int32.ofNat (((120 - n) - 1) - 1))), some (.int (Int32.ofNat 8)), some (.int (Int32.ofNat b1))], [.ref (t), .ref (t + 1)], A)) rfl ?_
  refine wp_gf rfl rfl hT rfl rfl ?_
  refine wp_st 2 (f' := (90, [some (.ref (t)), some (.int (Int32.ofNat N)), some (.int (Int32.ofNat (((120 - n) - 1) - 1))), some (.int (Int32.ofNat 8)), some (.int (Int32.ofNat b1))], [.int (((Int32.ofNat b1).toUInt32 % 65536).toInt32), .int (Int32.ofNat n), .ref (t + 1)], A)) rfl ?_
  rw [i32_i2c (b := b1) (by omega)]
  obtain ⟨A1, e2⟩ : ∃ B, B = A.set (t + 1) (102, (cs.set n b1).map sb_c) := ⟨_, rfl⟩
  refine wp_as (A' := A1) rfl (Or.inr (Or.inl ⟨rfl, rfl, rfl⟩)) hC (by omega) (by simp; omega) (decide_eq_true (by omega)) rfl (by rw [e2]; rw [sb_sc (by omega)]) ?_
  have g3 : A1[t]? = some (1, [.ref (t + 1), .int (Int32.ofNat n), .int (Int32.ofNat a), .int (f)]) := by rw [e2]; exact sb_so (by omega) hT
  have g4 : A1[t + 1]? = some (102, (cs.set n b1).map sb_c) := by rw [e2]; exact sb_ss hC
  have f5 : sb_fr A A1 t (t + 2) := (sb_fr.refl A t (t + 2)).set e2 hC (by simp) (by omega) (by omega)
  refine wp_st 2 (f' := (93, [some (.ref (t)), some (.int (Int32.ofNat N)), some (.int (Int32.ofNat (((120 - n) - 1) - 1))), some (.int (Int32.ofNat 8)), some (.int (Int32.ofNat b1))], [.ref (t), .ref (t)], A1)) rfl ?_
  refine wp_gf rfl rfl g3 rfl rfl ?_
  refine wp_st 2 (f' := (98, [some (.ref (t)), some (.int (Int32.ofNat N)), some (.int (Int32.ofNat (((120 - n) - 1) - 1))), some (.int (Int32.ofNat 8)), some (.int (Int32.ofNat b1))], [.int ((Int32.ofNat n) + (Int32.ofNat 1)), .ref (t)], A1)) rfl ?_
  rw [i32_add (n) (1)]
  obtain ⟨A6, e7⟩ : ∃ B, B = A1.set (t) (1, [.ref (t + 1), .int (Int32.ofNat (n + 1)), .int (Int32.ofNat a), .int (f)]) := ⟨_, rfl⟩
  refine wp_pf (A' := A6) rfl rfl g3 rfl rfl (decide_eq_true (by omega)) rfl e7.symm ?_
  have g8 : A6[t]? = some (1, [.ref (t + 1), .int (Int32.ofNat (n + 1)), .int (Int32.ofNat a), .int (f)]) := by rw [e7]; exact sb_ss g3
  have g9 : A6[t + 1]? = some (102, (cs.set n b1).map sb_c) := by rw [e7]; exact sb_so (by omega) g4
  have f10 : sb_fr A A6 t (t + 2) := f5.set e7 g3 (by simp) (by omega) (by omega)
  refine wp_st 1 (f' := (104, [some (.ref (t)), some (.int (Int32.ofNat N)), some (.int (Int32.ofNat (((120 - n) - 1) - 1))), some (.int ((Int32.ofNat 8) + (-8))), some (.int (Int32.ofNat b1))], [], A6)) rfl ?_
  rw [show (Int32.ofNat 8) + (-8) = Int32.ofNat 0 from by decide]
  refine wp_st 2 (f' := (50, [some (.ref (t)), some (.int (Int32.ofNat N)), some (.int (Int32.ofNat (((120 - n) - 1) - 1))), some (.int (Int32.ofNat 0)), some (.int (Int32.ofNat b1))], [.int (Int32.ofNat 0)], A6)) rfl ?_
  refine wp_izF rfl rfl (Int32.ofNat_not_neg (by omega)) ?_
  refine wp_st 5 (f' := (60, [some (.ref (t)), some (.int (Int32.ofNat N)), some (.int (Int32.ofNat (((120 - n) - 1) - 1))), some (.int (Int32.ofNat 0)), some (.int (Int32.ofNat b1))], [.int ((((Int32.ofNat N).toUInt32 >>> ((Int32.ofNat 0).toUInt32 &&& Int32.toUInt32 31)).toInt32) &&& (Int32.ofNat 255))], A6)) rfl ?_
  rw [show (((Int32.ofNat N).toUInt32 >>> ((Int32.ofNat 0).toUInt32 &&& Int32.toUInt32 31)).toInt32) &&& (Int32.ofNat 255) = Int32.ofNat b2 from by rw [sb_ush (k := 0) (by omega), sb_by_n (by omega)]; first | done | (congr 1; omega)]
  refine wp_st 2 (f' := (64, [some (.ref (t)), some (.int (Int32.ofNat N)), some (.int (Int32.ofNat (((120 - n) - 1) - 1))), some (.int (Int32.ofNat 0)), some (.int (Int32.ofNat b2))], [.int (Int32.ofNat b2)], A6)) rfl ?_
  refine wp_izF rfl rfl (fun q => absurd ((i32_eq (a := b2) (b := 0) (by omega) (by omega)).mp q) (by omega)) ?_
  refine wp_st 1 (f' := (68, [some (.ref (t)), some (.int (Int32.ofNat N)), some (.int (Int32.ofNat (((120 - n) - 1) - 1))), some (.int (Int32.ofNat 0)), some (.int (Int32.ofNat b2))], [.ref (t)], A6)) rfl ?_
  refine wp_gf rfl rfl g8 rfl rfl ?_
  refine wp_st 1 (f' := (72, [some (.ref (t)), some (.int (Int32.ofNat N)), some (.int (Int32.ofNat (((120 - n) - 1) - 1))), some (.int (Int32.ofNat 0)), some (.int (Int32.ofNat b2))], [.ref (t), .int (Int32.ofNat (n + 1))], A6)) rfl ?_
  refine wp_gf rfl rfl g8 rfl rfl ?_
  refine wp_ln rfl g9 rfl rfl rfl ?_
  rw [show ((cs.set n b1).map sb_c).length = 120 from by simp [hl]]
  refine wp_ifF rfl rfl (fun q => absurd ((i32_le (a := 120) (b := n + 1) (by omega) (by omega)).mp q) (by omega)) ?_
  refine wp_st 1 (f' := (80, [some (.ref (t)), some (.int (Int32.ofNat N)), some (.int (Int32.ofNat (((120 - n) - 1) - 1))), some (.int (Int32.ofNat 0)), some (.int (Int32.ofNat b2))], [.ref (t)], A6)) rfl ?_
  refine wp_gf rfl rfl g8 rfl rfl ?_
  refine wp_st 1 (f' := (84, [some (.ref (t)), some (.int (Int32.ofNat N)), some (.int (Int32.ofNat (((120 - n) - 1) - 1))), some (.int (Int32.ofNat 0)), some (.int (Int32.ofNat b2))], [.ref (t), .ref (t + 1)], A6)) rfl ?_
  refine wp_gf rfl rfl g8 rfl rfl ?_
  refine wp_st 2 (f' := (90, [some (.ref (t)), some (.int (Int32.ofNat N)), some (.int (Int32.ofNat (((120 - n) - 1) - 1))), some (.int (Int32.ofNat 0)), some (.int (Int32.ofNat b2))], [.int (((Int32.ofNat b2).toUInt32 % 65536).toInt32), .int (Int32.ofNat (n + 1)), .ref (t + 1)], A6)) rfl ?_
  rw [i32_i2c (b := b2) (by omega)]
  obtain ⟨A11, e12⟩ : ∃ B, B = A6.set (t + 1) (102, ((cs.set n b1).set (n + 1) b2).map sb_c) := ⟨_, rfl⟩
  refine wp_as (A' := A11) rfl (Or.inr (Or.inl ⟨rfl, rfl, rfl⟩)) g9 (by omega) (by simp; omega) (decide_eq_true (by omega)) rfl (by rw [e12]; rw [sb_sc (by omega)]) ?_
  have g13 : A11[t]? = some (1, [.ref (t + 1), .int (Int32.ofNat (n + 1)), .int (Int32.ofNat a), .int (f)]) := by rw [e12]; exact sb_so (by omega) g8
  have g14 : A11[t + 1]? = some (102, ((cs.set n b1).set (n + 1) b2).map sb_c) := by rw [e12]; exact sb_ss g9
  have f15 : sb_fr A A11 t (t + 2) := f10.set e12 g9 (by simp) (by omega) (by omega)
  refine wp_st 2 (f' := (93, [some (.ref (t)), some (.int (Int32.ofNat N)), some (.int (Int32.ofNat (((120 - n) - 1) - 1))), some (.int (Int32.ofNat 0)), some (.int (Int32.ofNat b2))], [.ref (t), .ref (t)], A11)) rfl ?_
  refine wp_gf rfl rfl g13 rfl rfl ?_
  refine wp_st 2 (f' := (98, [some (.ref (t)), some (.int (Int32.ofNat N)), some (.int (Int32.ofNat (((120 - n) - 1) - 1))), some (.int (Int32.ofNat 0)), some (.int (Int32.ofNat b2))], [.int ((Int32.ofNat (n + 1)) + (Int32.ofNat 1)), .ref (t)], A11)) rfl ?_
  rw [i32_add (n + 1) (1)]
  obtain ⟨A16, e17⟩ : ∃ B, B = A11.set (t) (1, [.ref (t + 1), .int (Int32.ofNat (n + 1 + 1)), .int (Int32.ofNat a), .int (f)]) := ⟨_, rfl⟩
  refine wp_pf (A' := A16) rfl rfl g13 rfl rfl (decide_eq_true (by omega)) rfl e17.symm ?_
  have g18 : A16[t]? = some (1, [.ref (t + 1), .int (Int32.ofNat (n + 1 + 1)), .int (Int32.ofNat a), .int (f)]) := by rw [e17]; exact sb_ss g13
  have g19 : A16[t + 1]? = some (102, ((cs.set n b1).set (n + 1) b2).map sb_c) := by rw [e17]; exact sb_so (by omega) g14
  have f20 : sb_fr A A16 t (t + 2) := f15.set e17 g13 (by simp) (by omega) (by omega)
  refine wp_st 1 (f' := (104, [some (.ref (t)), some (.int (Int32.ofNat N)), some (.int (Int32.ofNat (((120 - n) - 1) - 1))), some (.int ((Int32.ofNat 0) + (-8))), some (.int (Int32.ofNat b2))], [], A16)) rfl ?_
  rw [show (Int32.ofNat 0) + (-8) = (-8) from by decide]
  refine wp_st 2 (f' := (50, [some (.ref (t)), some (.int (Int32.ofNat N)), some (.int (Int32.ofNat (((120 - n) - 1) - 1))), some (.int ((-8))), some (.int (Int32.ofNat b2))], [.int ((-8))], A16)) rfl ?_
  refine wp_izT rfl rfl (show (-8 : Int32) < Int32.ofNat 0 from by decide) ?_
  refine wp_st 1 (f' := (108, [some (.ref (t)), some (.int (Int32.ofNat N)), some (.int (Int32.ofNat (((120 - n) - 1) - 1))), some (.int ((-8))), some (.int (Int32.ofNat b2))], [.int (Int32.ofNat 1)], A16)) rfl ?_
  refine wp_rt rfl rfl rfl ?_
  refine ⟨rfl, ⟨g18, g19, by simp [hl], by omega, ha, fun k => ?_, h45⟩, f20⟩
  exact sb_st2 hb (by omega) (by omega) k
theorem i32_neg2m {R : Nat} (h : R < 2) : ¬ Int32.ofNat 0 ≤ ((Int32.ofNat R) + (-1)) + (-1) := by
  have h1 : ∀ x : Fin 2, ¬ Int32.ofNat 0 ≤ ((Int32.ofNat x.val) + (-1)) + (-1) := by decide +kernel
  exact h1 ⟨R, h⟩
theorem tx_apf2 {d t n a N b1 b2 : Nat} {f : Int32} {cs : List Nat} {A : am_H} (hN : N = ((0 * 256 + b1) * 256 + b2)) (hb1 : 32 ≤ b1 ∧ b1 ≤ 126) (hb2 : 32 ≤ b2 ∧ b2 ≤ 126) (hr : 120 < n + 2) (h : sb_T A t cs n a f) : am_go d 10 [.ref t, .int (Int32.ofNat N)] A (.inl (some (.int 0)), A) := by
  have hh := h
  have hNl : N < 2147483648 := by omega
  obtain ⟨hT, hC, hl, hn, ha, hb, h45⟩ := h
  unfold sb_tc at hT
  refine wp_go ?_
  refine wp_st 1 (f' := (1, [some (.ref (t)), some (.int (Int32.ofNat N)), none, none, none], [.ref (t)], A)) rfl ?_
  refine wp_gf rfl rfl hT rfl rfl ?_
  refine wp_ln rfl hC rfl rfl rfl ?_
  rw [show (cs.map sb_c).length = 120 from by simp [hl]]
  refine wp_st 1 (f' := (6, [some (.ref (t)), some (.int (Int32.ofNat N)), none, none, none], [.ref (t), .int (Int32.ofNat 120)], A)) rfl ?_
  refine wp_gf rfl rfl hT rfl rfl ?_
  refine wp_st 1 (f' := (10, [some (.ref (t)), some (.int (Int32.ofNat N)), none, none, none], [.int ((Int32.ofNat 120) - (Int32.ofNat n))], A)) rfl ?_
  rw [i32_sub (a := 120) (b := n) (by omega)]
  refine wp_st 6 (f' := (17, [some (.ref (t)), some (.int (Int32.ofNat N)), some (.int (Int32.ofNat (120 - n))), some (.int (Int32.ofNat N)), some (.int (Int32.ofNat 0))], [.int (Int32.ofNat N)], A)) rfl ?_
  refine wp_izF rfl rfl (fun q => absurd ((i32_eq (a := N) (b := 0) (by omega) (by omega)).mp q) (by omega)) ?_
  refine wp_st 2 (f' := (23, [some (.ref (t)), some (.int (Int32.ofNat N)), some (.int (Int32.ofNat (120 - n))), some (.int (Int32.ofNat N)), some (.int (Int32.ofNat 0))], [.int (Int32.ofNat 4), .int (Int32.ofNat 0)], A)) rfl ?_
  refine wp_ifF rfl rfl (fun q => absurd ((i32_le (a := 4) (b := 0) (by omega) (by omega)).mp q) (by omega)) ?_
  refine wp_st 4 (f' := (33, [some (.ref (t)), some (.int (Int32.ofNat N)), some (.int ((Int32.ofNat (120 - n)) + (-1))), some (.int (Int32.ofNat N)), some (.int (Int32.ofNat 0))], [.int (((Int32.ofNat N).toUInt32 >>> ((Int32.ofNat 8).toUInt32 &&& Int32.toUInt32 31)).toInt32)], A)) rfl ?_
  rw [show ((Int32.ofNat N).toUInt32 >>> ((Int32.ofNat 8).toUInt32 &&& Int32.toUInt32 31)).toInt32 = Int32.ofNat (N / 256) from by rw [i32_ush8 (by omega)]; first | done | (congr 1; omega)]
  refine wp_st 2 (f' := (37, [some (.ref (t)), some (.int (Int32.ofNat N)), some (.int ((Int32.ofNat (120 - n)) + (-1))), some (.int (Int32.ofNat (N / 256))), some (.int ((Int32.ofNat 0) + (Int32.ofNat 1)))], [], A)) rfl ?_
  rw [i32_add (0) (1)]
  refine wp_st 2 (f' := (17, [some (.ref (t)), some (.int (Int32.ofNat N)), some (.int ((Int32.ofNat (120 - n)) + (-1))), some (.int (Int32.ofNat (N / 256))), some (.int (Int32.ofNat (0 + 1)))], [.int (Int32.ofNat (N / 256))], A)) rfl ?_
  refine wp_izF rfl rfl (fun q => absurd ((i32_eq (a := N / 256) (b := 0) (by omega) (by omega)).mp q) (by omega)) ?_
  refine wp_st 2 (f' := (23, [some (.ref (t)), some (.int (Int32.ofNat N)), some (.int ((Int32.ofNat (120 - n)) + (-1))), some (.int (Int32.ofNat (N / 256))), some (.int (Int32.ofNat (0 + 1)))], [.int (Int32.ofNat 4), .int (Int32.ofNat (0 + 1))], A)) rfl ?_
  refine wp_ifF rfl rfl (fun q => absurd ((i32_le (a := 4) (b := 0 + 1) (by omega) (by omega)).mp q) (by omega)) ?_
  refine wp_st 4 (f' := (33, [some (.ref (t)), some (.int (Int32.ofNat N)), some (.int (((Int32.ofNat (120 - n)) + (-1)) + (-1))), some (.int (Int32.ofNat (N / 256))), some (.int (Int32.ofNat (0 + 1)))], [.int (((Int32.ofNat (N / 256)).toUInt32 >>> ((Int32.ofNat 8).toUInt32 &&& Int32.toUInt32 31)).toInt32)], A)) rfl ?_
  rw [show ((Int32.ofNat (N / 256)).toUInt32 >>> ((Int32.ofNat 8).toUInt32 &&& Int32.toUInt32 31)).toInt32 = Int32.ofNat (N / 65536) from by rw [i32_ush8 (by omega)]; first | done | (congr 1; omega)]
  refine wp_st 2 (f' := (37, [some (.ref (t)), some (.int (Int32.ofNat N)), some (.int (((Int32.ofNat (120 - n)) + (-1)) + (-1))), some (.int (Int32.ofNat (N / 65536))), some (.int ((Int32.ofNat (0 + 1)) + (Int32.ofNat 1)))], [], A)) rfl ?_
  rw [i32_add (0 + 1) (1)]
  refine wp_st 2 (f' := (17, [some (.ref (t)), some (.int (Int32.ofNat N)), some (.int (((Int32.ofNat (120 - n)) + (-1)) + (-1))), some (.int (Int32.ofNat (N / 65536))), some (.int (Int32.ofNat (0 + 1 + 1)))], [.int (Int32.ofNat (N / 65536))], A)) rfl ?_
  refine wp_izT rfl rfl ((i32_eq (a := N / 65536) (b := 0) (by omega) (by omega)).mpr (by omega)) ?_
  refine wp_st 1 (f' := (41, [some (.ref (t)), some (.int (Int32.ofNat N)), some (.int (((Int32.ofNat (120 - n)) + (-1)) + (-1))), some (.int (Int32.ofNat (N / 65536))), some (.int (Int32.ofNat (0 + 1 + 1)))], [.int (((Int32.ofNat (120 - n)) + (-1)) + (-1))], A)) rfl ?_
  refine wp_izF rfl rfl (i32_neg2m (by omega)) ?_
  refine wp_st 1 (f' := (45, [some (.ref (t)), some (.int (Int32.ofNat N)), some (.int (((Int32.ofNat (120 - n)) + (-1)) + (-1))), some (.int (Int32.ofNat (N / 65536))), some (.int (Int32.ofNat (0 + 1 + 1)))], [.int (Int32.ofNat 0)], A)) rfl ?_
  refine wp_rt rfl rfl rfl ?_
  rfl
theorem sb_st3 {cs : List Nat} {p1 p2 p3 b1 b2 b3 : Nat} (h : ∀ k, cs.getD k 0 < 128) (hb1 : b1 < 128) (hb2 : b2 < 128) (hb3 : b3 < 128) (k : Nat) : ((((cs).set p1 b1).set p2 b2).set p3 b3).getD k 0 < 128 := by
  repeat (rw [sb_gset]; split; omega)
  exact h k
theorem tx_app3 {d t n a N b1 b2 b3 : Nat} {f : Int32} {cs : List Nat} {A : am_H} (hN : N = (((0 * 256 + b1) * 256 + b2) * 256 + b3)) (hb1 : 32 ≤ b1 ∧ b1 ≤ 126) (hb2 : 32 ≤ b2 ∧ b2 ≤ 126) (hb3 : 32 ≤ b3 ∧ b3 ≤ 126) (hr : n + 3 ≤ 120) (h : sb_T A t cs n a f) : ∃ B, am_go d 10 [.ref t, .int (Int32.ofNat N)] A (.inl (some (.int 1)), B) ∧ sb_T B t ((((cs).set (n) b1).set (n + 1) b2).set (n + 1 + 1) b3) (n + 1 + 1 + 1) a f ∧ sb_fr A B t (t + 2) := by
  have hh := h
  have hNl : N < 2147483648 := by omega
  obtain ⟨hT, hC, hl, hn, ha, hb, h45⟩ := h
  unfold sb_tc at hT
  refine wp_goE ?_
  refine wp_st 1 (f' := (1, [some (.ref (t)), some (.int (Int32.ofNat N)), none, none, none], [.ref (t)], A)) rfl ?_
  refine wp_gf rfl rfl hT rfl rfl ?_
  refine wp_ln rfl hC rfl rfl rfl ?_
  rw [show (cs.map sb_c).length = 120 from by simp [hl]]
  refine wp_st 1 (f' := (6, [some (.ref (t)), some (.int (Int32.ofNat N)), none, none, none], [.ref (t), .int (Int32.ofNat 120)], A)) rfl ?_
  refine wp_gf rfl rfl hT rfl rfl ?_
  refine wp_st 1 (f' := (10, [some (.ref (t)), some (.int (Int32.ofNat N)), none, none, none], [.int ((Int32.ofNat 120) - (Int32.ofNat n))], A)) rfl ?_
  rw [i32_sub (a := 120) (b := n) (by omega)]
  refine wp_st 6 (f' := (17, [some (.ref (t)), some (.int (Int32.ofNat N)), some (.int (Int32.ofNat (120 - n))), some (.int (Int32.ofNat N)), some (.int (Int32.ofNat 0))], [.int (Int32.ofNat N)], A)) rfl ?_
  refine wp_izF rfl rfl (fun q => absurd ((i32_eq (a := N) (b := 0) (by omega) (by omega)).mp q) (by omega)) ?_
  refine wp_st 2 (f' := (23, [some (.ref (t)), some (.int (Int32.ofNat N)), some (.int (Int32.ofNat (120 - n))), some (.int (Int32.ofNat N)), some (.int (Int32.ofNat 0))], [.int (Int32.ofNat 4), .int (Int32.ofNat 0)], A)) rfl ?_
  refine wp_ifF rfl rfl (fun q => absurd ((i32_le (a := 4) (b := 0) (by omega) (by omega)).mp q) (by omega)) ?_
  refine wp_st 1 (f' := (29, [some (.ref (t)), some (.int (Int32.ofNat N)), some (.int ((Int32.ofNat (120 - n)) + (-1))), some (.int (Int32.ofNat N)), some (.int (Int32.ofNat 0))], [], A)) rfl ?_
  rw [i32_m1 (a := 120 - n) (by omega)]
  refine wp_st 3 (f' := (33, [some (.ref (t)), some (.int (Int32.ofNat N)), some (.int (Int32.ofNat ((120 - n) - 1))), some (.int (Int32.ofNat N)), some (.int (Int32.ofNat 0))], [.int (((Int32.ofNat N).toUInt32 >>> ((Int32.ofNat 8).toUInt32 &&& Int32.toUInt32 31)).toInt32)], A)) rfl ?_
  rw [show ((Int32.ofNat N).toUInt32 >>> ((Int32.ofNat 8).toUInt32 &&& Int32.toUInt32 31)).toInt32 = Int32.ofNat (N / 256) from by rw [i32_ush8 (by omega)]; first | done | (congr 1; omega)]
  refine wp_st 2 (f' := (37, [some (.ref (t)), some (.int (Int32.ofNat N)), some (.int (Int32.ofNat ((120 - n) - 1))), some (.int (Int32.ofNat (N / 256))), some (.int ((Int32.ofNat 0) + (Int32.ofNat 1)))], [], A)) rfl ?_
  rw [i32_add (0) (1)]
  refine wp_st 2 (f' := (17, [some (.ref (t)), some (.int (Int32.ofNat N)), some (.int (Int32.ofNat ((120 - n) - 1))), some (.int (Int32.ofNat (N / 256))), some (.int (Int32.ofNat (0 + 1)))], [.int (Int32.ofNat (N / 256))], A)) rfl ?_
  refine wp_izF rfl rfl (fun q => absurd ((i32_eq (a := N / 256) (b := 0) (by omega) (by omega)).mp q) (by omega)) ?_
  refine wp_st 2 (f' := (23, [some (.ref (t)), some (.int (Int32.ofNat N)), some (.int (Int32.ofNat ((120 - n) - 1))), some (.int (Int32.ofNat (N / 256))), some (.int (Int32.ofNat (0 + 1)))], [.int (Int32.ofNat 4), .int (Int32.ofNat (0 + 1))], A)) rfl ?_
  refine wp_ifF rfl rfl (fun q => absurd ((i32_le (a := 4) (b := 0 + 1) (by omega) (by omega)).mp q) (by omega)) ?_
  refine wp_st 1 (f' := (29, [some (.ref (t)), some (.int (Int32.ofNat N)), some (.int ((Int32.ofNat ((120 - n) - 1)) + (-1))), some (.int (Int32.ofNat (N / 256))), some (.int (Int32.ofNat (0 + 1)))], [], A)) rfl ?_
  rw [i32_m1 (a := (120 - n) - 1) (by omega)]
  refine wp_st 3 (f' := (33, [some (.ref (t)), some (.int (Int32.ofNat N)), some (.int (Int32.ofNat (((120 - n) - 1) - 1))), some (.int (Int32.ofNat (N / 256))), some (.int (Int32.ofNat (0 + 1)))], [.int (((Int32.ofNat (N / 256)).toUInt32 >>> ((Int32.ofNat 8).toUInt32 &&& Int32.toUInt32 31)).toInt32)], A)) rfl ?_
  rw [show ((Int32.ofNat (N / 256)).toUInt32 >>> ((Int32.ofNat 8).toUInt32 &&& Int32.toUInt32 31)).toInt32 = Int32.ofNat (N / 65536) from by rw [i32_ush8 (by omega)]; first | done | (congr 1; omega)]
  refine wp_st 2 (f' := (37, [some (.ref (t)), some (.int (Int32.ofNat N)), some (.int (Int32.ofNat (((120 - n) - 1) - 1))), some (.int (Int32.ofNat (N / 65536))), some (.int ((Int32.ofNat (0 + 1)) + (Int32.ofNat 1)))], [], A)) rfl ?_
  rw [i32_add (0 + 1) (1)]
  refine wp_st 2 (f' := (17, [some (.ref (t)), some (.int (Int32.ofNat N)), some (.int (Int32.ofNat (((120 - n) - 1) - 1))), some (.int (Int32.ofNat (N / 65536))), some (.int (Int32.ofNat (0 + 1 + 1)))], [.int (Int32.ofNat (N / 65536))], A)) rfl ?_
  refine wp_izF rfl rfl (fun q => absurd ((i32_eq (a := N / 65536) (b := 0) (by omega) (by omega)).mp q) (by omega)) ?_
  refine wp_st 2 (f' := (23, [some (.ref (t)), some (.int (Int32.ofNat N)), some (.int (Int32.ofNat (((120 - n) - 1) - 1))), some (.int (Int32.ofNat (N / 65536))), some (.int (Int32.ofNat (0 + 1 + 1)))], [.int (Int32.ofNat 4), .int (Int32.ofNat (0 + 1 + 1))], A)) rfl ?_
  refine wp_ifF rfl rfl (fun q => absurd ((i32_le (a := 4) (b := 0 + 1 + 1) (by omega) (by omega)).mp q) (by omega)) ?_
  refine wp_st 1 (f' := (29, [some (.ref (t)), some (.int (Int32.ofNat N)), some (.int ((Int32.ofNat (((120 - n) - 1) - 1)) + (-1))), some (.int (Int32.ofNat (N / 65536))), some (.int (Int32.ofNat (0 + 1 + 1)))], [], A)) rfl ?_
  rw [i32_m1 (a := ((120 - n) - 1) - 1) (by omega)]
  refine wp_st 3 (f' := (33, [some (.ref (t)), some (.int (Int32.ofNat N)), some (.int (Int32.ofNat ((((120 - n) - 1) - 1) - 1))), some (.int (Int32.ofNat (N / 65536))), some (.int (Int32.ofNat (0 + 1 + 1)))], [.int (((Int32.ofNat (N / 65536)).toUInt32 >>> ((Int32.ofNat 8).toUInt32 &&& Int32.toUInt32 31)).toInt32)], A)) rfl ?_
  rw [show ((Int32.ofNat (N / 65536)).toUInt32 >>> ((Int32.ofNat 8).toUInt32 &&& Int32.toUInt32 31)).toInt32 = Int32.ofNat (N / 16777216) from by rw [i32_ush8 (by omega)]; first | done | (congr 1; omega)]
  refine wp_st 2 (f' := (37, [some (.ref (t)), some (.int (Int32.ofNat N)), some (.int (Int32.ofNat ((((120 - n) - 1) - 1) - 1))), some (.int (Int32.ofNat (N / 16777216))), some (.int ((Int32.ofNat (0 + 1 + 1)) + (Int32.ofNat 1)))], [], A)) rfl ?_
  rw [i32_add (0 + 1 + 1) (1)]
  refine wp_st 2 (f' := (17, [some (.ref (t)), some (.int (Int32.ofNat N)), some (.int (Int32.ofNat ((((120 - n) - 1) - 1) - 1))), some (.int (Int32.ofNat (N / 16777216))), some (.int (Int32.ofNat (0 + 1 + 1 + 1)))], [.int (Int32.ofNat (N / 16777216))], A)) rfl ?_
  refine wp_izT rfl rfl ((i32_eq (a := N / 16777216) (b := 0) (by omega) (by omega)).mpr (by omega)) ?_
  refine wp_st 1 (f' := (41, [some (.ref (t)), some (.int (Int32.ofNat N)), some (.int (Int32.ofNat ((((120 - n) - 1) - 1) - 1))), some (.int (Int32.ofNat (N / 16777216))), some (.int (Int32.ofNat (0 + 1 + 1 + 1)))], [.int (Int32.ofNat ((((120 - n) - 1) - 1) - 1))], A)) rfl ?_
  refine wp_izT rfl rfl ((i32_le (a := 0) (b := (((120 - n) - 1) - 1) - 1) (by omega) (by omega)).mpr (by omega)) ?_
  refine wp_st 3 (f' := (50, [some (.ref (t)), some (.int (Int32.ofNat N)), some (.int (Int32.ofNat ((((120 - n) - 1) - 1) - 1))), some (.int (Int32.ofNat 24)), some (.int (Int32.ofNat (0 + 1 + 1 + 1)))], [.int (Int32.ofNat 24)], A)) rfl ?_
  refine wp_izF rfl rfl (Int32.ofNat_not_neg (by omega)) ?_
  refine wp_st 5 (f' := (60, [some (.ref (t)), some (.int (Int32.ofNat N)), some (.int (Int32.ofNat ((((120 - n) - 1) - 1) - 1))), some (.int (Int32.ofNat 24)), some (.int (Int32.ofNat (0 + 1 + 1 + 1)))], [.int ((((Int32.ofNat N).toUInt32 >>> ((Int32.ofNat 24).toUInt32 &&& Int32.toUInt32 31)).toInt32) &&& (Int32.ofNat 255))], A)) rfl ?_
  rw [show (((Int32.ofNat N).toUInt32 >>> ((Int32.ofNat 24).toUInt32 &&& Int32.toUInt32 31)).toInt32) &&& (Int32.ofNat 255) = Int32.ofNat 0 from by rw [sb_ush (k := 24) (by omega), sb_by_n (by omega)]; first | done | (congr 1; omega)]
  refine wp_st 2 (f' := (64, [some (.ref (t)), some (.int (Int32.ofNat N)), some (.int (Int32.ofNat ((((120 - n) - 1) - 1) - 1))), some (.int (Int32.ofNat 24)), some (.int (Int32.ofNat 0))], [.int (Int32.ofNat 0)], A)) rfl ?_
  refine wp_izT rfl rfl ((i32_eq (a := 0) (b := 0) (by omega) (by omega)).mpr (by omega)) ?_
  refine wp_st 1 (f' := (104, [some (.ref (t)), some (.int (Int32.ofNat N)), some (.int (Int32.ofNat ((((120 - n) - 1) - 1) - 1))), some (.int ((Int32.ofNat 24) + (-8))), some (.int (Int32.ofNat 0))], [], A)) rfl ?_
  rw [show (Int32.ofNat 24) + (-8) = Int32.ofNat 16 from by decide]
  refine wp_st 2 (f' := (50, [some (.ref (t)), some (.int (Int32.ofNat N)), some (.int (Int32.ofNat ((((120 - n) - 1) - 1) - 1))), some (.int (Int32.ofNat 16)), some (.int (Int32.ofNat 0))], [.int (Int32.ofNat 16)], A)) rfl ?_
  refine wp_izF rfl rfl (Int32.ofNat_not_neg (by omega)) ?_
  refine wp_st 5 (f' := (60, [some (.ref (t)), some (.int (Int32.ofNat N)), some (.int (Int32.ofNat ((((120 - n) - 1) - 1) - 1))), some (.int (Int32.ofNat 16)), some (.int (Int32.ofNat 0))], [.int ((((Int32.ofNat N).toUInt32 >>> ((Int32.ofNat 16).toUInt32 &&& Int32.toUInt32 31)).toInt32) &&& (Int32.ofNat 255))], A)) rfl ?_
  rw [show (((Int32.ofNat N).toUInt32 >>> ((Int32.ofNat 16).toUInt32 &&& Int32.toUInt32 31)).toInt32) &&& (Int32.ofNat 255) = Int32.ofNat b1 from by rw [sb_ush (k := 16) (by omega), sb_by_n (by omega)]; first | done | (congr 1; omega)]
  refine wp_st 2 (f' := (64, [some (.ref (t)), some (.int (Int32.ofNat N)), some (.int (Int32.ofNat ((((120 - n) - 1) - 1) - 1))), some (.int (Int32.ofNat 16)), some (.int (Int32.ofNat b1))], [.int (Int32.ofNat b1)], A)) rfl ?_
  refine wp_izF rfl rfl (fun q => absurd ((i32_eq (a := b1) (b := 0) (by omega) (by omega)).mp q) (by omega)) ?_
  refine wp_st 1 (f' := (68, [some (.ref (t)), some (.int (Int32.ofNat N)), some (.int (Int32.ofNat ((((120 - n) - 1) - 1) - 1))), some (.int (Int32.ofNat 16)), some (.int (Int32.ofNat b1))], [.ref (t)], A)) rfl ?_
  refine wp_gf rfl rfl hT rfl rfl ?_
  refine wp_st 1 (f' := (72, [some (.ref (t)), some (.int (Int32.ofNat N)), some (.int (Int32.ofNat ((((120 - n) - 1) - 1) - 1))), some (.int (Int32.ofNat 16)), some (.int (Int32.ofNat b1))], [.ref (t), .int (Int32.ofNat n)], A)) rfl ?_
  refine wp_gf rfl rfl hT rfl rfl ?_
  refine wp_ln rfl hC rfl rfl rfl ?_
  rw [show (cs.map sb_c).length = 120 from by simp [hl]]
  refine wp_ifF rfl rfl (fun q => absurd ((i32_le (a := 120) (b := n) (by omega) (by omega)).mp q) (by omega)) ?_
  refine wp_st 1 (f' := (80, [some (.ref (t)), some (.int (Int32.ofNat N)), some (.int (Int32.ofNat ((((120 - n) - 1) - 1) - 1))), some (.int (Int32.ofNat 16)), some (.int (Int32.ofNat b1))], [.ref (t)], A)) rfl ?_
  refine wp_gf rfl rfl hT rfl rfl ?_
  refine wp_st 1 (f' := (84, [some (.ref (t)), some (.int (Int32.ofNat N)), some (.int (Int32.ofNat ((((120 - n) - 1) - 1) - 1))), some (.int (Int32.ofNat 16)), some (.int (Int32.ofNat b1))], [.ref (t), .ref (t + 1)], A)) rfl ?_
  refine wp_gf rfl rfl hT rfl rfl ?_
  refine wp_st 2 (f' := (90, [some (.ref (t)), some (.int (Int32.ofNat N)), some (.int (Int32.ofNat ((((120 - n) - 1) - 1) - 1))), some (.int (Int32.ofNat 16)), some (.int (Int32.ofNat b1))], [.int (((Int32.ofNat b1).toUInt32 % 65536).toInt32), .int (Int32.ofNat n), .ref (t + 1)], A)) rfl ?_
  rw [i32_i2c (b := b1) (by omega)]
  obtain ⟨A1, e2⟩ : ∃ B, B = A.set (t + 1) (102, (cs.set n b1).map sb_c) := ⟨_, rfl⟩
  refine wp_as (A' := A1) rfl (Or.inr (Or.inl ⟨rfl, rfl, rfl⟩)) hC (by omega) (by simp; omega) (decide_eq_true (by omega)) rfl (by rw [e2]; rw [sb_sc (by omega)]) ?_
  have g3 : A1[t]? = some (1, [.ref (t + 1), .int (Int32.ofNat n), .int (Int32.ofNat a), .int (f)]) := by rw [e2]; exact sb_so (by omega) hT
  have g4 : A1[t + 1]? = some (102, (cs.set n b1).map sb_c) := by rw [e2]; exact sb_ss hC
  have f5 : sb_fr A A1 t (t + 2) := (sb_fr.refl A t (t + 2)).set e2 hC (by simp) (by omega) (by omega)
  refine wp_st 2 (f' := (93, [some (.ref (t)), some (.int (Int32.ofNat N)), some (.int (Int32.ofNat ((((120 - n) - 1) - 1) - 1))), some (.int (Int32.ofNat 16)), some (.int (Int32.ofNat b1))], [.ref (t), .ref (t)], A1)) rfl ?_
  refine wp_gf rfl rfl g3 rfl rfl ?_
  refine wp_st 2 (f' := (98, [some (.ref (t)), some (.int (Int32.ofNat N)), some (.int (Int32.ofNat ((((120 - n) - 1) - 1) - 1))), some (.int (Int32.ofNat 16)), some (.int (Int32.ofNat b1))], [.int ((Int32.ofNat n) + (Int32.ofNat 1)), .ref (t)], A1)) rfl ?_
  rw [i32_add (n) (1)]
  obtain ⟨A6, e7⟩ : ∃ B, B = A1.set (t) (1, [.ref (t + 1), .int (Int32.ofNat (n + 1)), .int (Int32.ofNat a), .int (f)]) := ⟨_, rfl⟩
  refine wp_pf (A' := A6) rfl rfl g3 rfl rfl (decide_eq_true (by omega)) rfl e7.symm ?_
  have g8 : A6[t]? = some (1, [.ref (t + 1), .int (Int32.ofNat (n + 1)), .int (Int32.ofNat a), .int (f)]) := by rw [e7]; exact sb_ss g3
  have g9 : A6[t + 1]? = some (102, (cs.set n b1).map sb_c) := by rw [e7]; exact sb_so (by omega) g4
  have f10 : sb_fr A A6 t (t + 2) := f5.set e7 g3 (by simp) (by omega) (by omega)
  refine wp_st 1 (f' := (104, [some (.ref (t)), some (.int (Int32.ofNat N)), some (.int (Int32.ofNat ((((120 - n) - 1) - 1) - 1))), some (.int ((Int32.ofNat 16) + (-8))), some (.int (Int32.ofNat b1))], [], A6)) rfl ?_
  rw [show (Int32.ofNat 16) + (-8) = Int32.ofNat 8 from by decide]
  refine wp_st 2 (f' := (50, [some (.ref (t)), some (.int (Int32.ofNat N)), some (.int (Int32.ofNat ((((120 - n) - 1) - 1) - 1))), some (.int (Int32.ofNat 8)), some (.int (Int32.ofNat b1))], [.int (Int32.ofNat 8)], A6)) rfl ?_
  refine wp_izF rfl rfl (Int32.ofNat_not_neg (by omega)) ?_
  refine wp_st 5 (f' := (60, [some (.ref (t)), some (.int (Int32.ofNat N)), some (.int (Int32.ofNat ((((120 - n) - 1) - 1) - 1))), some (.int (Int32.ofNat 8)), some (.int (Int32.ofNat b1))], [.int ((((Int32.ofNat N).toUInt32 >>> ((Int32.ofNat 8).toUInt32 &&& Int32.toUInt32 31)).toInt32) &&& (Int32.ofNat 255))], A6)) rfl ?_
  rw [show (((Int32.ofNat N).toUInt32 >>> ((Int32.ofNat 8).toUInt32 &&& Int32.toUInt32 31)).toInt32) &&& (Int32.ofNat 255) = Int32.ofNat b2 from by rw [sb_ush (k := 8) (by omega), sb_by_n (by omega)]; first | done | (congr 1; omega)]
  refine wp_st 2 (f' := (64, [some (.ref (t)), some (.int (Int32.ofNat N)), some (.int (Int32.ofNat ((((120 - n) - 1) - 1) - 1))), some (.int (Int32.ofNat 8)), some (.int (Int32.ofNat b2))], [.int (Int32.ofNat b2)], A6)) rfl ?_
  refine wp_izF rfl rfl (fun q => absurd ((i32_eq (a := b2) (b := 0) (by omega) (by omega)).mp q) (by omega)) ?_
  refine wp_st 1 (f' := (68, [some (.ref (t)), some (.int (Int32.ofNat N)), some (.int (Int32.ofNat ((((120 - n) - 1) - 1) - 1))), some (.int (Int32.ofNat 8)), some (.int (Int32.ofNat b2))], [.ref (t)], A6)) rfl ?_
  refine wp_gf rfl rfl g8 rfl rfl ?_
  refine wp_st 1 (f' := (72, [some (.ref (t)), some (.int (Int32.ofNat N)), some (.int (Int32.ofNat ((((120 - n) - 1) - 1) - 1))), some (.int (Int32.ofNat 8)), some (.int (Int32.ofNat b2))], [.ref (t), .int (Int32.ofNat (n + 1))], A6)) rfl ?_
  refine wp_gf rfl rfl g8 rfl rfl ?_
  refine wp_ln rfl g9 rfl rfl rfl ?_
  rw [show ((cs.set n b1).map sb_c).length = 120 from by simp [hl]]
  refine wp_ifF rfl rfl (fun q => absurd ((i32_le (a := 120) (b := n + 1) (by omega) (by omega)).mp q) (by omega)) ?_
  refine wp_st 1 (f' := (80, [some (.ref (t)), some (.int (Int32.ofNat N)), some (.int (Int32.ofNat ((((120 - n) - 1) - 1) - 1))), some (.int (Int32.ofNat 8)), some (.int (Int32.ofNat b2))], [.ref (t)], A6)) rfl ?_
  refine wp_gf rfl rfl g8 rfl rfl ?_
  refine wp_st 1 (f' := (84, [some (.ref (t)), some (.int (Int32.ofNat N)), some (.int (Int32.ofNat ((((120 - n) - 1) - 1) - 1))), some (.int (Int32.ofNat 8)), some (.int (Int32.ofNat b2))], [.ref (t), .ref (t + 1)], A6)) rfl ?_
  refine wp_gf rfl rfl g8 rfl rfl ?_
  refine wp_st 2 (f' := (90, [some (.ref (t)), some (.int (Int32.ofNat N)), some (.int (Int32.ofNat ((((120 - n) - 1) - 1) - 1))), some (.int (Int32.ofNat 8)), some (.int (Int32.ofNat b2))], [.int (((Int32.ofNat b2).toUInt32 % 65536).toInt32), .int (Int32.ofNat (n + 1)), .ref (t + 1)], A6)) rfl ?_
  rw [i32_i2c (b := b2) (by omega)]
  obtain ⟨A11, e12⟩ : ∃ B, B = A6.set (t + 1) (102, ((cs.set n b1).set (n + 1) b2).map sb_c) := ⟨_, rfl⟩
  refine wp_as (A' := A11) rfl (Or.inr (Or.inl ⟨rfl, rfl, rfl⟩)) g9 (by omega) (by simp; omega) (decide_eq_true (by omega)) rfl (by rw [e12]; rw [sb_sc (by omega)]) ?_
  have g13 : A11[t]? = some (1, [.ref (t + 1), .int (Int32.ofNat (n + 1)), .int (Int32.ofNat a), .int (f)]) := by rw [e12]; exact sb_so (by omega) g8
  have g14 : A11[t + 1]? = some (102, ((cs.set n b1).set (n + 1) b2).map sb_c) := by rw [e12]; exact sb_ss g9
  have f15 : sb_fr A A11 t (t + 2) := f10.set e12 g9 (by simp) (by omega) (by omega)
  refine wp_st 2 (f' := (93, [some (.ref (t)), some (.int (Int32.ofNat N)), some (.int (Int32.ofNat ((((120 - n) - 1) - 1) - 1))), some (.int (Int32.ofNat 8)), some (.int (Int32.ofNat b2))], [.ref (t), .ref (t)], A11)) rfl ?_
  refine wp_gf rfl rfl g13 rfl rfl ?_
  refine wp_st 2 (f' := (98, [some (.ref (t)), some (.int (Int32.ofNat N)), some (.int (Int32.ofNat ((((120 - n) - 1) - 1) - 1))), some (.int (Int32.ofNat 8)), some (.int (Int32.ofNat b2))], [.int ((Int32.ofNat (n + 1)) + (Int32.ofNat 1)), .ref (t)], A11)) rfl ?_
  rw [i32_add (n + 1) (1)]
  obtain ⟨A16, e17⟩ : ∃ B, B = A11.set (t) (1, [.ref (t + 1), .int (Int32.ofNat (n + 1 + 1)), .int (Int32.ofNat a), .int (f)]) := ⟨_, rfl⟩
  refine wp_pf (A' := A16) rfl rfl g13 rfl rfl (decide_eq_true (by omega)) rfl e17.symm ?_
  have g18 : A16[t]? = some (1, [.ref (t + 1), .int (Int32.ofNat (n + 1 + 1)), .int (Int32.ofNat a), .int (f)]) := by rw [e17]; exact sb_ss g13
  have g19 : A16[t + 1]? = some (102, ((cs.set n b1).set (n + 1) b2).map sb_c) := by rw [e17]; exact sb_so (by omega) g14
  have f20 : sb_fr A A16 t (t + 2) := f15.set e17 g13 (by simp) (by omega) (by omega)
  refine wp_st 1 (f' := (104, [some (.ref (t)), some (.int (Int32.ofNat N)), some (.int (Int32.ofNat ((((120 - n) - 1) - 1) - 1))), some (.int ((Int32.ofNat 8) + (-8))), some (.int (Int32.ofNat b2))], [], A16)) rfl ?_
  rw [show (Int32.ofNat 8) + (-8) = Int32.ofNat 0 from by decide]
  refine wp_st 2 (f' := (50, [some (.ref (t)), some (.int (Int32.ofNat N)), some (.int (Int32.ofNat ((((120 - n) - 1) - 1) - 1))), some (.int (Int32.ofNat 0)), some (.int (Int32.ofNat b2))], [.int (Int32.ofNat 0)], A16)) rfl ?_
  refine wp_izF rfl rfl (Int32.ofNat_not_neg (by omega)) ?_
  refine wp_st 5 (f' := (60, [some (.ref (t)), some (.int (Int32.ofNat N)), some (.int (Int32.ofNat ((((120 - n) - 1) - 1) - 1))), some (.int (Int32.ofNat 0)), some (.int (Int32.ofNat b2))], [.int ((((Int32.ofNat N).toUInt32 >>> ((Int32.ofNat 0).toUInt32 &&& Int32.toUInt32 31)).toInt32) &&& (Int32.ofNat 255))], A16)) rfl ?_
  rw [show (((Int32.ofNat N).toUInt32 >>> ((Int32.ofNat 0).toUInt32 &&& Int32.toUInt32 31)).toInt32) &&& (Int32.ofNat 255) = Int32.ofNat b3 from by rw [sb_ush (k := 0) (by omega), sb_by_n (by omega)]; first | done | (congr 1; omega)]
  refine wp_st 2 (f' := (64, [some (.ref (t)), some (.int (Int32.ofNat N)), some (.int (Int32.ofNat ((((120 - n) - 1) - 1) - 1))), some (.int (Int32.ofNat 0)), some (.int (Int32.ofNat b3))], [.int (Int32.ofNat b3)], A16)) rfl ?_
  refine wp_izF rfl rfl (fun q => absurd ((i32_eq (a := b3) (b := 0) (by omega) (by omega)).mp q) (by omega)) ?_
  refine wp_st 1 (f' := (68, [some (.ref (t)), some (.int (Int32.ofNat N)), some (.int (Int32.ofNat ((((120 - n) - 1) - 1) - 1))), some (.int (Int32.ofNat 0)), some (.int (Int32.ofNat b3))], [.ref (t)], A16)) rfl ?_
  refine wp_gf rfl rfl g18 rfl rfl ?_
  refine wp_st 1 (f' := (72, [some (.ref (t)), some (.int (Int32.ofNat N)), some (.int (Int32.ofNat ((((120 - n) - 1) - 1) - 1))), some (.int (Int32.ofNat 0)), some (.int (Int32.ofNat b3))], [.ref (t), .int (Int32.ofNat (n + 1 + 1))], A16)) rfl ?_
  refine wp_gf rfl rfl g18 rfl rfl ?_
  refine wp_ln rfl g19 rfl rfl rfl ?_
  rw [show (((cs.set n b1).set (n + 1) b2).map sb_c).length = 120 from by simp [hl]]
  refine wp_ifF rfl rfl (fun q => absurd ((i32_le (a := 120) (b := n + 1 + 1) (by omega) (by omega)).mp q) (by omega)) ?_
  refine wp_st 1 (f' := (80, [some (.ref (t)), some (.int (Int32.ofNat N)), some (.int (Int32.ofNat ((((120 - n) - 1) - 1) - 1))), some (.int (Int32.ofNat 0)), some (.int (Int32.ofNat b3))], [.ref (t)], A16)) rfl ?_
  refine wp_gf rfl rfl g18 rfl rfl ?_
  refine wp_st 1 (f' := (84, [some (.ref (t)), some (.int (Int32.ofNat N)), some (.int (Int32.ofNat ((((120 - n) - 1) - 1) - 1))), some (.int (Int32.ofNat 0)), some (.int (Int32.ofNat b3))], [.ref (t), .ref (t + 1)], A16)) rfl ?_
  refine wp_gf rfl rfl g18 rfl rfl ?_
  refine wp_st 2 (f' := (90, [some (.ref (t)), some (.int (Int32.ofNat N)), some (.int (Int32.ofNat ((((120 - n) - 1) - 1) - 1))), some (.int (Int32.ofNat 0)), some (.int (Int32.ofNat b3))], [.int (((Int32.ofNat b3).toUInt32 % 65536).toInt32), .int (Int32.ofNat (n + 1 + 1)), .ref (t + 1)], A16)) rfl ?_
  rw [i32_i2c (b := b3) (by omega)]
  obtain ⟨A21, e22⟩ : ∃ B, B = A16.set (t + 1) (102, (((cs.set n b1).set (n + 1) b2).set (n + 1 + 1) b3).map sb_c) := ⟨_, rfl⟩
  refine wp_as (A' := A21) rfl (Or.inr (Or.inl ⟨rfl, rfl, rfl⟩)) g19 (by omega) (by simp; omega) (decide_eq_true (by omega)) rfl (by rw [e22]; rw [sb_sc (by omega)]) ?_
  have g23 : A21[t]? = some (1, [.ref (t + 1), .int (Int32.ofNat (n + 1 + 1)), .int (Int32.ofNat a), .int (f)]) := by rw [e22]; exact sb_so (by omega) g18
  have g24 : A21[t + 1]? = some (102, (((cs.set n b1).set (n + 1) b2).set (n + 1 + 1) b3).map sb_c) := by rw [e22]; exact sb_ss g19
  have f25 : sb_fr A A21 t (t + 2) := f20.set e22 g19 (by simp) (by omega) (by omega)
  refine wp_st 2 (f' := (93, [some (.ref (t)), some (.int (Int32.ofNat N)), some (.int (Int32.ofNat ((((120 - n) - 1) - 1) - 1))), some (.int (Int32.ofNat 0)), some (.int (Int32.ofNat b3))], [.ref (t), .ref (t)], A21)) rfl ?_
  refine wp_gf rfl rfl g23 rfl rfl ?_
  refine wp_st 2 (f' := (98, [some (.ref (t)), some (.int (Int32.ofNat N)), some (.int (Int32.ofNat ((((120 - n) - 1) - 1) - 1))), some (.int (Int32.ofNat 0)), some (.int (Int32.ofNat b3))], [.int ((Int32.ofNat (n + 1 + 1)) + (Int32.ofNat 1)), .ref (t)], A21)) rfl ?_
  rw [i32_add (n + 1 + 1) (1)]
  obtain ⟨A26, e27⟩ : ∃ B, B = A21.set (t) (1, [.ref (t + 1), .int (Int32.ofNat (n + 1 + 1 + 1)), .int (Int32.ofNat a), .int (f)]) := ⟨_, rfl⟩
  refine wp_pf (A' := A26) rfl rfl g23 rfl rfl (decide_eq_true (by omega)) rfl e27.symm ?_
  have g28 : A26[t]? = some (1, [.ref (t + 1), .int (Int32.ofNat (n + 1 + 1 + 1)), .int (Int32.ofNat a), .int (f)]) := by rw [e27]; exact sb_ss g23
  have g29 : A26[t + 1]? = some (102, (((cs.set n b1).set (n + 1) b2).set (n + 1 + 1) b3).map sb_c) := by rw [e27]; exact sb_so (by omega) g24
  have f30 : sb_fr A A26 t (t + 2) := f25.set e27 g23 (by simp) (by omega) (by omega)
  refine wp_st 1 (f' := (104, [some (.ref (t)), some (.int (Int32.ofNat N)), some (.int (Int32.ofNat ((((120 - n) - 1) - 1) - 1))), some (.int ((Int32.ofNat 0) + (-8))), some (.int (Int32.ofNat b3))], [], A26)) rfl ?_
  rw [show (Int32.ofNat 0) + (-8) = (-8) from by decide]
  refine wp_st 2 (f' := (50, [some (.ref (t)), some (.int (Int32.ofNat N)), some (.int (Int32.ofNat ((((120 - n) - 1) - 1) - 1))), some (.int ((-8))), some (.int (Int32.ofNat b3))], [.int ((-8))], A26)) rfl ?_
  refine wp_izT rfl rfl (show (-8 : Int32) < Int32.ofNat 0 from by decide) ?_
  refine wp_st 1 (f' := (108, [some (.ref (t)), some (.int (Int32.ofNat N)), some (.int (Int32.ofNat ((((120 - n) - 1) - 1) - 1))), some (.int ((-8))), some (.int (Int32.ofNat b3))], [.int (Int32.ofNat 1)], A26)) rfl ?_
  refine wp_rt rfl rfl rfl ?_
  refine ⟨rfl, ⟨g28, g29, by simp [hl], by omega, ha, fun k => ?_, h45⟩, f30⟩
  exact sb_st3 hb (by omega) (by omega) (by omega) k
theorem i32_neg3m {R : Nat} (h : R < 3) : ¬ Int32.ofNat 0 ≤ (((Int32.ofNat R) + (-1)) + (-1)) + (-1) := by
  have h1 : ∀ x : Fin 3, ¬ Int32.ofNat 0 ≤ (((Int32.ofNat x.val) + (-1)) + (-1)) + (-1) := by decide +kernel
  exact h1 ⟨R, h⟩
theorem tx_apf3 {d t n a N b1 b2 b3 : Nat} {f : Int32} {cs : List Nat} {A : am_H} (hN : N = (((0 * 256 + b1) * 256 + b2) * 256 + b3)) (hb1 : 32 ≤ b1 ∧ b1 ≤ 126) (hb2 : 32 ≤ b2 ∧ b2 ≤ 126) (hb3 : 32 ≤ b3 ∧ b3 ≤ 126) (hr : 120 < n + 3) (h : sb_T A t cs n a f) : am_go d 10 [.ref t, .int (Int32.ofNat N)] A (.inl (some (.int 0)), A) := by
  have hh := h
  have hNl : N < 2147483648 := by omega
  obtain ⟨hT, hC, hl, hn, ha, hb, h45⟩ := h
  unfold sb_tc at hT
  refine wp_go ?_
  refine wp_st 1 (f' := (1, [some (.ref (t)), some (.int (Int32.ofNat N)), none, none, none], [.ref (t)], A)) rfl ?_
  refine wp_gf rfl rfl hT rfl rfl ?_
  refine wp_ln rfl hC rfl rfl rfl ?_
  rw [show (cs.map sb_c).length = 120 from by simp [hl]]
  refine wp_st 1 (f' := (6, [some (.ref (t)), some (.int (Int32.ofNat N)), none, none, none], [.ref (t), .int (Int32.ofNat 120)], A)) rfl ?_
  refine wp_gf rfl rfl hT rfl rfl ?_
  refine wp_st 1 (f' := (10, [some (.ref (t)), some (.int (Int32.ofNat N)), none, none, none], [.int ((Int32.ofNat 120) - (Int32.ofNat n))], A)) rfl ?_
  rw [i32_sub (a := 120) (b := n) (by omega)]
  refine wp_st 6 (f' := (17, [some (.ref (t)), some (.int (Int32.ofNat N)), some (.int (Int32.ofNat (120 - n))), some (.int (Int32.ofNat N)), some (.int (Int32.ofNat 0))], [.int (Int32.ofNat N)], A)) rfl ?_
  refine wp_izF rfl rfl (fun q => absurd ((i32_eq (a := N) (b := 0) (by omega) (by omega)).mp q) (by omega)) ?_
  refine wp_st 2 (f' := (23, [some (.ref (t)), some (.int (Int32.ofNat N)), some (.int (Int32.ofNat (120 - n))), some (.int (Int32.ofNat N)), some (.int (Int32.ofNat 0))], [.int (Int32.ofNat 4), .int (Int32.ofNat 0)], A)) rfl ?_
  refine wp_ifF rfl rfl (fun q => absurd ((i32_le (a := 4) (b := 0) (by omega) (by omega)).mp q) (by omega)) ?_
  refine wp_st 4 (f' := (33, [some (.ref (t)), some (.int (Int32.ofNat N)), some (.int ((Int32.ofNat (120 - n)) + (-1))), some (.int (Int32.ofNat N)), some (.int (Int32.ofNat 0))], [.int (((Int32.ofNat N).toUInt32 >>> ((Int32.ofNat 8).toUInt32 &&& Int32.toUInt32 31)).toInt32)], A)) rfl ?_
  rw [show ((Int32.ofNat N).toUInt32 >>> ((Int32.ofNat 8).toUInt32 &&& Int32.toUInt32 31)).toInt32 = Int32.ofNat (N / 256) from by rw [i32_ush8 (by omega)]; first | done | (congr 1; omega)]
  refine wp_st 2 (f' := (37, [some (.ref (t)), some (.int (Int32.ofNat N)), some (.int ((Int32.ofNat (120 - n)) + (-1))), some (.int (Int32.ofNat (N / 256))), some (.int ((Int32.ofNat 0) + (Int32.ofNat 1)))], [], A)) rfl ?_
  rw [i32_add (0) (1)]
  refine wp_st 2 (f' := (17, [some (.ref (t)), some (.int (Int32.ofNat N)), some (.int ((Int32.ofNat (120 - n)) + (-1))), some (.int (Int32.ofNat (N / 256))), some (.int (Int32.ofNat (0 + 1)))], [.int (Int32.ofNat (N / 256))], A)) rfl ?_
  refine wp_izF rfl rfl (fun q => absurd ((i32_eq (a := N / 256) (b := 0) (by omega) (by omega)).mp q) (by omega)) ?_
  refine wp_st 2 (f' := (23, [some (.ref (t)), some (.int (Int32.ofNat N)), some (.int ((Int32.ofNat (120 - n)) + (-1))), some (.int (Int32.ofNat (N / 256))), some (.int (Int32.ofNat (0 + 1)))], [.int (Int32.ofNat 4), .int (Int32.ofNat (0 + 1))], A)) rfl ?_
  refine wp_ifF rfl rfl (fun q => absurd ((i32_le (a := 4) (b := 0 + 1) (by omega) (by omega)).mp q) (by omega)) ?_
  refine wp_st 4 (f' := (33, [some (.ref (t)), some (.int (Int32.ofNat N)), some (.int (((Int32.ofNat (120 - n)) + (-1)) + (-1))), some (.int (Int32.ofNat (N / 256))), some (.int (Int32.ofNat (0 + 1)))], [.int (((Int32.ofNat (N / 256)).toUInt32 >>> ((Int32.ofNat 8).toUInt32 &&& Int32.toUInt32 31)).toInt32)], A)) rfl ?_
  rw [show ((Int32.ofNat (N / 256)).toUInt32 >>> ((Int32.ofNat 8).toUInt32 &&& Int32.toUInt32 31)).toInt32 = Int32.ofNat (N / 65536) from by rw [i32_ush8 (by omega)]; first | done | (congr 1; omega)]
  refine wp_st 2 (f' := (37, [some (.ref (t)), some (.int (Int32.ofNat N)), some (.int (((Int32.ofNat (120 - n)) + (-1)) + (-1))), some (.int (Int32.ofNat (N / 65536))), some (.int ((Int32.ofNat (0 + 1)) + (Int32.ofNat 1)))], [], A)) rfl ?_
  rw [i32_add (0 + 1) (1)]
  refine wp_st 2 (f' := (17, [some (.ref (t)), some (.int (Int32.ofNat N)), some (.int (((Int32.ofNat (120 - n)) + (-1)) + (-1))), some (.int (Int32.ofNat (N / 65536))), some (.int (Int32.ofNat (0 + 1 + 1)))], [.int (Int32.ofNat (N / 65536))], A)) rfl ?_
  refine wp_izF rfl rfl (fun q => absurd ((i32_eq (a := N / 65536) (b := 0) (by omega) (by omega)).mp q) (by omega)) ?_
  refine wp_st 2 (f' := (23, [some (.ref (t)), some (.int (Int32.ofNat N)), some (.int (((Int32.ofNat (120 - n)) + (-1)) + (-1))), some (.int (Int32.ofNat (N / 65536))), some (.int (Int32.ofNat (0 + 1 + 1)))], [.int (Int32.ofNat 4), .int (Int32.ofNat (0 + 1 + 1))], A)) rfl ?_
  refine wp_ifF rfl rfl (fun q => absurd ((i32_le (a := 4) (b := 0 + 1 + 1) (by omega) (by omega)).mp q) (by omega)) ?_
  refine wp_st 4 (f' := (33, [some (.ref (t)), some (.int (Int32.ofNat N)), some (.int ((((Int32.ofNat (120 - n)) + (-1)) + (-1)) + (-1))), some (.int (Int32.ofNat (N / 65536))), some (.int (Int32.ofNat (0 + 1 + 1)))], [.int (((Int32.ofNat (N / 65536)).toUInt32 >>> ((Int32.ofNat 8).toUInt32 &&& Int32.toUInt32 31)).toInt32)], A)) rfl ?_
  rw [show ((Int32.ofNat (N / 65536)).toUInt32 >>> ((Int32.ofNat 8).toUInt32 &&& Int32.toUInt32 31)).toInt32 = Int32.ofNat (N / 16777216) from by rw [i32_ush8 (by omega)]; first | done | (congr 1; omega)]
  refine wp_st 2 (f' := (37, [some (.ref (t)), some (.int (Int32.ofNat N)), some (.int ((((Int32.ofNat (120 - n)) + (-1)) + (-1)) + (-1))), some (.int (Int32.ofNat (N / 16777216))), some (.int ((Int32.ofNat (0 + 1 + 1)) + (Int32.ofNat 1)))], [], A)) rfl ?_
  rw [i32_add (0 + 1 + 1) (1)]
  refine wp_st 2 (f' := (17, [some (.ref (t)), some (.int (Int32.ofNat N)), some (.int ((((Int32.ofNat (120 - n)) + (-1)) + (-1)) + (-1))), some (.int (Int32.ofNat (N / 16777216))), some (.int (Int32.ofNat (0 + 1 + 1 + 1)))], [.int (Int32.ofNat (N / 16777216))], A)) rfl ?_
  refine wp_izT rfl rfl ((i32_eq (a := N / 16777216) (b := 0) (by omega) (by omega)).mpr (by omega)) ?_
  refine wp_st 1 (f' := (41, [some (.ref (t)), some (.int (Int32.ofNat N)), some (.int ((((Int32.ofNat (120 - n)) + (-1)) + (-1)) + (-1))), some (.int (Int32.ofNat (N / 16777216))), some (.int (Int32.ofNat (0 + 1 + 1 + 1)))], [.int ((((Int32.ofNat (120 - n)) + (-1)) + (-1)) + (-1))], A)) rfl ?_
  refine wp_izF rfl rfl (i32_neg3m (by omega)) ?_
  refine wp_st 1 (f' := (45, [some (.ref (t)), some (.int (Int32.ofNat N)), some (.int ((((Int32.ofNat (120 - n)) + (-1)) + (-1)) + (-1))), some (.int (Int32.ofNat (N / 16777216))), some (.int (Int32.ofNat (0 + 1 + 1 + 1)))], [.int (Int32.ofNat 0)], A)) rfl ?_
  refine wp_rt rfl rfl rfl ?_
  rfl
theorem sb_st4 {cs : List Nat} {p1 p2 p3 p4 b1 b2 b3 b4 : Nat} (h : ∀ k, cs.getD k 0 < 128) (hb1 : b1 < 128) (hb2 : b2 < 128) (hb3 : b3 < 128) (hb4 : b4 < 128) (k : Nat) : (((((cs).set p1 b1).set p2 b2).set p3 b3).set p4 b4).getD k 0 < 128 := by
  repeat (rw [sb_gset]; split; omega)
  exact h k
theorem tx_app4 {d t n a N b1 b2 b3 b4 : Nat} {f : Int32} {cs : List Nat} {A : am_H} (hN : N = ((((0 * 256 + b1) * 256 + b2) * 256 + b3) * 256 + b4)) (hb1 : 32 ≤ b1 ∧ b1 ≤ 126) (hb2 : 32 ≤ b2 ∧ b2 ≤ 126) (hb3 : 32 ≤ b3 ∧ b3 ≤ 126) (hb4 : 32 ≤ b4 ∧ b4 ≤ 126) (hr : n + 4 ≤ 120) (h : sb_T A t cs n a f) : ∃ B, am_go d 10 [.ref t, .int (Int32.ofNat N)] A (.inl (some (.int 1)), B) ∧ sb_T B t (((((cs).set (n) b1).set (n + 1) b2).set (n + 1 + 1) b3).set (n + 1 + 1 + 1) b4) (n + 1 + 1 + 1 + 1) a f ∧ sb_fr A B t (t + 2) := by
  have hh := h
  have hNl : N < 2147483648 := by omega
  obtain ⟨hT, hC, hl, hn, ha, hb, h45⟩ := h
  unfold sb_tc at hT
  refine wp_goE ?_
  refine wp_st 1 (f' := (1, [some (.ref (t)), some (.int (Int32.ofNat N)), none, none, none], [.ref (t)], A)) rfl ?_
  refine wp_gf rfl rfl hT rfl rfl ?_
  refine wp_ln rfl hC rfl rfl rfl ?_
  rw [show (cs.map sb_c).length = 120 from by simp [hl]]
  refine wp_st 1 (f' := (6, [some (.ref (t)), some (.int (Int32.ofNat N)), none, none, none], [.ref (t), .int (Int32.ofNat 120)], A)) rfl ?_
  refine wp_gf rfl rfl hT rfl rfl ?_
  refine wp_st 1 (f' := (10, [some (.ref (t)), some (.int (Int32.ofNat N)), none, none, none], [.int ((Int32.ofNat 120) - (Int32.ofNat n))], A)) rfl ?_
  rw [i32_sub (a := 120) (b := n) (by omega)]
  refine wp_st 6 (f' := (17, [some (.ref (t)), some (.int (Int32.ofNat N)), some (.int (Int32.ofNat (120 - n))), some (.int (Int32.ofNat N)), some (.int (Int32.ofNat 0))], [.int (Int32.ofNat N)], A)) rfl ?_
  refine wp_izF rfl rfl (fun q => absurd ((i32_eq (a := N) (b := 0) (by omega) (by omega)).mp q) (by omega)) ?_
  refine wp_st 2 (f' := (23, [some (.ref (t)), some (.int (Int32.ofNat N)), some (.int (Int32.ofNat (120 - n))), some (.int (Int32.ofNat N)), some (.int (Int32.ofNat 0))], [.int (Int32.ofNat 4), .int (Int32.ofNat 0)], A)) rfl ?_
  refine wp_ifF rfl rfl (fun q => absurd ((i32_le (a := 4) (b := 0) (by omega) (by omega)).mp q) (by omega)) ?_
  refine wp_st 1 (f' := (29, [some (.ref (t)), some (.int (Int32.ofNat N)), some (.int ((Int32.ofNat (120 - n)) + (-1))), some (.int (Int32.ofNat N)), some (.int (Int32.ofNat 0))], [], A)) rfl ?_
  rw [i32_m1 (a := 120 - n) (by omega)]
  refine wp_st 3 (f' := (33, [some (.ref (t)), some (.int (Int32.ofNat N)), some (.int (Int32.ofNat ((120 - n) - 1))), some (.int (Int32.ofNat N)), some (.int (Int32.ofNat 0))], [.int (((Int32.ofNat N).toUInt32 >>> ((Int32.ofNat 8).toUInt32 &&& Int32.toUInt32 31)).toInt32)], A)) rfl ?_
  rw [show ((Int32.ofNat N).toUInt32 >>> ((Int32.ofNat 8).toUInt32 &&& Int32.toUInt32 31)).toInt32 = Int32.ofNat (N / 256) from by rw [i32_ush8 (by omega)]; first | done | (congr 1; omega)]
  refine wp_st 2 (f' := (37, [some (.ref (t)), some (.int (Int32.ofNat N)), some (.int (Int32.ofNat ((120 - n) - 1))), some (.int (Int32.ofNat (N / 256))), some (.int ((Int32.ofNat 0) + (Int32.ofNat 1)))], [], A)) rfl ?_
  rw [i32_add (0) (1)]
  refine wp_st 2 (f' := (17, [some (.ref (t)), some (.int (Int32.ofNat N)), some (.int (Int32.ofNat ((120 - n) - 1))), some (.int (Int32.ofNat (N / 256))), some (.int (Int32.ofNat (0 + 1)))], [.int (Int32.ofNat (N / 256))], A)) rfl ?_
  refine wp_izF rfl rfl (fun q => absurd ((i32_eq (a := N / 256) (b := 0) (by omega) (by omega)).mp q) (by omega)) ?_
  refine wp_st 2 (f' := (23, [some (.ref (t)), some (.int (Int32.ofNat N)), some (.int (Int32.ofNat ((120 - n) - 1))), some (.int (Int32.ofNat (N / 256))), some (.int (Int32.ofNat (0 + 1)))], [.int (Int32.ofNat 4), .int (Int32.ofNat (0 + 1))], A)) rfl ?_
  refine wp_ifF rfl rfl (fun q => absurd ((i32_le (a := 4) (b := 0 + 1) (by omega) (by omega)).mp q) (by omega)) ?_
  refine wp_st 1 (f' := (29, [some (.ref (t)), some (.int (Int32.ofNat N)), some (.int ((Int32.ofNat ((120 - n) - 1)) + (-1))), some (.int (Int32.ofNat (N / 256))), some (.int (Int32.ofNat (0 + 1)))], [], A)) rfl ?_
  rw [i32_m1 (a := (120 - n) - 1) (by omega)]
  refine wp_st 3 (f' := (33, [some (.ref (t)), some (.int (Int32.ofNat N)), some (.int (Int32.ofNat (((120 - n) - 1) - 1))), some (.int (Int32.ofNat (N / 256))), some (.int (Int32.ofNat (0 + 1)))], [.int (((Int32.ofNat (N / 256)).toUInt32 >>> ((Int32.ofNat 8).toUInt32 &&& Int32.toUInt32 31)).toInt32)], A)) rfl ?_
  rw [show ((Int32.ofNat (N / 256)).toUInt32 >>> ((Int32.ofNat 8).toUInt32 &&& Int32.toUInt32 31)).toInt32 = Int32.ofNat (N / 65536) from by rw [i32_ush8 (by omega)]; first | done | (congr 1; omega)]
  refine wp_st 2 (f' := (37, [some (.ref (t)), some (.int (Int32.ofNat N)), some (.int (Int32.ofNat (((120 - n) - 1) - 1))), some (.int (Int32.ofNat (N / 65536))), some (.int ((Int32.ofNat (0 + 1)) + (Int32.ofNat 1)))], [], A)) rfl ?_
  rw [i32_add (0 + 1) (1)]
  refine wp_st 2 (f' := (17, [some (.ref (t)), some (.int (Int32.ofNat N)), some (.int (Int32.ofNat (((120 - n) - 1) - 1))), some (.int (Int32.ofNat (N / 65536))), some (.int (Int32.ofNat (0 + 1 + 1)))], [.int (Int32.ofNat (N / 65536))], A)) rfl ?_
  refine wp_izF rfl rfl (fun q => absurd ((i32_eq (a := N / 65536) (b := 0) (by omega) (by omega)).mp q) (by omega)) ?_
  refine wp_st 2 (f' := (23, [some (.ref (t)), some (.int (Int32.ofNat N)), some (.int (Int32.ofNat (((120 - n) - 1) - 1))), some (.int (Int32.ofNat (N / 65536))), some (.int (Int32.ofNat (0 + 1 + 1)))], [.int (Int32.ofNat 4), .int (Int32.ofNat (0 + 1 + 1))], A)) rfl ?_
  refine wp_ifF rfl rfl (fun q => absurd ((i32_le (a := 4) (b := 0 + 1 + 1) (by omega) (by omega)).mp q) (by omega)) ?_
  refine wp_st 1 (f' := (29, [some (.ref (t)), some (.int (Int32.ofNat N)), some (.int ((Int32.ofNat (((120 - n) - 1) - 1)) + (-1))), some (.int (Int32.ofNat (N / 65536))), some (.int (Int32.ofNat (0 + 1 + 1)))], [], A)) rfl ?_
  rw [i32_m1 (a := ((120 - n) - 1) - 1) (by omega)]
  refine wp_st 3 (f' := (33, [some (.ref (t)), some (.int (Int32.ofNat N)), some (.int (Int32.ofNat ((((120 - n) - 1) - 1) - 1))), some (.int (Int32.ofNat (N / 65536))), some (.int (Int32.ofNat (0 + 1 + 1)))], [.int (((Int32.ofNat (N / 65536)).toUInt32 >>> ((Int32.ofNat 8).toUInt32 &&& Int32.toUInt32 31)).toInt32)], A)) rfl ?_
  rw [show ((Int32.ofNat (N / 65536)).toUInt32 >>> ((Int32.ofNat 8).toUInt32 &&& Int32.toUInt32 31)).toInt32 = Int32.ofNat (N / 16777216) from by rw [i32_ush8 (by omega)]; first | done | (congr 1; omega)]
  refine wp_st 2 (f' := (37, [some (.ref (t)), some (.int (Int32.ofNat N)), some (.int (Int32.ofNat ((((120 - n) - 1) - 1) - 1))), some (.int (Int32.ofNat (N / 16777216))), some (.int ((Int32.ofNat (0 + 1 + 1)) + (Int32.ofNat 1)))], [], A)) rfl ?_
  rw [i32_add (0 + 1 + 1) (1)]
  refine wp_st 2 (f' := (17, [some (.ref (t)), some (.int (Int32.ofNat N)), some (.int (Int32.ofNat ((((120 - n) - 1) - 1) - 1))), some (.int (Int32.ofNat (N / 16777216))), some (.int (Int32.ofNat (0 + 1 + 1 + 1)))], [.int (Int32.ofNat (N / 16777216))], A)) rfl ?_
  refine wp_izF rfl rfl (fun q => absurd ((i32_eq (a := N / 16777216) (b := 0) (by omega) (by omega)).mp q) (by omega)) ?_
  refine wp_st 2 (f' := (23, [some (.ref (t)), some (.int (Int32.ofNat N)), some (.int (Int32.ofNat ((((120 - n) - 1) - 1) - 1))), some (.int (Int32.ofNat (N / 16777216))), some (.int (Int32.ofNat (0 + 1 + 1 + 1)))], [.int (Int32.ofNat 4), .int (Int32.ofNat (0 + 1 + 1 + 1))], A)) rfl ?_
  refine wp_ifF rfl rfl (fun q => absurd ((i32_le (a := 4) (b := 0 + 1 + 1 + 1) (by omega) (by omega)).mp q) (by omega)) ?_
  refine wp_st 1 (f' := (29, [some (.ref (t)), some (.int (Int32.ofNat N)), some (.int ((Int32.ofNat ((((120 - n) - 1) - 1) - 1)) + (-1))), some (.int (Int32.ofNat (N / 16777216))), some (.int (Int32.ofNat (0 + 1 + 1 + 1)))], [], A)) rfl ?_
  rw [i32_m1 (a := (((120 - n) - 1) - 1) - 1) (by omega)]
  refine wp_st 3 (f' := (33, [some (.ref (t)), some (.int (Int32.ofNat N)), some (.int (Int32.ofNat (((((120 - n) - 1) - 1) - 1) - 1))), some (.int (Int32.ofNat (N / 16777216))), some (.int (Int32.ofNat (0 + 1 + 1 + 1)))], [.int (((Int32.ofNat (N / 16777216)).toUInt32 >>> ((Int32.ofNat 8).toUInt32 &&& Int32.toUInt32 31)).toInt32)], A)) rfl ?_
  rw [show ((Int32.ofNat (N / 16777216)).toUInt32 >>> ((Int32.ofNat 8).toUInt32 &&& Int32.toUInt32 31)).toInt32 = Int32.ofNat (N / 4294967296) from by rw [i32_ush8 (by omega)]; first | done | (congr 1; omega)]
  refine wp_st 2 (f' := (37, [some (.ref (t)), some (.int (Int32.ofNat N)), some (.int (Int32.ofNat (((((120 - n) - 1) - 1) - 1) - 1))), some (.int (Int32.ofNat (N / 4294967296))), some (.int ((Int32.ofNat (0 + 1 + 1 + 1)) + (Int32.ofNat 1)))], [], A)) rfl ?_
  rw [i32_add (0 + 1 + 1 + 1) (1)]
  refine wp_st 2 (f' := (17, [some (.ref (t)), some (.int (Int32.ofNat N)), some (.int (Int32.ofNat (((((120 - n) - 1) - 1) - 1) - 1))), some (.int (Int32.ofNat (N / 4294967296))), some (.int (Int32.ofNat (0 + 1 + 1 + 1 + 1)))], [.int (Int32.ofNat (N / 4294967296))], A)) rfl ?_
  refine wp_izT rfl rfl ((i32_eq (a := N / 4294967296) (b := 0) (by omega) (by omega)).mpr (by omega)) ?_
  refine wp_st 1 (f' := (41, [some (.ref (t)), some (.int (Int32.ofNat N)), some (.int (Int32.ofNat (((((120 - n) - 1) - 1) - 1) - 1))), some (.int (Int32.ofNat (N / 4294967296))), some (.int (Int32.ofNat (0 + 1 + 1 + 1 + 1)))], [.int (Int32.ofNat (((((120 - n) - 1) - 1) - 1) - 1))], A)) rfl ?_
  refine wp_izT rfl rfl ((i32_le (a := 0) (b := ((((120 - n) - 1) - 1) - 1) - 1) (by omega) (by omega)).mpr (by omega)) ?_
  refine wp_st 3 (f' := (50, [some (.ref (t)), some (.int (Int32.ofNat N)), some (.int (Int32.ofNat (((((120 - n) - 1) - 1) - 1) - 1))), some (.int (Int32.ofNat 24)), some (.int (Int32.ofNat (0 + 1 + 1 + 1 + 1)))], [.int (Int32.ofNat 24)], A)) rfl ?_
  refine wp_izF rfl rfl (Int32.ofNat_not_neg (by omega)) ?_
  refine wp_st 5 (f' := (60, [some (.ref (t)), some (.int (Int32.ofNat N)), some (.int (Int32.ofNat (((((120 - n) - 1) - 1) - 1) - 1))), some (.int (Int32.ofNat 24)), some (.int (Int32.ofNat (0 + 1 + 1 + 1 + 1)))], [.int ((((Int32.ofNat N).toUInt32 >>> ((Int32.ofNat 24).toUInt32 &&& Int32.toUInt32 31)).toInt32) &&& (Int32.ofNat 255))], A)) rfl ?_
  rw [show (((Int32.ofNat N).toUInt32 >>> ((Int32.ofNat 24).toUInt32 &&& Int32.toUInt32 31)).toInt32) &&& (Int32.ofNat 255) = Int32.ofNat b1 from by rw [sb_ush (k := 24) (by omega), sb_by_n (by omega)]; first | done | (congr 1; omega)]
  refine wp_st 2 (f' := (64, [some (.ref (t)), some (.int (Int32.ofNat N)), some (.int (Int32.ofNat (((((120 - n) - 1) - 1) - 1) - 1))), some (.int (Int32.ofNat 24)), some (.int (Int32.ofNat b1))], [.int (Int32.ofNat b1)], A)) rfl ?_
  refine wp_izF rfl rfl (fun q => absurd ((i32_eq (a := b1) (b := 0) (by omega) (by omega)).mp q) (by omega)) ?_
  refine wp_st 1 (f' := (68, [some (.ref (t)), some (.int (Int32.ofNat N)), some (.int (Int32.ofNat (((((120 - n) - 1) - 1) - 1) - 1))), some (.int (Int32.ofNat 24)), some (.int (Int32.ofNat b1))], [.ref (t)], A)) rfl ?_
  refine wp_gf rfl rfl hT rfl rfl ?_
  refine wp_st 1 (f' := (72, [some (.ref (t)), some (.int (Int32.ofNat N)), some (.int (Int32.ofNat (((((120 - n) - 1) - 1) - 1) - 1))), some (.int (Int32.ofNat 24)), some (.int (Int32.ofNat b1))], [.ref (t), .int (Int32.ofNat n)], A)) rfl ?_
  refine wp_gf rfl rfl hT rfl rfl ?_
  refine wp_ln rfl hC rfl rfl rfl ?_
  rw [show (cs.map sb_c).length = 120 from by simp [hl]]
  refine wp_ifF rfl rfl (fun q => absurd ((i32_le (a := 120) (b := n) (by omega) (by omega)).mp q) (by omega)) ?_
  refine wp_st 1 (f' := (80, [some (.ref (t)), some (.int (Int32.ofNat N)), some (.int (Int32.ofNat (((((120 - n) - 1) - 1) - 1) - 1))), some (.int (Int32.ofNat 24)), some (.int (Int32.ofNat b1))], [.ref (t)], A)) rfl ?_
  refine wp_gf rfl rfl hT rfl rfl ?_
  refine wp_st 1 (f' := (84, [some (.ref (t)), some (.int (Int32.ofNat N)), some (.int (Int32.ofNat (((((120 - n) - 1) - 1) - 1) - 1))), some (.int (Int32.ofNat 24)), some (.int (Int32.ofNat b1))], [.ref (t), .ref (t + 1)], A)) rfl ?_
  refine wp_gf rfl rfl hT rfl rfl ?_
  refine wp_st 2 (f' := (90, [some (.ref (t)), some (.int (Int32.ofNat N)), some (.int (Int32.ofNat (((((120 - n) - 1) - 1) - 1) - 1))), some (.int (Int32.ofNat 24)), some (.int (Int32.ofNat b1))], [.int (((Int32.ofNat b1).toUInt32 % 65536).toInt32), .int (Int32.ofNat n), .ref (t + 1)], A)) rfl ?_
  rw [i32_i2c (b := b1) (by omega)]
  obtain ⟨A1, e2⟩ : ∃ B, B = A.set (t + 1) (102, (cs.set n b1).map sb_c) := ⟨_, rfl⟩
  refine wp_as (A' := A1) rfl (Or.inr (Or.inl ⟨rfl, rfl, rfl⟩)) hC (by omega) (by simp; omega) (decide_eq_true (by omega)) rfl (by rw [e2]; rw [sb_sc (by omega)]) ?_
  have g3 : A1[t]? = some (1, [.ref (t + 1), .int (Int32.ofNat n), .int (Int32.ofNat a), .int (f)]) := by rw [e2]; exact sb_so (by omega) hT
  have g4 : A1[t + 1]? = some (102, (cs.set n b1).map sb_c) := by rw [e2]; exact sb_ss hC
  have f5 : sb_fr A A1 t (t + 2) := (sb_fr.refl A t (t + 2)).set e2 hC (by simp) (by omega) (by omega)
  refine wp_st 2 (f' := (93, [some (.ref (t)), some (.int (Int32.ofNat N)), some (.int (Int32.ofNat (((((120 - n) - 1) - 1) - 1) - 1))), some (.int (Int32.ofNat 24)), some (.int (Int32.ofNat b1))], [.ref (t), .ref (t)], A1)) rfl ?_
  refine wp_gf rfl rfl g3 rfl rfl ?_
  refine wp_st 2 (f' := (98, [some (.ref (t)), some (.int (Int32.ofNat N)), some (.int (Int32.ofNat (((((120 - n) - 1) - 1) - 1) - 1))), some (.int (Int32.ofNat 24)), some (.int (Int32.ofNat b1))], [.int ((Int32.ofNat n) + (Int32.ofNat 1)), .ref (t)], A1)) rfl ?_
  rw [i32_add (n) (1)]
  obtain ⟨A6, e7⟩ : ∃ B, B = A1.set (t) (1, [.ref (t + 1), .int (Int32.ofNat (n + 1)), .int (Int32.ofNat a), .int (f)]) := ⟨_, rfl⟩
  refine wp_pf (A' := A6) rfl rfl g3 rfl rfl (decide_eq_true (by omega)) rfl e7.symm ?_
  have g8 : A6[t]? = some (1, [.ref (t + 1), .int (Int32.ofNat (n + 1)), .int (Int32.ofNat a), .int (f)]) := by rw [e7]; exact sb_ss g3
  have g9 : A6[t + 1]? = some (102, (cs.set n b1).map sb_c) := by rw [e7]; exact sb_so (by omega) g4
  have f10 : sb_fr A A6 t (t + 2) := f5.set e7 g3 (by simp) (by omega) (by omega)
  refine wp_st 1 (f' := (104, [some (.ref (t)), some (.int (Int32.ofNat N)), some (.int (Int32.ofNat (((((120 - n) - 1) - 1) - 1) - 1))), some (.int ((Int32.ofNat 24) + (-8))), some (.int (Int32.ofNat b1))], [], A6)) rfl ?_
  rw [show (Int32.ofNat 24) + (-8) = Int32.ofNat 16 from by decide]
  refine wp_st 2 (f' := (50, [some (.ref (t)), some (.int (Int32.ofNat N)), some (.int (Int32.ofNat (((((120 - n) - 1) - 1) - 1) - 1))), some (.int (Int32.ofNat 16)), some (.int (Int32.ofNat b1))], [.int (Int32.ofNat 16)], A6)) rfl ?_
  refine wp_izF rfl rfl (Int32.ofNat_not_neg (by omega)) ?_
  refine wp_st 5 (f' := (60, [some (.ref (t)), some (.int (Int32.ofNat N)), some (.int (Int32.ofNat (((((120 - n) - 1) - 1) - 1) - 1))), some (.int (Int32.ofNat 16)), some (.int (Int32.ofNat b1))], [.int ((((Int32.ofNat N).toUInt32 >>> ((Int32.ofNat 16).toUInt32 &&& Int32.toUInt32 31)).toInt32) &&& (Int32.ofNat 255))], A6)) rfl ?_
  rw [show (((Int32.ofNat N).toUInt32 >>> ((Int32.ofNat 16).toUInt32 &&& Int32.toUInt32 31)).toInt32) &&& (Int32.ofNat 255) = Int32.ofNat b2 from by rw [sb_ush (k := 16) (by omega), sb_by_n (by omega)]; first | done | (congr 1; omega)]
  refine wp_st 2 (f' := (64, [some (.ref (t)), some (.int (Int32.ofNat N)), some (.int (Int32.ofNat (((((120 - n) - 1) - 1) - 1) - 1))), some (.int (Int32.ofNat 16)), some (.int (Int32.ofNat b2))], [.int (Int32.ofNat b2)], A6)) rfl ?_
  refine wp_izF rfl rfl (fun q => absurd ((i32_eq (a := b2) (b := 0) (by omega) (by omega)).mp q) (by omega)) ?_
  refine wp_st 1 (f' := (68, [some (.ref (t)), some (.int (Int32.ofNat N)), some (.int (Int32.ofNat (((((120 - n) - 1) - 1) - 1) - 1))), some (.int (Int32.ofNat 16)), some (.int (Int32.ofNat b2))], [.ref (t)], A6)) rfl ?_
  refine wp_gf rfl rfl g8 rfl rfl ?_
  refine wp_st 1 (f' := (72, [some (.ref (t)), some (.int (Int32.ofNat N)), some (.int (Int32.ofNat (((((120 - n) - 1) - 1) - 1) - 1))), some (.int (Int32.ofNat 16)), some (.int (Int32.ofNat b2))], [.ref (t), .int (Int32.ofNat (n + 1))], A6)) rfl ?_
  refine wp_gf rfl rfl g8 rfl rfl ?_
  refine wp_ln rfl g9 rfl rfl rfl ?_
  rw [show ((cs.set n b1).map sb_c).length = 120 from by simp [hl]]
  refine wp_ifF rfl rfl (fun q => absurd ((i32_le (a := 120) (b := n + 1) (by omega) (by omega)).mp q) (by omega)) ?_
  refine wp_st 1 (f' := (80, [some (.ref (t)), some (.int (Int32.ofNat N)), some (.int (Int32.ofNat (((((120 - n) - 1) - 1) - 1) - 1))), some (.int (Int32.ofNat 16)), some (.int (Int32.ofNat b2))], [.ref (t)], A6)) rfl ?_
  refine wp_gf rfl rfl g8 rfl rfl ?_
  refine wp_st 1 (f' := (84, [some (.ref (t)), some (.int (Int32.ofNat N)), some (.int (Int32.ofNat (((((120 - n) - 1) - 1) - 1) - 1))), some (.int (Int32.ofNat 16)), some (.int (Int32.ofNat b2))], [.ref (t), .ref (t + 1)], A6)) rfl ?_
  refine wp_gf rfl rfl g8 rfl rfl ?_
  refine wp_st 2 (f' := (90, [some (.ref (t)), some (.int (Int32.ofNat N)), some (.int (Int32.ofNat (((((120 - n) - 1) - 1) - 1) - 1))), some (.int (Int32.ofNat 16)), some (.int (Int32.ofNat b2))], [.int (((Int32.ofNat b2).toUInt32 % 65536).toInt32), .int (Int32.ofNat (n + 1)), .ref (t + 1)], A6)) rfl ?_
  rw [i32_i2c (b := b2) (by omega)]
  obtain ⟨A11, e12⟩ : ∃ B, B = A6.set (t + 1) (102, ((cs.set n b1).set (n + 1) b2).map sb_c) := ⟨_, rfl⟩
  refine wp_as (A' := A11) rfl (Or.inr (Or.inl ⟨rfl, rfl, rfl⟩)) g9 (by omega) (by simp; omega) (decide_eq_true (by omega)) rfl (by rw [e12]; rw [sb_sc (by omega)]) ?_
  have g13 : A11[t]? = some (1, [.ref (t + 1), .int (Int32.ofNat (n + 1)), .int (Int32.ofNat a), .int (f)]) := by rw [e12]; exact sb_so (by omega) g8
  have g14 : A11[t + 1]? = some (102, ((cs.set n b1).set (n + 1) b2).map sb_c) := by rw [e12]; exact sb_ss g9
  have f15 : sb_fr A A11 t (t + 2) := f10.set e12 g9 (by simp) (by omega) (by omega)
  refine wp_st 2 (f' := (93, [some (.ref (t)), some (.int (Int32.ofNat N)), some (.int (Int32.ofNat (((((120 - n) - 1) - 1) - 1) - 1))), some (.int (Int32.ofNat 16)), some (.int (Int32.ofNat b2))], [.ref (t), .ref (t)], A11)) rfl ?_
  refine wp_gf rfl rfl g13 rfl rfl ?_
  refine wp_st 2 (f' := (98, [some (.ref (t)), some (.int (Int32.ofNat N)), some (.int (Int32.ofNat (((((120 - n) - 1) - 1) - 1) - 1))), some (.int (Int32.ofNat 16)), some (.int (Int32.ofNat b2))], [.int ((Int32.ofNat (n + 1)) + (Int32.ofNat 1)), .ref (t)], A11)) rfl ?_
  rw [i32_add (n + 1) (1)]
  obtain ⟨A16, e17⟩ : ∃ B, B = A11.set (t) (1, [.ref (t + 1), .int (Int32.ofNat (n + 1 + 1)), .int (Int32.ofNat a), .int (f)]) := ⟨_, rfl⟩
  refine wp_pf (A' := A16) rfl rfl g13 rfl rfl (decide_eq_true (by omega)) rfl e17.symm ?_
  have g18 : A16[t]? = some (1, [.ref (t + 1), .int (Int32.ofNat (n + 1 + 1)), .int (Int32.ofNat a), .int (f)]) := by rw [e17]; exact sb_ss g13
  have g19 : A16[t + 1]? = some (102, ((cs.set n b1).set (n + 1) b2).map sb_c) := by rw [e17]; exact sb_so (by omega) g14
  have f20 : sb_fr A A16 t (t + 2) := f15.set e17 g13 (by simp) (by omega) (by omega)
  refine wp_st 1 (f' := (104, [some (.ref (t)), some (.int (Int32.ofNat N)), some (.int (Int32.ofNat (((((120 - n) - 1) - 1) - 1) - 1))), some (.int ((Int32.ofNat 16) + (-8))), some (.int (Int32.ofNat b2))], [], A16)) rfl ?_
  rw [show (Int32.ofNat 16) + (-8) = Int32.ofNat 8 from by decide]
  refine wp_st 2 (f' := (50, [some (.ref (t)), some (.int (Int32.ofNat N)), some (.int (Int32.ofNat (((((120 - n) - 1) - 1) - 1) - 1))), some (.int (Int32.ofNat 8)), some (.int (Int32.ofNat b2))], [.int (Int32.ofNat 8)], A16)) rfl ?_
  refine wp_izF rfl rfl (Int32.ofNat_not_neg (by omega)) ?_
  refine wp_st 5 (f' := (60, [some (.ref (t)), some (.int (Int32.ofNat N)), some (.int (Int32.ofNat (((((120 - n) - 1) - 1) - 1) - 1))), some (.int (Int32.ofNat 8)), some (.int (Int32.ofNat b2))], [.int ((((Int32.ofNat N).toUInt32 >>> ((Int32.ofNat 8).toUInt32 &&& Int32.toUInt32 31)).toInt32) &&& (Int32.ofNat 255))], A16)) rfl ?_
  rw [show (((Int32.ofNat N).toUInt32 >>> ((Int32.ofNat 8).toUInt32 &&& Int32.toUInt32 31)).toInt32) &&& (Int32.ofNat 255) = Int32.ofNat b3 from by rw [sb_ush (k := 8) (by omega), sb_by_n (by omega)]; first | done | (congr 1; omega)]
  refine wp_st 2 (f' := (64, [some (.ref (t)), some (.int (Int32.ofNat N)), some (.int (Int32.ofNat (((((120 - n) - 1) - 1) - 1) - 1))), some (.int (Int32.ofNat 8)), some (.int (Int32.ofNat b3))], [.int (Int32.ofNat b3)], A16)) rfl ?_
  refine wp_izF rfl rfl (fun q => absurd ((i32_eq (a := b3) (b := 0) (by omega) (by omega)).mp q) (by omega)) ?_
  refine wp_st 1 (f' := (68, [some (.ref (t)), some (.int (Int32.ofNat N)), some (.int (Int32.ofNat (((((120 - n) - 1) - 1) - 1) - 1))), some (.int (Int32.ofNat 8)), some (.int (Int32.ofNat b3))], [.ref (t)], A16)) rfl ?_
  refine wp_gf rfl rfl g18 rfl rfl ?_
  refine wp_st 1 (f' := (72, [some (.ref (t)), some (.int (Int32.ofNat N)), some (.int (Int32.ofNat (((((120 - n) - 1) - 1) - 1) - 1))), some (.int (Int32.ofNat 8)), some (.int (Int32.ofNat b3))], [.ref (t), .int (Int32.ofNat (n + 1 + 1))], A16)) rfl ?_
  refine wp_gf rfl rfl g18 rfl rfl ?_
  refine wp_ln rfl g19 rfl rfl rfl ?_
  rw [show (((cs.set n b1).set (n + 1) b2).map sb_c).length = 120 from by simp [hl]]
  refine wp_ifF rfl rfl (fun q => absurd ((i32_le (a := 120) (b := n + 1 + 1) (by omega) (by omega)).mp q) (by omega)) ?_
  refine wp_st 1 (f' := (80, [some (.ref (t)), some (.int (Int32.ofNat N)), some (.int (Int32.ofNat (((((120 - n) - 1) - 1) - 1) - 1))), some (.int (Int32.ofNat 8)), some (.int (Int32.ofNat b3))], [.ref (t)], A16)) rfl ?_
  refine wp_gf rfl rfl g18 rfl rfl ?_
  refine wp_st 1 (f' := (84, [some (.ref (t)), some (.int (Int32.ofNat N)), some (.int (Int32.ofNat (((((120 - n) - 1) - 1) - 1) - 1))), some (.int (Int32.ofNat 8)), some (.int (Int32.ofNat b3))], [.ref (t), .ref (t + 1)], A16)) rfl ?_
  refine wp_gf rfl rfl g18 rfl rfl ?_
  refine wp_st 2 (f' := (90, [some (.ref (t)), some (.int (Int32.ofNat N)), some (.int (Int32.ofNat (((((120 - n) - 1) - 1) - 1) - 1))), some (.int (Int32.ofNat 8)), some (.int (Int32.ofNat b3))], [.int (((Int32.ofNat b3).toUInt32 % 65536).toInt32), .int (Int32.ofNat (n + 1 + 1)), .ref (t + 1)], A16)) rfl ?_
  rw [i32_i2c (b := b3) (by omega)]
  obtain ⟨A21, e22⟩ : ∃ B, B = A16.set (t + 1) (102, (((cs.set n b1).set (n + 1) b2).set (n + 1 + 1) b3).map sb_c) := ⟨_, rfl⟩
  refine wp_as (A' := A21) rfl (Or.inr (Or.inl ⟨rfl, rfl, rfl⟩)) g19 (by omega) (by simp; omega) (decide_eq_true (by omega)) rfl (by rw [e22]; rw [sb_sc (by omega)]) ?_
  have g23 : A21[t]? = some (1, [.ref (t + 1), .int (Int32.ofNat (n + 1 + 1)), .int (Int32.ofNat a), .int (f)]) := by rw [e22]; exact sb_so (by omega) g18
  have g24 : A21[t + 1]? = some (102, (((cs.set n b1).set (n + 1) b2).set (n + 1 + 1) b3).map sb_c) := by rw [e22]; exact sb_ss g19
  have f25 : sb_fr A A21 t (t + 2) := f20.set e22 g19 (by simp) (by omega) (by omega)
  refine wp_st 2 (f' := (93, [some (.ref (t)), some (.int (Int32.ofNat N)), some (.int (Int32.ofNat (((((120 - n) - 1) - 1) - 1) - 1))), some (.int (Int32.ofNat 8)), some (.int (Int32.ofNat b3))], [.ref (t), .ref (t)], A21)) rfl ?_
  refine wp_gf rfl rfl g23 rfl rfl ?_
  refine wp_st 2 (f' := (98, [some (.ref (t)), some (.int (Int32.ofNat N)), some (.int (Int32.ofNat (((((120 - n) - 1) - 1) - 1) - 1))), some (.int (Int32.ofNat 8)), some (.int (Int32.ofNat b3))], [.int ((Int32.ofNat (n + 1 + 1)) + (Int32.ofNat 1)), .ref (t)], A21)) rfl ?_
  rw [i32_add (n + 1 + 1) (1)]
  obtain ⟨A26, e27⟩ : ∃ B, B = A21.set (t) (1, [.ref (t + 1), .int (Int32.ofNat (n + 1 + 1 + 1)), .int (Int32.ofNat a), .int (f)]) := ⟨_, rfl⟩
  refine wp_pf (A' := A26) rfl rfl g23 rfl rfl (decide_eq_true (by omega)) rfl e27.symm ?_
  have g28 : A26[t]? = some (1, [.ref (t + 1), .int (Int32.ofNat (n + 1 + 1 + 1)), .int (Int32.ofNat a), .int (f)]) := by rw [e27]; exact sb_ss g23
  have g29 : A26[t + 1]? = some (102, (((cs.set n b1).set (n + 1) b2).set (n + 1 + 1) b3).map sb_c) := by rw [e27]; exact sb_so (by omega) g24
  have f30 : sb_fr A A26 t (t + 2) := f25.set e27 g23 (by simp) (by omega) (by omega)
  refine wp_st 1 (f' := (104, [some (.ref (t)), some (.int (Int32.ofNat N)), some (.int (Int32.ofNat (((((120 - n) - 1) - 1) - 1) - 1))), some (.int ((Int32.ofNat 8) + (-8))), some (.int (Int32.ofNat b3))], [], A26)) rfl ?_
  rw [show (Int32.ofNat 8) + (-8) = Int32.ofNat 0 from by decide]
  refine wp_st 2 (f' := (50, [some (.ref (t)), some (.int (Int32.ofNat N)), some (.int (Int32.ofNat (((((120 - n) - 1) - 1) - 1) - 1))), some (.int (Int32.ofNat 0)), some (.int (Int32.ofNat b3))], [.int (Int32.ofNat 0)], A26)) rfl ?_
  refine wp_izF rfl rfl (Int32.ofNat_not_neg (by omega)) ?_
  refine wp_st 5 (f' := (60, [some (.ref (t)), some (.int (Int32.ofNat N)), some (.int (Int32.ofNat (((((120 - n) - 1) - 1) - 1) - 1))), some (.int (Int32.ofNat 0)), some (.int (Int32.ofNat b3))], [.int ((((Int32.ofNat N).toUInt32 >>> ((Int32.ofNat 0).toUInt32 &&& Int32.toUInt32 31)).toInt32) &&& (Int32.ofNat 255))], A26)) rfl ?_
  rw [show (((Int32.ofNat N).toUInt32 >>> ((Int32.ofNat 0).toUInt32 &&& Int32.toUInt32 31)).toInt32) &&& (Int32.ofNat 255) = Int32.ofNat b4 from by rw [sb_ush (k := 0) (by omega), sb_by_n (by omega)]; first | done | (congr 1; omega)]
  refine wp_st 2 (f' := (64, [some (.ref (t)), some (.int (Int32.ofNat N)), some (.int (Int32.ofNat (((((120 - n) - 1) - 1) - 1) - 1))), some (.int (Int32.ofNat 0)), some (.int (Int32.ofNat b4))], [.int (Int32.ofNat b4)], A26)) rfl ?_
  refine wp_izF rfl rfl (fun q => absurd ((i32_eq (a := b4) (b := 0) (by omega) (by omega)).mp q) (by omega)) ?_
  refine wp_st 1 (f' := (68, [some (.ref (t)), some (.int (Int32.ofNat N)), some (.int (Int32.ofNat (((((120 - n) - 1) - 1) - 1) - 1))), some (.int (Int32.ofNat 0)), some (.int (Int32.ofNat b4))], [.ref (t)], A26)) rfl ?_
  refine wp_gf rfl rfl g28 rfl rfl ?_
  refine wp_st 1 (f' := (72, [some (.ref (t)), some (.int (Int32.ofNat N)), some (.int (Int32.ofNat (((((120 - n) - 1) - 1) - 1) - 1))), some (.int (Int32.ofNat 0)), some (.int (Int32.ofNat b4))], [.ref (t), .int (Int32.ofNat (n + 1 + 1 + 1))], A26)) rfl ?_
  refine wp_gf rfl rfl g28 rfl rfl ?_
  refine wp_ln rfl g29 rfl rfl rfl ?_
  rw [show ((((cs.set n b1).set (n + 1) b2).set (n + 1 + 1) b3).map sb_c).length = 120 from by simp [hl]]
  refine wp_ifF rfl rfl (fun q => absurd ((i32_le (a := 120) (b := n + 1 + 1 + 1) (by omega) (by omega)).mp q) (by omega)) ?_
  refine wp_st 1 (f' := (80, [some (.ref (t)), some (.int (Int32.ofNat N)), some (.int (Int32.ofNat (((((120 - n) - 1) - 1) - 1) - 1))), some (.int (Int32.ofNat 0)), some (.int (Int32.ofNat b4))], [.ref (t)], A26)) rfl ?_
  refine wp_gf rfl rfl g28 rfl rfl ?_
  refine wp_st 1 (f' := (84, [some (.ref (t)), some (.int (Int32.ofNat N)), some (.int (Int32.ofNat (((((120 - n) - 1) - 1) - 1) - 1))), some (.int (Int32.ofNat 0)), some (.int (Int32.ofNat b4))], [.ref (t), .ref (t + 1)], A26)) rfl ?_
  refine wp_gf rfl rfl g28 rfl rfl ?_
  refine wp_st 2 (f' := (90, [some (.ref (t)), some (.int (Int32.ofNat N)), some (.int (Int32.ofNat (((((120 - n) - 1) - 1) - 1) - 1))), some (.int (Int32.ofNat 0)), some (.int (Int32.ofNat b4))], [.int (((Int32.ofNat b4).toUInt32 % 65536).toInt32), .int (Int32.ofNat (n + 1 + 1 + 1)), .ref (t + 1)], A26)) rfl ?_
  rw [i32_i2c (b := b4) (by omega)]
  obtain ⟨A31, e32⟩ : ∃ B, B = A26.set (t + 1) (102, ((((cs.set n b1).set (n + 1) b2).set (n + 1 + 1) b3).set (n + 1 + 1 + 1) b4).map sb_c) := ⟨_, rfl⟩
  refine wp_as (A' := A31) rfl (Or.inr (Or.inl ⟨rfl, rfl, rfl⟩)) g29 (by omega) (by simp; omega) (decide_eq_true (by omega)) rfl (by rw [e32]; rw [sb_sc (by omega)]) ?_
  have g33 : A31[t]? = some (1, [.ref (t + 1), .int (Int32.ofNat (n + 1 + 1 + 1)), .int (Int32.ofNat a), .int (f)]) := by rw [e32]; exact sb_so (by omega) g28
  have g34 : A31[t + 1]? = some (102, ((((cs.set n b1).set (n + 1) b2).set (n + 1 + 1) b3).set (n + 1 + 1 + 1) b4).map sb_c) := by rw [e32]; exact sb_ss g29
  have f35 : sb_fr A A31 t (t + 2) := f30.set e32 g29 (by simp) (by omega) (by omega)
  refine wp_st 2 (f' := (93, [some (.ref (t)), some (.int (Int32.ofNat N)), some (.int (Int32.ofNat (((((120 - n) - 1) - 1) - 1) - 1))), some (.int (Int32.ofNat 0)), some (.int (Int32.ofNat b4))], [.ref (t), .ref (t)], A31)) rfl ?_
  refine wp_gf rfl rfl g33 rfl rfl ?_
  refine wp_st 2 (f' := (98, [some (.ref (t)), some (.int (Int32.ofNat N)), some (.int (Int32.ofNat (((((120 - n) - 1) - 1) - 1) - 1))), some (.int (Int32.ofNat 0)), some (.int (Int32.ofNat b4))], [.int ((Int32.ofNat (n + 1 + 1 + 1)) + (Int32.ofNat 1)), .ref (t)], A31)) rfl ?_
  rw [i32_add (n + 1 + 1 + 1) (1)]
  obtain ⟨A36, e37⟩ : ∃ B, B = A31.set (t) (1, [.ref (t + 1), .int (Int32.ofNat (n + 1 + 1 + 1 + 1)), .int (Int32.ofNat a), .int (f)]) := ⟨_, rfl⟩
  refine wp_pf (A' := A36) rfl rfl g33 rfl rfl (decide_eq_true (by omega)) rfl e37.symm ?_
  have g38 : A36[t]? = some (1, [.ref (t + 1), .int (Int32.ofNat (n + 1 + 1 + 1 + 1)), .int (Int32.ofNat a), .int (f)]) := by rw [e37]; exact sb_ss g33
  have g39 : A36[t + 1]? = some (102, ((((cs.set n b1).set (n + 1) b2).set (n + 1 + 1) b3).set (n + 1 + 1 + 1) b4).map sb_c) := by rw [e37]; exact sb_so (by omega) g34
  have f40 : sb_fr A A36 t (t + 2) := f35.set e37 g33 (by simp) (by omega) (by omega)
  refine wp_st 1 (f' := (104, [some (.ref (t)), some (.int (Int32.ofNat N)), some (.int (Int32.ofNat (((((120 - n) - 1) - 1) - 1) - 1))), some (.int ((Int32.ofNat 0) + (-8))), some (.int (Int32.ofNat b4))], [], A36)) rfl ?_
  rw [show (Int32.ofNat 0) + (-8) = (-8) from by decide]
  refine wp_st 2 (f' := (50, [some (.ref (t)), some (.int (Int32.ofNat N)), some (.int (Int32.ofNat (((((120 - n) - 1) - 1) - 1) - 1))), some (.int ((-8))), some (.int (Int32.ofNat b4))], [.int ((-8))], A36)) rfl ?_
  refine wp_izT rfl rfl (show (-8 : Int32) < Int32.ofNat 0 from by decide) ?_
  refine wp_st 1 (f' := (108, [some (.ref (t)), some (.int (Int32.ofNat N)), some (.int (Int32.ofNat (((((120 - n) - 1) - 1) - 1) - 1))), some (.int ((-8))), some (.int (Int32.ofNat b4))], [.int (Int32.ofNat 1)], A36)) rfl ?_
  refine wp_rt rfl rfl rfl ?_
  refine ⟨rfl, ⟨g38, g39, by simp [hl], by omega, ha, fun k => ?_, h45⟩, f40⟩
  exact sb_st4 hb (by omega) (by omega) (by omega) (by omega) k
theorem i32_neg4m {R : Nat} (h : R < 4) : ¬ Int32.ofNat 0 ≤ ((((Int32.ofNat R) + (-1)) + (-1)) + (-1)) + (-1) := by
  have h1 : ∀ x : Fin 4, ¬ Int32.ofNat 0 ≤ ((((Int32.ofNat x.val) + (-1)) + (-1)) + (-1)) + (-1) := by decide +kernel
  exact h1 ⟨R, h⟩
theorem tx_apf4 {d t n a N b1 b2 b3 b4 : Nat} {f : Int32} {cs : List Nat} {A : am_H} (hN : N = ((((0 * 256 + b1) * 256 + b2) * 256 + b3) * 256 + b4)) (hb1 : 32 ≤ b1 ∧ b1 ≤ 126) (hb2 : 32 ≤ b2 ∧ b2 ≤ 126) (hb3 : 32 ≤ b3 ∧ b3 ≤ 126) (hb4 : 32 ≤ b4 ∧ b4 ≤ 126) (hr : 120 < n + 4) (h : sb_T A t cs n a f) : am_go d 10 [.ref t, .int (Int32.ofNat N)] A (.inl (some (.int 0)), A) := by
  have hh := h
  have hNl : N < 2147483648 := by omega
  obtain ⟨hT, hC, hl, hn, ha, hb, h45⟩ := h
  unfold sb_tc at hT
  refine wp_go ?_
  refine wp_st 1 (f' := (1, [some (.ref (t)), some (.int (Int32.ofNat N)), none, none, none], [.ref (t)], A)) rfl ?_
  refine wp_gf rfl rfl hT rfl rfl ?_
  refine wp_ln rfl hC rfl rfl rfl ?_
  rw [show (cs.map sb_c).length = 120 from by simp [hl]]
  refine wp_st 1 (f' := (6, [some (.ref (t)), some (.int (Int32.ofNat N)), none, none, none], [.ref (t), .int (Int32.ofNat 120)], A)) rfl ?_
  refine wp_gf rfl rfl hT rfl rfl ?_
  refine wp_st 1 (f' := (10, [some (.ref (t)), some (.int (Int32.ofNat N)), none, none, none], [.int ((Int32.ofNat 120) - (Int32.ofNat n))], A)) rfl ?_
  rw [i32_sub (a := 120) (b := n) (by omega)]
  refine wp_st 6 (f' := (17, [some (.ref (t)), some (.int (Int32.ofNat N)), some (.int (Int32.ofNat (120 - n))), some (.int (Int32.ofNat N)), some (.int (Int32.ofNat 0))], [.int (Int32.ofNat N)], A)) rfl ?_
  refine wp_izF rfl rfl (fun q => absurd ((i32_eq (a := N) (b := 0) (by omega) (by omega)).mp q) (by omega)) ?_
  refine wp_st 2 (f' := (23, [some (.ref (t)), some (.int (Int32.ofNat N)), some (.int (Int32.ofNat (120 - n))), some (.int (Int32.ofNat N)), some (.int (Int32.ofNat 0))], [.int (Int32.ofNat 4), .int (Int32.ofNat 0)], A)) rfl ?_
  refine wp_ifF rfl rfl (fun q => absurd ((i32_le (a := 4) (b := 0) (by omega) (by omega)).mp q) (by omega)) ?_
  refine wp_st 4 (f' := (33, [some (.ref (t)), some (.int (Int32.ofNat N)), some (.int ((Int32.ofNat (120 - n)) + (-1))), some (.int (Int32.ofNat N)), some (.int (Int32.ofNat 0))], [.int (((Int32.ofNat N).toUInt32 >>> ((Int32.ofNat 8).toUInt32 &&& Int32.toUInt32 31)).toInt32)], A)) rfl ?_
  rw [show ((Int32.ofNat N).toUInt32 >>> ((Int32.ofNat 8).toUInt32 &&& Int32.toUInt32 31)).toInt32 = Int32.ofNat (N / 256) from by rw [i32_ush8 (by omega)]; first | done | (congr 1; omega)]
  refine wp_st 2 (f' := (37, [some (.ref (t)), some (.int (Int32.ofNat N)), some (.int ((Int32.ofNat (120 - n)) + (-1))), some (.int (Int32.ofNat (N / 256))), some (.int ((Int32.ofNat 0) + (Int32.ofNat 1)))], [], A)) rfl ?_
  rw [i32_add (0) (1)]
  refine wp_st 2 (f' := (17, [some (.ref (t)), some (.int (Int32.ofNat N)), some (.int ((Int32.ofNat (120 - n)) + (-1))), some (.int (Int32.ofNat (N / 256))), some (.int (Int32.ofNat (0 + 1)))], [.int (Int32.ofNat (N / 256))], A)) rfl ?_
  refine wp_izF rfl rfl (fun q => absurd ((i32_eq (a := N / 256) (b := 0) (by omega) (by omega)).mp q) (by omega)) ?_
  refine wp_st 2 (f' := (23, [some (.ref (t)), some (.int (Int32.ofNat N)), some (.int ((Int32.ofNat (120 - n)) + (-1))), some (.int (Int32.ofNat (N / 256))), some (.int (Int32.ofNat (0 + 1)))], [.int (Int32.ofNat 4), .int (Int32.ofNat (0 + 1))], A)) rfl ?_
  refine wp_ifF rfl rfl (fun q => absurd ((i32_le (a := 4) (b := 0 + 1) (by omega) (by omega)).mp q) (by omega)) ?_
  refine wp_st 4 (f' := (33, [some (.ref (t)), some (.int (Int32.ofNat N)), some (.int (((Int32.ofNat (120 - n)) + (-1)) + (-1))), some (.int (Int32.ofNat (N / 256))), some (.int (Int32.ofNat (0 + 1)))], [.int (((Int32.ofNat (N / 256)).toUInt32 >>> ((Int32.ofNat 8).toUInt32 &&& Int32.toUInt32 31)).toInt32)], A)) rfl ?_
  rw [show ((Int32.ofNat (N / 256)).toUInt32 >>> ((Int32.ofNat 8).toUInt32 &&& Int32.toUInt32 31)).toInt32 = Int32.ofNat (N / 65536) from by rw [i32_ush8 (by omega)]; first | done | (congr 1; omega)]
  refine wp_st 2 (f' := (37, [some (.ref (t)), some (.int (Int32.ofNat N)), some (.int (((Int32.ofNat (120 - n)) + (-1)) + (-1))), some (.int (Int32.ofNat (N / 65536))), some (.int ((Int32.ofNat (0 + 1)) + (Int32.ofNat 1)))], [], A)) rfl ?_
  rw [i32_add (0 + 1) (1)]
  refine wp_st 2 (f' := (17, [some (.ref (t)), some (.int (Int32.ofNat N)), some (.int (((Int32.ofNat (120 - n)) + (-1)) + (-1))), some (.int (Int32.ofNat (N / 65536))), some (.int (Int32.ofNat (0 + 1 + 1)))], [.int (Int32.ofNat (N / 65536))], A)) rfl ?_
  refine wp_izF rfl rfl (fun q => absurd ((i32_eq (a := N / 65536) (b := 0) (by omega) (by omega)).mp q) (by omega)) ?_
  refine wp_st 2 (f' := (23, [some (.ref (t)), some (.int (Int32.ofNat N)), some (.int (((Int32.ofNat (120 - n)) + (-1)) + (-1))), some (.int (Int32.ofNat (N / 65536))), some (.int (Int32.ofNat (0 + 1 + 1)))], [.int (Int32.ofNat 4), .int (Int32.ofNat (0 + 1 + 1))], A)) rfl ?_
  refine wp_ifF rfl rfl (fun q => absurd ((i32_le (a := 4) (b := 0 + 1 + 1) (by omega) (by omega)).mp q) (by omega)) ?_
  refine wp_st 4 (f' := (33, [some (.ref (t)), some (.int (Int32.ofNat N)), some (.int ((((Int32.ofNat (120 - n)) + (-1)) + (-1)) + (-1))), some (.int (Int32.ofNat (N / 65536))), some (.int (Int32.ofNat (0 + 1 + 1)))], [.int (((Int32.ofNat (N / 65536)).toUInt32 >>> ((Int32.ofNat 8).toUInt32 &&& Int32.toUInt32 31)).toInt32)], A)) rfl ?_
  rw [show ((Int32.ofNat (N / 65536)).toUInt32 >>> ((Int32.ofNat 8).toUInt32 &&& Int32.toUInt32 31)).toInt32 = Int32.ofNat (N / 16777216) from by rw [i32_ush8 (by omega)]; first | done | (congr 1; omega)]
  refine wp_st 2 (f' := (37, [some (.ref (t)), some (.int (Int32.ofNat N)), some (.int ((((Int32.ofNat (120 - n)) + (-1)) + (-1)) + (-1))), some (.int (Int32.ofNat (N / 16777216))), some (.int ((Int32.ofNat (0 + 1 + 1)) + (Int32.ofNat 1)))], [], A)) rfl ?_
  rw [i32_add (0 + 1 + 1) (1)]
  refine wp_st 2 (f' := (17, [some (.ref (t)), some (.int (Int32.ofNat N)), some (.int ((((Int32.ofNat (120 - n)) + (-1)) + (-1)) + (-1))), some (.int (Int32.ofNat (N / 16777216))), some (.int (Int32.ofNat (0 + 1 + 1 + 1)))], [.int (Int32.ofNat (N / 16777216))], A)) rfl ?_
  refine wp_izF rfl rfl (fun q => absurd ((i32_eq (a := N / 16777216) (b := 0) (by omega) (by omega)).mp q) (by omega)) ?_
  refine wp_st 2 (f' := (23, [some (.ref (t)), some (.int (Int32.ofNat N)), some (.int ((((Int32.ofNat (120 - n)) + (-1)) + (-1)) + (-1))), some (.int (Int32.ofNat (N / 16777216))), some (.int (Int32.ofNat (0 + 1 + 1 + 1)))], [.int (Int32.ofNat 4), .int (Int32.ofNat (0 + 1 + 1 + 1))], A)) rfl ?_
  refine wp_ifF rfl rfl (fun q => absurd ((i32_le (a := 4) (b := 0 + 1 + 1 + 1) (by omega) (by omega)).mp q) (by omega)) ?_
  refine wp_st 4 (f' := (33, [some (.ref (t)), some (.int (Int32.ofNat N)), some (.int (((((Int32.ofNat (120 - n)) + (-1)) + (-1)) + (-1)) + (-1))), some (.int (Int32.ofNat (N / 16777216))), some (.int (Int32.ofNat (0 + 1 + 1 + 1)))], [.int (((Int32.ofNat (N / 16777216)).toUInt32 >>> ((Int32.ofNat 8).toUInt32 &&& Int32.toUInt32 31)).toInt32)], A)) rfl ?_
  rw [show ((Int32.ofNat (N / 16777216)).toUInt32 >>> ((Int32.ofNat 8).toUInt32 &&& Int32.toUInt32 31)).toInt32 = Int32.ofNat (N / 4294967296) from by rw [i32_ush8 (by omega)]; first | done | (congr 1; omega)]
  refine wp_st 2 (f' := (37, [some (.ref (t)), some (.int (Int32.ofNat N)), some (.int (((((Int32.ofNat (120 - n)) + (-1)) + (-1)) + (-1)) + (-1))), some (.int (Int32.ofNat (N / 4294967296))), some (.int ((Int32.ofNat (0 + 1 + 1 + 1)) + (Int32.ofNat 1)))], [], A)) rfl ?_
  rw [i32_add (0 + 1 + 1 + 1) (1)]
  refine wp_st 2 (f' := (17, [some (.ref (t)), some (.int (Int32.ofNat N)), some (.int (((((Int32.ofNat (120 - n)) + (-1)) + (-1)) + (-1)) + (-1))), some (.int (Int32.ofNat (N / 4294967296))), some (.int (Int32.ofNat (0 + 1 + 1 + 1 + 1)))], [.int (Int32.ofNat (N / 4294967296))], A)) rfl ?_
  refine wp_izT rfl rfl ((i32_eq (a := N / 4294967296) (b := 0) (by omega) (by omega)).mpr (by omega)) ?_
  refine wp_st 1 (f' := (41, [some (.ref (t)), some (.int (Int32.ofNat N)), some (.int (((((Int32.ofNat (120 - n)) + (-1)) + (-1)) + (-1)) + (-1))), some (.int (Int32.ofNat (N / 4294967296))), some (.int (Int32.ofNat (0 + 1 + 1 + 1 + 1)))], [.int (((((Int32.ofNat (120 - n)) + (-1)) + (-1)) + (-1)) + (-1))], A)) rfl ?_
  refine wp_izF rfl rfl (i32_neg4m (by omega)) ?_
  refine wp_st 1 (f' := (45, [some (.ref (t)), some (.int (Int32.ofNat N)), some (.int (((((Int32.ofNat (120 - n)) + (-1)) + (-1)) + (-1)) + (-1))), some (.int (Int32.ofNat (N / 4294967296))), some (.int (Int32.ofNat (0 + 1 + 1 + 1 + 1)))], [.int (Int32.ofNat 0)], A)) rfl ?_
  refine wp_rt rfl rfl rfl ?_
  rfl
