/-! What the checks of the tables give. -/
theorem tb_fld (o x : Nat) (q : Nat × Nat) (h : am_fld o x = some q) : q.1 < 100 ∧ q.2 < am_N q.1 ∧ (am_T q.1 q.2).1 = am_cln q.1 ∧ Cond.fieldLink (am_cln o) x (am_cln q.1) (am_T q.1 q.2).2.1 (am_T q.1 q.2).2.2.1 ∈ am_ws := by
  have hm := am_lk_mem h
  have h1 := List.all_eq_true.mp (List.all_eq_true.mp ck_fld o (List.mem_range.mpr (am_bd hm))) _ hm
  simp only [Bool.and_eq_true, decide_eq_true_eq] at h1
  exact ⟨h1.1, h1.2.1, h1.2.2.1, am_iw_mem h1.2.2.2⟩
theorem tb_cl0 {k : Nat} (hk : k < am_nC) : (∀ w ∈ u_ws (am_cln k) (am_T k) (am_N k), w ∈ am_ws) ∧ Cond.instantiable (am_cln k) (am_N k) ∈ am_ws ∧ Cond.initialized (am_cln k) ∈ am_ws ∧ (∀ j, j < am_N k → parseFieldDescriptor (am_T k j).2.2.1 = some (am_fty k j)) ∧ (∀ a, a < am_N k → ∀ b, b < am_N k → a ≠ b → (am_T k a).2.1 ≠ (am_T k b).2.1) ∧ am_def k = (List.range (am_N k)).map fun j => defaultValue (am_fty k j) := by
  have h := am_rg1 ck_cls hk
  simp only [Bool.and_eq_true] at h
  obtain ⟨h1, h2, h3, h4, h5⟩ := h
  refine ⟨fun w hw => ?_, am_iw_mem h1, am_iw_mem h2, fun j hj => ?_, fun a ha b hb hab => ?_, of_decide_eq_true h5⟩
  · obtain ⟨j, hj, rfl⟩ := List.mem_map.mp hw
    have := List.all_eq_true.mp h3 j hj
    simp only [Bool.and_eq_true] at this
    exact am_iw_mem this.1
  · have := List.all_eq_true.mp h3 j (List.mem_range.mpr hj)
    simp only [Bool.and_eq_true] at this
    exact of_decide_eq_true this.2
  · have := List.all_eq_true.mp (List.all_eq_true.mp h4 a (List.mem_range.mpr ha)) b (List.mem_range.mpr hb)
    simp only [Bool.or_eq_true, decide_eq_true_eq] at this
    exact this.resolve_left hab
theorem tb_cls (k : Nat) (hk : k < am_nC) : (∀ w ∈ u_ws (am_cln k) (am_T k) (am_N k), w ∈ am_ws) ∧ Cond.instantiable (am_cln k) (am_N k) ∈ am_ws ∧ Cond.initialized (am_cln k) ∈ am_ws ∧ (∀ j, j < am_N k → parseFieldDescriptor (am_T k j).2.2.1 = some (am_fty k j)) ∧ (∀ a, a < am_N k → ∀ b, b < am_N k → a ≠ b → (am_T k a).2.1 ≠ (am_T k b).2.1) := by
  obtain ⟨h1, h2, h3, h4, h5, -⟩ := tb_cl0 hk
  exact ⟨h1, h2, h3, h4, h5⟩
theorem tb_def {k : Nat} (hk : k < am_nC) : am_def k = (List.range (am_N k)).map fun j => defaultValue (am_fty k j) := (tb_cl0 hk).2.2.2.2.2
theorem tb_nC {k : Nat} (hk : k < am_nC) : k < 50 := Nat.lt_of_lt_of_le hk (by decide +kernel)
theorem am_aty_100 : am_aty 100 = .int := by decide +kernel
theorem am_aty_101 : am_aty 101 = .long := by decide +kernel
theorem am_aty_102 : am_aty 102 = .char := by decide +kernel
theorem am_aty_103 : am_aty 103 = .boolean := by decide +kernel
theorem am_aty_104 : am_aty 104 = .byte := by decide +kernel
theorem am_cmp_inv {k q : Nat} (h : am_cmp k = some q) : (k = 110 ∧ q = 3) ∨ (k = 111 ∧ q = 4) ∨ (k = 112 ∧ q = 5) := by
  unfold am_cmp at h
  cases h1 : Nat.ble k 110 with
  | true =>
    rw [h1] at h
    cases h2 : Nat.beq k 110 with
    | true => rw [h2] at h; exact Or.inl ⟨Nat.eq_of_beq_eq_true h2, (Option.some.inj h).symm⟩
    | false => rw [h2] at h; cases h
  | false =>
    rw [h1] at h
    cases h3 : Nat.ble k 111 with
    | true =>
      rw [h3] at h
      cases h2 : Nat.beq k 111 with
      | true => rw [h2] at h; exact Or.inr (Or.inl ⟨Nat.eq_of_beq_eq_true h2, (Option.some.inj h).symm⟩)
      | false => rw [h2] at h; cases h
    | false =>
      rw [h3] at h
      cases h2 : Nat.beq k 112 with
      | true => rw [h2] at h; exact Or.inr (Or.inr ⟨Nat.eq_of_beq_eq_true h2, (Option.some.inj h).symm⟩)
      | false => rw [h2] at h; cases h
theorem tb_cmp {k q : Nat} (h : am_cmp k = some q) : 100 ≤ k ∧ k < 200 ∧ am_aty k = .object (am_cln q) := by
  rcases am_cmp_inv h with ⟨rfl, rfl⟩ | ⟨rfl, rfl⟩ | ⟨rfl, rfl⟩ <;> decide +kernel
theorem tb_cmp2 {k q : Nat} (h : am_cmp k = some q) : q < 100 := by
  rcases am_cmp_inv h with ⟨rfl, rfl⟩ | ⟨rfl, rfl⟩ | ⟨rfl, rfl⟩ <;> decide
/-- a store into a field: of our classes; of a final field by its own constructor alone -/
noncomputable def am_fin (m x : Nat) : Bool := match am_fld (am_own m) x with
  | some q => decide (q.1 < am_nC) && (!(am_T q.1 q.2).2.2.2 || (am_ini m && decide (am_own m = q.1)))
  | none => false
theorem am_fin_nC {m x : Nat} {q : Nat × Nat} (h : am_fin m x = true) (hq : am_fld (am_own m) x = some q) : q.1 < am_nC := by
  unfold am_fin at h
  rw [hq] at h
  simp only [Bool.and_eq_true, decide_eq_true_eq] at h
  exact h.1
theorem am_fin_init {m x : Nat} {q : Nat × Nat} (h : am_fin m x = true) (hq : am_fld (am_own m) x = some q) (hf : (am_T q.1 q.2).2.2.2 = true) : am_ini m = true ∧ am_cln (am_own m) = am_cln q.1 := by
  unfold am_fin at h
  rw [hq] at h
  simp only [Bool.and_eq_true, decide_eq_true_eq, Bool.or_eq_true, Bool.not_eq_true', hf] at h
  rcases h.2 with h2 | h2
  · cases h2
  · exact ⟨h2.1, by rw [h2.2]⟩
theorem tb_new {o x k : Nat} (h : am_cls o x = some k) : (k < am_nC ∧ Cond.classLink (am_cln o) x (am_cln k) ∈ am_ws ∧ True) ∨ (200 ≤ k ∧ k < 210 ∧ Cond.classLink (am_cln o) x (am_exn (k - 200)) ∈ am_ws ∧ Cond.instantiable (am_exn (k - 200)) 6 ∈ am_ws ∧ Cond.initialized (am_exn (k - 200)) ∈ am_ws ∧ (am_def k).length = 6) := by
  have hm := am_lk_mem h
  have h1 := List.all_eq_true.mp (List.all_eq_true.mp ck_new o (List.mem_range.mpr (am_bd hm))) _ hm
  simp only [Bool.and_eq_true, decide_eq_true_eq, Bool.or_eq_true] at h1
  rcases h1 with h1 | h1
  · exact Or.inl ⟨h1.1, am_iw_mem h1.2, trivial⟩
  · exact Or.inr ⟨h1.1, h1.2.1, am_iw_mem h1.2.2.1, am_iw_mem h1.2.2.2.1, am_iw_mem h1.2.2.2.2.1, h1.2.2.2.2.2⟩
theorem tb_ark {o x k : Nat} (h : am_ark o x = some k) : ∃ q, am_cmp k = some q ∧ Cond.classLink (am_cln o) x (am_cln q) ∈ am_ws ∧ am_cln q ∈ am_aos := by
  have hm := am_lk_mem h
  have h1 := List.all_eq_true.mp (List.all_eq_true.mp ck_ark o (List.mem_range.mpr (am_bd hm))) _ hm
  dsimp only at h1
  cases hc : am_cmp k with
  | none => rw [hc] at h1; cases h1
  | some q =>
    rw [hc] at h1
    simp only [Bool.and_eq_true, decide_eq_true_eq] at h1
    exact ⟨q, rfl, am_iw_mem h1.1, h1.2⟩
theorem tb_stt {o x : Nat} {v : Value} (h : am_stt o x = some v) : ∃ q ∈ am_zst, v = q.2.2.2 ∧ (Cond.fieldLink (am_cln o) x q.1 q.2.1 q.2.2.1 ∈ am_ws ∨ ∃ host, Cond.fieldLinkNest (am_cln o) x q.1 q.2.1 q.2.2.1 host ∈ am_nws) := by
  have hm := am_lk_mem h
  have h1 := List.all_eq_true.mp (List.all_eq_true.mp ck_stt o (List.mem_range.mpr (am_bd hm))) _ hm
  obtain ⟨q, hq, h2⟩ := List.any_eq_true.mp h1
  simp only [Bool.and_eq_true, decide_eq_true_eq, Bool.or_eq_true] at h2
  refine ⟨q, hq, h2.1, ?_⟩
  rcases h2.2 with h3 | h3
  · exact Or.inl (am_iw_mem h3)
  · exact Or.inr ⟨_, h3⟩
/-- a constant is of the kind that the instruction pushes -/
noncomputable def am_cok (m : Nat) (i : Instr) : Bool := match i with
  | .ldc x => (match am_con (am_own m) x with
    | some (.int _) => true
    | some (.ref _) => true
    | _ => false)
  | .ldc2_w x => (match am_con (am_own m) x with
    | some (.long _) => true
    | _ => false)
  | .ldc_w _ => false
  | _ => true
theorem tb_con {o x : Nat} {v : Value} (h : am_con o x = some v) : (∃ z, v = .int z ∧ Cond.constant (am_cln o) x z ∈ am_ws) ∨ (∃ z, v = .long z ∧ Cond.constantLong (am_cln o) x z ∈ am_ws) ∨ ∃ a tx, v = .ref a ∧ (am_cln o, x, tx, a) ∈ am_str := by
  have hm := am_lk_mem h
  have h1 := List.all_eq_true.mp (List.all_eq_true.mp ck_con o (List.mem_range.mpr (am_bd hm))) _ hm
  cases v with
  | int z => exact Or.inl ⟨z, rfl, am_iw_mem h1⟩
  | long z => exact Or.inr (Or.inl ⟨z, rfl, am_iw_mem h1⟩)
  | ref a =>
    obtain ⟨q, hq, h2⟩ := List.any_eq_true.mp h1
    simp only [Bool.and_eq_true, decide_eq_true_eq] at h2
    refine Or.inr (Or.inr ⟨a, q.2.2.1, rfl, ?_⟩)
    rw [← h2.1, ← h2.2.1, ← h2.2.2]
    exact hq
  | _ => cases h1
theorem tb_con1 {m x : Nat} {v : Value} (ho : am_cok m (.ldc x) = true) (h : am_con (am_own m) x = some v) : (∃ z, v = .int z ∧ Cond.constant (am_cln (am_own m)) x z ∈ am_ws) ∨ ∃ a tx, v = .ref a ∧ (am_cln (am_own m), x, tx, a) ∈ am_str := by
  rcases tb_con h with h1 | ⟨z, rfl, -⟩ | h1
  · exact Or.inl h1
  · simp only [am_cok, h] at ho
    cases ho
  · exact Or.inr h1
theorem tb_con2 {m x : Nat} {v : Value} (ho : am_cok m (.ldc2_w x) = true) (h : am_con (am_own m) x = some v) : ∃ z, v = .long z ∧ Cond.constantLong (am_cln (am_own m)) x z ∈ am_ws := by
  rcases tb_con h with ⟨z, rfl, -⟩ | h1 | ⟨a, tx, rfl, -⟩
  · simp only [am_cok, h] at ho
    cases ho
  · exact h1
  · simp only [am_cok, h] at ho
    cases ho
theorem tb_mth {o x : Nat} {q : Nat × Nat} (h : am_mth o x = some q) : (q.1 < am_nM - 1 ∧ q.2 = am_np q.1 + (bif am_stc q.1 then 0 else 1) ∧ (Cond.methodLink (am_cln o) x (am_mn q.1) ∈ am_ws ∨ Cond.methodLinkNest (am_cln o) x (am_mn q.1) "PluralMessages" ∈ am_nws)) ∨ (q.1 = 1000 ∧ Cond.methodLink (am_cln o) x objectInit ∈ am_ws) ∨ (q.1 = 1001 ∧ Cond.methodLink (am_cln o) x (Jvm.Bundle.initS Jvm.Bundle.tN) ∈ am_ws) ∨ (q.1 = 1002 ∧ Cond.methodLink (am_cln o) x Lib.MathLoose.max_long.x ∈ am_ws) ∨ (q.1 = 1003 ∧ Cond.methodLink (am_cln o) x Lib.Math.max.name ∈ am_ws) ∨ (q.1 = 1004 ∧ Cond.methodLink (am_cln o) x Lib.Math.min.name ∈ am_ws) := by
  have hm := am_lk_mem h
  have h1 := List.all_eq_true.mp (List.all_eq_true.mp ck_mth o (List.mem_range.mpr (am_bd hm))) _ hm
  simp only [Bool.and_eq_true, decide_eq_true_eq, Bool.or_eq_true] at h1
  rcases h1 with ⟨h1, h2, h3⟩ | ⟨h1, h2⟩ | ⟨h1, h2⟩ | ⟨h1, h2⟩ | ⟨h1, h2⟩ | ⟨h1, h2⟩
  · refine Or.inl ⟨h1, h2, ?_⟩
    rcases h3 with h3 | h3
    · exact Or.inl (am_iw_mem h3)
    · exact Or.inr h3
  · exact Or.inr (Or.inl ⟨h1, am_iw_mem h2⟩)
  · exact Or.inr (Or.inr (Or.inl ⟨h1, am_iw_mem h2⟩))
  · exact Or.inr (Or.inr (Or.inr (Or.inl ⟨h1, am_iw_mem h2⟩)))
  · exact Or.inr (Or.inr (Or.inr (Or.inr (Or.inl ⟨h1, am_iw_mem h2⟩))))
  · exact Or.inr (Or.inr (Or.inr (Or.inr (Or.inr ⟨h1, am_iw_mem h2⟩))))
theorem tb_met {m : Nat} (h : m < am_nM - 1) : am_cw m ∈ am_ws ∧ Cond.initialized (am_mn m).cls ∈ am_ws ∧ (am_stc m = true → Cond.static (am_mn m) ∈ am_ws) ∧ (am_stc m = false → Cond.instanceMethod (am_mn m) ∈ am_ws ∧ (am_ini m = false → Cond.selects (am_mn m).cls (am_mn m) (am_mn m) ∈ am_ws)) ∧ ((am_mn m).cls ≠ "java/lang/invoke/MethodHandle" ∧ (am_mn m).cls ≠ "java/lang/invoke/VarHandle") ∧ plainName (am_mn m).cls = true ∧ am_cln (am_own m) = (am_mn m).cls ∧ am_max m ≤ 40 ∧ (∀ sig, parseMethodDescriptor (am_mn m).desc = some sig → am_np m = sig.parameters.length) ∧ (am_ini m = true → (am_mn m).name = "<init>" ∧ am_rty m = none ∧ am_hh m = []) ∧ (am_hh m).isEmpty = (am_hnd m).isEmpty := by
  have h1 := am_rg1 ck_met h
  simp only [Bool.and_eq_true, decide_eq_true_eq] at h1
  obtain ⟨h2, h3, h4, h5, h6, h7, h8, h9, h10⟩ := h1
  refine ⟨tc_all m h, am_iw_mem h2, fun e => ?_, fun e => ?_, h4, h5, h6, h7, fun sig hs => ?_, fun e => ?_, h10⟩
  · rw [e] at h3; exact am_iw_mem h3
  · rw [e] at h3
    simp only [cond_false, Bool.and_eq_true, Bool.or_eq_true] at h3
    refine ⟨am_iw_mem h3.1, fun e2 => ?_⟩
    rcases h3.2 with h | h
    · rw [e2] at h; cases h
    · exact am_iw_mem h
  · rw [hs] at h8
    exact (Option.some.inj h8).symm
  · rw [e] at h9
    simp only [Bool.not_true, Bool.false_or, Bool.and_eq_true, decide_eq_true_eq] at h9
    exact ⟨h9.1, h9.2.1, List.isEmpty_iff.mp h9.2.2⟩
/-- a return gives what the method's head says -/
noncomputable def am_rok (m : Nat) (i : Instr) : Bool := match i with
  | .lreturn => decide (am_rty m = some .long)
  | .areturn => (match am_rty m with
    | some (.object _) => true
    | _ => false)
  | .return_ => decide (am_rty m = none)
  | _ => true
theorem tb_rok_l {m : Nat} (h : am_rok m .lreturn = true) : am_rty m = some .long := of_decide_eq_true h
theorem tb_rok_v {m : Nat} (h : am_rok m .return_ = true) : am_rty m = none := of_decide_eq_true h
theorem tb_rok_a {m : Nat} (h : am_rok m .areturn = true) : ∃ C, am_rty m = some (.object C) := by
  simp only [am_rok] at h
  split at h
  · next C hC => exact ⟨C, hC⟩
  · cases h
noncomputable def am_isN (w : Cond) : Bool := match w with
  | .methodLinkNest .. => true
  | .fieldLinkNest .. => true
  | _ => false
theorem am_nws_ok : ∀ w ∈ am_nws, am_isN w = true := List.all_eq_true.mp (by decide +kernel)
/-- arrays of these kinds alone are made -/
noncomputable def am_nok (i : Instr) : Bool := match i with
  | .newarray t => decide (t = .int ∨ t = .long ∨ t = .char ∨ t = .boolean)
  | _ => true
theorem tb_arc {t : ArrayType} (h : t = .int ∨ t = .long ∨ t = .char ∨ t = .boolean) : Cond.arrayClass (newarray.typeOf t) ∈ am_ws := by
  rcases h with rfl | rfl | rfl | rfl
  · exact am_ws_of 216 (by decide +kernel)
  · exact am_ws_of 217 (by decide +kernel)
  · exact am_ws_of 124 (by decide +kernel)
  · exact am_ws_of 240 (by decide +kernel)
/-- all that the tables must say of one instruction -/
noncomputable def am_chk (m pc : Nat) (i : Instr) (len : Nat) : Bool := am_iok pc i len && (am_cok m i && (am_rok m i && (am_nok i && (match i with
  | .putfield x => am_fin m x
  | _ => true))))
/-- a method's instructions are the bytes' -/
def am_okm (m : Nat) : Prop := ∀ pc i len, am_code m pc = some (i, len) → decode (am_by m) pc = .ok (i, len) ∧ am_chk m pc i len = true
theorem am_okm_of {m n : Nat} {f : Nat → Option (Instr × Nat)} (h : ((List.range n).all fun pc => match f pc with
    | some q => decide (decode (am_by m) pc = .ok q) && am_chk m pc q.1 q.2
    | none => true) = true) (hf : ∀ pc, am_code m pc = f pc) (hn : ∀ pc q, f pc = some q → pc < n) : am_okm m := by
  intro pc i len hc
  rw [hf] at hc
  have h1 := List.all_eq_true.mp h pc (List.mem_range.mpr (hn pc _ hc))
  rw [hc] at h1
  simp only [Bool.and_eq_true, decide_eq_true_eq] at h1
  exact h1
theorem am_bd1 {α : Type} {x a : Nat} {t : Option α} {q : α} (h : cond (Nat.blt x a) t none = some q) : x < a := by
  cases h1 : Nat.blt x a with
  | false => rw [h1] at h; cases h
  | true => exact Nat.lt_of_succ_le (by simpa [Nat.blt] using h1)

