/-! The small machine's steps on stack and locals are steps of the model's machine. -/
/-- a value of the small machine as the model has it: addresses moved -/
abbrev am_M : Type := (Nat → Nat) × Option Nat
def am_v (ad : am_M) (v : Value) : Value := match v with
  | .ref i => .ref (ad.1 i)
  | .retAddr _ => va_rf ad.2
  | v => v
theorem am_v_cat (ad : am_M) (v : Value) : (am_v ad v).category = v.category := by
  cases v <;> first | rfl | (obtain ⟨f, o⟩ := ad; cases o <;> rfl)
theorem am_i1_inv {S S' : List Value} {f : Int32 → Value} (h : am_i1 S f = some S') : ∃ x r, S = .int x :: r ∧ S' = f x :: r := by
  unfold am_i1 at h
  split at h
  · exact ⟨_, _, rfl, (Option.some.inj h).symm⟩
  · cases h
theorem am_i2_inv {S S' : List Value} {f : Int32 → Int32 → Value} (h : am_i2 S f = some S') : ∃ x y r, S = .int y :: .int x :: r ∧ S' = f x y :: r := by
  unfold am_i2 at h
  split at h
  · exact ⟨_, _, _, rfl, (Option.some.inj h).symm⟩
  · cases h
theorem am_l1_inv {S S' : List Value} {f : Int64 → Value} (h : am_l1 S f = some S') : ∃ x r, S = .long x :: r ∧ S' = f x :: r := by
  unfold am_l1 at h
  split at h
  · exact ⟨_, _, rfl, (Option.some.inj h).symm⟩
  · cases h
theorem am_l2_inv {S S' : List Value} {f : Int64 → Int64 → Value} (h : am_l2 S f = some S') : ∃ x y r, S = .long y :: .long x :: r ∧ S' = f x y :: r := by
  unfold am_l2 at h
  split at h
  · exact ⟨_, _, _, rfl, (Option.some.inj h).symm⟩
  · cases h
theorem am_li_inv {S S' : List Value} {f : Int64 → Int32 → Value} (h : am_li S f = some S') : ∃ x y r, S = .int y :: .long x :: r ∧ S' = f x y :: r := by
  unfold am_li at h
  split at h
  · exact ⟨_, _, _, rfl, (Option.some.inj h).symm⟩
  · cases h
/-- what a table must say of an instruction, pc and length: its length; a push's number fits; a jump's end is no negative number -/
def am_iok (pc : Nat) (i : Instr) (len : Nat) : Bool := match i with
  | .bipush n => len == 2 && decide ((Int8.ofInt n).toInt32 = Int32.ofInt n)
  | .sipush n => len == 3 && decide ((Int16.ofInt n).toInt32 = Int32.ofInt n)
  | .iload _ => len == 2
  | .lload _ => len == 2
  | .aload _ => len == 2
  | .istore _ => len == 2
  | .lstore _ => len == 2
  | .astore _ => len == 2
  | .ldc _ => len == 2
  | .newarray _ => len == 2
  | .iinc _ _ => len == 3
  | .ldc_w _ => len == 3
  | .ldc2_w _ => len == 3
  | .getfield _ => len == 3
  | .putfield _ => len == 3
  | .getstatic _ => len == 3
  | .invokevirtual _ => len == 3
  | .invokespecial _ => len == 3
  | .invokestatic _ => len == 3
  | .new _ => len == 3
  | .anewarray _ => len == 3
  | .goto o => len == 3 && decide (0 ≤ (pc : Int) + o)
  | .ifCond _ o => len == 3 && decide (0 ≤ (pc : Int) + o)
  | .if_icmp _ o => len == 3 && decide (0 ≤ (pc : Int) + o)
  | .ifnull o => len == 3 && decide (0 ≤ (pc : Int) + o)
  | .ifnonnull o => len == 3 && decide (0 ≤ (pc : Int) + o)
  | .lookupswitch d ps => decide (0 ≤ (pc : Int) + d) && (ps.toList.all (fun q => decide (0 ≤ (pc : Int) + q.2)) && (ps.toList.zip (ps.toList.drop 1)).all (fun (a, next) => a.1 < next.1))
  | .tableswitch d _ _ os => decide (0 ≤ (pc : Int) + d) && os.toList.all (fun q => decide (0 ≤ (pc : Int) + q))
  | _ => len == 1
theorem am_tgt_ok {pc : Nat} {o : Int} (h : 0 ≤ (pc : Int) + o) : (pc : Int) + o = (am_tgt pc o : Int) := by
  unfold am_tgt
  omega
section AMS
variable {p : Program} {l : Launch} {e : Env} {R : Room} {s : State} {m : MethodId} {args : Array Value} {below : List Frame} {meth : Method} {c : Code} {H : Heap} {locs : List Loc} {cells slots : Nat} {Q : State → Prop}
variable {cc : ByteArray} {pc : Nat} {ls : Array Slot} {ad : am_M}
theorem am_sop_sim (hx : p.tables.exec = Jvm.exec) (hb : c.code = cc) {i : Instr} {len : Nat} {S S' : List Value} (h : am_sop i S = some S') (ho : am_iok pc i len = true) (hd : decode cc pc = .ok (i, len))
    (k : W p l e R s m args below meth c H locs cells slots Q (F0 m (pc + len) ls (S'.map (am_v ad)))) : W p l e R s m args below meth c H locs cells slots Q (F0 m pc ls (S.map (am_v ad))) := by
  cases i with
  | iconst n => obtain rfl : len = 1 := by simpa [am_iok] using ho
                cases h; exact lv_iconst hx hb hd rfl k
  | bipush n => obtain ⟨rfl, h2⟩ : len = 2 ∧ (Int8.ofInt n).toInt32 = Int32.ofInt n := by simpa [am_iok] using ho
                cases h; exact lv_bipush hx hb hd h2 k
  | sipush n => obtain ⟨rfl, h2⟩ : len = 3 ∧ (Int16.ofInt n).toInt32 = Int32.ofInt n := by simpa [am_iok] using ho
                cases h; exact lv_sipush hx hb hd h2 k
  | lconst n => obtain rfl : len = 1 := by simpa [am_iok] using ho
                cases h; exact lv_lconst hx hb hd rfl k
  | aconst_null => obtain rfl : len = 1 := by simpa [am_iok] using ho
                   cases h; exact lv_null hx hb hd k
  | iadd => obtain rfl : len = 1 := by simpa [am_iok] using ho
            obtain ⟨x, y, r, rfl, rfl⟩ := am_i2_inv h; exact lv_iadd hx hb hd k
  | isub => obtain rfl : len = 1 := by simpa [am_iok] using ho
            obtain ⟨x, y, r, rfl, rfl⟩ := am_i2_inv h; exact lv_isub hx hb hd k
  | imul => obtain rfl : len = 1 := by simpa [am_iok] using ho
            obtain ⟨x, y, r, rfl, rfl⟩ := am_i2_inv h; exact lv_imul hx hb hd k
  | iand => obtain rfl : len = 1 := by simpa [am_iok] using ho
            obtain ⟨x, y, r, rfl, rfl⟩ := am_i2_inv h; exact lv_iand hx hb hd k
  | ior => obtain rfl : len = 1 := by simpa [am_iok] using ho
           obtain ⟨x, y, r, rfl, rfl⟩ := am_i2_inv h; exact lv_ior hx hb hd k
  | ixor => obtain rfl : len = 1 := by simpa [am_iok] using ho
            obtain ⟨x, y, r, rfl, rfl⟩ := am_i2_inv h; exact lv_ixor hx hb hd k
  | ishl => obtain rfl : len = 1 := by simpa [am_iok] using ho
            obtain ⟨x, y, r, rfl, rfl⟩ := am_i2_inv h; exact lv_ishl hx hb hd k
  | ishr => obtain rfl : len = 1 := by simpa [am_iok] using ho
            obtain ⟨x, y, r, rfl, rfl⟩ := am_i2_inv h; exact lv_ishr hx hb hd k
  | iushr => obtain rfl : len = 1 := by simpa [am_iok] using ho
             obtain ⟨x, y, r, rfl, rfl⟩ := am_i2_inv h; exact lv_iushr hx hb hd rfl k
  | ineg => obtain rfl : len = 1 := by simpa [am_iok] using ho
            obtain ⟨x, r, rfl, rfl⟩ := am_i1_inv h; exact lv_ineg hx hb hd k
  | i2l => obtain rfl : len = 1 := by simpa [am_iok] using ho
           obtain ⟨x, r, rfl, rfl⟩ := am_i1_inv h; exact lv_i2l hx hb hd rfl k
  | i2c => obtain rfl : len = 1 := by simpa [am_iok] using ho
           obtain ⟨x, r, rfl, rfl⟩ := am_i1_inv h; exact lv_i2c hx hb hd rfl k
  | i2b => obtain rfl : len = 1 := by simpa [am_iok] using ho
           obtain ⟨x, r, rfl, rfl⟩ := am_i1_inv h; exact lv_i2b hx hb hd rfl k
  | l2i => obtain rfl : len = 1 := by simpa [am_iok] using ho
           obtain ⟨x, r, rfl, rfl⟩ := am_l1_inv h; exact lv_l2i hx hb hd rfl k
  | lneg => obtain rfl : len = 1 := by simpa [am_iok] using ho
            obtain ⟨x, r, rfl, rfl⟩ := am_l1_inv h; exact lv_lneg hx hb hd k
  | ladd => obtain rfl : len = 1 := by simpa [am_iok] using ho
            obtain ⟨x, y, r, rfl, rfl⟩ := am_l2_inv h; exact lv_ladd hx hb hd k
  | lsub => obtain rfl : len = 1 := by simpa [am_iok] using ho
            obtain ⟨x, y, r, rfl, rfl⟩ := am_l2_inv h; exact lv_lsub hx hb hd k
  | lmul => obtain rfl : len = 1 := by simpa [am_iok] using ho
            obtain ⟨x, y, r, rfl, rfl⟩ := am_l2_inv h; exact lv_lmul hx hb hd k
  | land => obtain rfl : len = 1 := by simpa [am_iok] using ho
            obtain ⟨x, y, r, rfl, rfl⟩ := am_l2_inv h; exact lv_land hx hb hd k
  | lor => obtain rfl : len = 1 := by simpa [am_iok] using ho
           obtain ⟨x, y, r, rfl, rfl⟩ := am_l2_inv h; exact lv_lor hx hb hd k
  | lxor => obtain rfl : len = 1 := by simpa [am_iok] using ho
            obtain ⟨x, y, r, rfl, rfl⟩ := am_l2_inv h; exact lv_lxor hx hb hd k
  | lcmp => obtain rfl : len = 1 := by simpa [am_iok] using ho
            obtain ⟨x, y, r, rfl, rfl⟩ := am_l2_inv h; exact W.lcmp hx hb hd k
  | lshl => obtain rfl : len = 1 := by simpa [am_iok] using ho
            obtain ⟨x, y, r, rfl, rfl⟩ := am_li_inv h; exact lv_lshl hx hb hd rfl k
  | lshr => obtain rfl : len = 1 := by simpa [am_iok] using ho
            obtain ⟨x, y, r, rfl, rfl⟩ := am_li_inv h; exact lv_lshr hx hb hd rfl k
  | lushr => obtain rfl : len = 1 := by simpa [am_iok] using ho
             obtain ⟨x, y, r, rfl, rfl⟩ := am_li_inv h; exact lv_lushr hx hb hd rfl k
  | irem => obtain rfl : len = 1 := by simpa [am_iok] using ho
            simp only [am_sop] at h
            split at h
            · split at h
              · cases h
              · cases h; exact lv_irem hx hb hd (by assumption) k
            · cases h
  | idiv => obtain rfl : len = 1 := by simpa [am_iok] using ho
            simp only [am_sop] at h
            split at h
            · split at h
              · cases h
              · cases h; exact lv_idiv hx hb hd (by assumption) k
            · cases h
  | lrem => obtain rfl : len = 1 := by simpa [am_iok] using ho
            simp only [am_sop] at h
            split at h
            · split at h
              · cases h
              · cases h; exact lv_lrem hx hb hd (by assumption) k
            · cases h
  | ldiv => obtain rfl : len = 1 := by simpa [am_iok] using ho
            simp only [am_sop] at h
            split at h
            · split at h
              · cases h
              · cases h; exact lv_ldiv hx hb hd (by assumption) k
            · cases h
  | dup => obtain rfl : len = 1 := by simpa [am_iok] using ho
           simp only [am_sop] at h
           split at h
           · split at h
             · cases h; exact lv_dup hx hb hd (by rw [am_v_cat]; assumption) k
             · cases h
           · cases h
  | pop => obtain rfl : len = 1 := by simpa [am_iok] using ho
           simp only [am_sop] at h
           split at h
           · split at h
             · cases h; exact lv_pop hx hb hd (by rw [am_v_cat]; assumption) k
             · cases h
           · cases h
  | dup_x1 => obtain rfl : len = 1 := by simpa [am_iok] using ho
              simp only [am_sop] at h
              split at h
              · split at h
                · next hc => cases h; exact lv_dup_x1 hx hb hd (by rw [am_v_cat]; exact hc.1) (by rw [am_v_cat]; exact hc.2) k
                · cases h
              · cases h
  | dup_x2 => obtain rfl : len = 1 := by simpa [am_iok] using ho
              simp only [am_sop] at h
              split at h
              · split at h
                · next hc => cases h; exact lv_dup_x2 hx hb hd (by rw [am_v_cat]; exact hc.1) (by rw [am_v_cat]; exact hc.2.1) (by rw [am_v_cat]; exact hc.2.2) k
                · cases h
              · cases h
  | dup2 => obtain rfl : len = 1 := by simpa [am_iok] using ho
            simp only [am_sop] at h
            split at h
            · cases h; exact lv_dup2_2 hx hb hd rfl k
            · split at h
              · next hc => cases h; exact lv_dup2_11 hx hb hd (by rw [am_v_cat]; exact hc.1) (by rw [am_v_cat]; exact hc.2) k
              · cases h
            · cases h
  | pop2 => obtain rfl : len = 1 := by simpa [am_iok] using ho
            simp only [am_sop] at h
            split at h
            · cases h; exact lv_pop2_2 hx hb hd rfl k
            · split at h
              · next hc => cases h; exact lv_pop2_11 hx hb hd (by rw [am_v_cat]; exact hc.1) (by rw [am_v_cat]; exact hc.2) k
              · cases h
            · cases h
  | _ => cases h
/-- the locals, seen from both machines -/
def am_hl (ad : am_M) (ls : Array Slot) (nL : Nat) (L : am_L) : Prop := ls.size = nL ∧ lv_wf ls ∧ L.length = nL ∧ ∀ i v, am_ld L i = some v → ls[i]? = some (.val (am_v ad v))
noncomputable def am_al (ad : am_M) (L : am_L) : List (Nat × Value) := (List.range L.length).filterMap fun i => (am_ld L i).map fun v => (i, am_v ad v)
theorem am_ld_lt {L : am_L} {i : Nat} {v : Value} (h : am_ld L i = some v) : i < L.length := by
  unfold am_ld at h
  split at h
  · next hc => exact (List.getElem?_eq_some_iff.mp hc).1
  · cases h
theorem am_hl_has {nL : Nat} {L : am_L} (h : am_hl ad ls nL L) : lv_has ls nL (am_al ad L) := by
  refine ⟨h.1, h.2.1, fun q hq => ?_⟩
  obtain ⟨i, -, hi⟩ := List.mem_filterMap.mp hq
  obtain ⟨v, hv, rfl⟩ := Option.map_eq_some_iff.mp hi
  exact h.2.2.2 i v hv
theorem am_al_mem {L : am_L} {i : Nat} {v : Value} (h : am_ld L i = some v) : (i, am_v ad v) ∈ am_al ad L :=
  List.mem_filterMap.mpr ⟨i, List.mem_range.mpr (am_ld_lt h), by rw [h]; rfl⟩
theorem am_kl_inv {o : Option Value} {w : Value} (h : am_kl o = some w) : o = some w ∧ ¬ w.category = 2 := by
  unfold am_kl at h
  split at h
  · cases h
  · cases h
  · next h1 h2 =>
    refine ⟨h, ?_⟩
    subst h
    cases w <;> first | exact absurd rfl (h1 _) | exact absurd rfl (h2 _) | (simp [Value.category])
theorem am_ld_st1 {L : am_L} {i j : Nat} {v w : Value} (h : am_ld (am_st1 L i v) j = some w) : (j = i ∧ w = v) ∨ (j ≠ i ∧ am_ld L j = some w ∧ ¬ (j + 1 = i ∧ w.category = 2)) := by
  cases i with
  | zero =>
    unfold am_st1 am_ld at h
    rw [List.getElem?_set] at h
    by_cases hj : 0 = j
    · subst hj
      left
      simp only [if_true] at h
      split at h
      · next hc => split at hc
                   · cases hc; cases h; exact ⟨rfl, rfl⟩
                   · cases hc
      · cases h
    · right
      rw [if_neg hj] at h
      exact ⟨fun q => hj q.symm, by unfold am_ld; exact h, fun q => by omega⟩
  | succ k =>
    unfold am_st1 am_ld at h
    rw [List.getElem?_set] at h
    by_cases hj : k + 1 = j
    · subst hj
      left
      simp only [if_true] at h
      split at h
      · next hc => split at hc
                   · cases hc; cases h; exact ⟨rfl, rfl⟩
                   · cases hc
      · cases h
    · right
      rw [if_neg hj, List.getElem?_modify] at h
      by_cases hk : k = j
      · subst hk
        cases hL : L[k]? with
        | none => simp [hL] at h
        | some o =>
          simp only [hL, if_true, Option.map_some] at h
          split at h
          · next hc =>
            cases h
            have h3 := am_kl_inv (Option.some.inj hc)
            exact ⟨fun q => hj q.symm, by unfold am_ld; rw [hL, h3.1], fun q => h3.2 q.2⟩
          · cases h
      · refine ⟨fun q => hj q.symm, ?_, fun q => by omega⟩
        unfold am_ld
        cases hL : L[j]? with
        | none => simp [hL] at h
        | some o => simpa [hL, hk] using h
theorem am_len_st1 (L : am_L) (i : Nat) (v : Value) : (am_st1 L i v).length = L.length := by
  cases i <;> simp [am_st1]
theorem am_hl_st1 {nL i : Nat} {L : am_L} {v : Value} {ls' : Array Slot} (h : am_hl ad ls nL L) (h' : lv_has ls' nL ((i, am_v ad v) :: (am_al ad L).filter (fun q => !(q.1 == i) && !(q.1 + 1 == i && q.2.category == 2)))) : am_hl ad ls' nL (am_st1 L i v) := by
  refine ⟨h'.1, h'.2.1, by rw [am_len_st1]; exact h.2.2.1, fun j w hw => ?_⟩
  rcases am_ld_st1 hw with ⟨rfl, rfl⟩ | ⟨h1, h2, h3⟩
  · exact h'.2.2 _ List.mem_cons_self
  · refine h'.2.2 (j, am_v ad w) (List.mem_cons_of_mem _ (List.mem_filter.mpr ⟨am_al_mem h2, ?_⟩))
    simp only [am_v_cat, Bool.and_eq_true, Bool.not_eq_true', beq_eq_false_iff_ne, ne_eq, Bool.and_eq_false_iff]
    refine ⟨h1, ?_⟩
    by_cases hq : j + 1 = i
    · right
      exact fun q => h3 ⟨hq, q⟩
    · left
      exact hq
theorem am_hl_st2 {nL i : Nat} {L : am_L} {v : Value} {ls' : Array Slot} (h : am_hl ad ls nL L) (h' : lv_has ls' nL ((i, am_v ad v) :: (am_al ad L).filter (fun q => !(q.1 == i) && (!(q.1 == i + 1) && !(q.1 + 1 == i && q.2.category == 2))))) : am_hl ad ls' nL (am_st2 L i v) := by
  refine ⟨h'.1, h'.2.1, by unfold am_st2; rw [List.length_set, am_len_st1]; exact h.2.2.1, fun j w hw => ?_⟩
  have hj : j ≠ i + 1 ∧ am_ld (am_st1 L i v) j = some w := by
    unfold am_st2 am_ld at hw
    rw [List.getElem?_set] at hw
    by_cases hq : i + 1 = j
    · subst hq
      simp only [if_true] at hw
      split at hw
      · next hc => split at hc
                   · cases hc
                   · cases hc
      · cases hw
    · rw [if_neg hq] at hw
      exact ⟨fun q => hq q.symm, by unfold am_ld; exact hw⟩
  rcases am_ld_st1 hj.2 with ⟨rfl, rfl⟩ | ⟨h1, h2, h3⟩
  · exact h'.2.2 _ List.mem_cons_self
  · refine h'.2.2 (j, am_v ad w) (List.mem_cons_of_mem _ (List.mem_filter.mpr ⟨am_al_mem h2, ?_⟩))
    simp only [am_v_cat, Bool.and_eq_true, Bool.not_eq_true', beq_eq_false_iff_ne, ne_eq, Bool.and_eq_false_iff]
    refine ⟨h1, hj.1, ?_⟩
    by_cases hq : j + 1 = i
    · right
      exact fun q => h3 ⟨hq, q⟩
    · left
      exact hq
theorem am_load_inv {t : Value → Bool} {L L' : am_L} {i : Nat} {S S' : List Value} (h : am_load t L i S = some (L', S')) : ∃ v, am_ld L i = some v ∧ t v = true ∧ L' = L ∧ S' = v :: S := by
  unfold am_load at h
  split at h
  · next v hv =>
    cases ht : t v with
    | false => simp [ht] at h
    | true => simp [ht] at h; exact ⟨v, hv, ht, h.1.symm, h.2.symm⟩
  · cases h
theorem am_store1_inv {t : Value → Bool} {L L' : am_L} {i : Nat} {S S' : List Value} (h : am_store1 t L i S = some (L', S')) : ∃ v, S = v :: S' ∧ t v = true ∧ i < L.length ∧ L' = am_st1 L i v := by
  unfold am_store1 at h
  split at h
  · next v r =>
    cases ht : t v with
    | false => simp [ht] at h
    | true =>
      by_cases hi : i < L.length
      · simp [ht, hi] at h; exact ⟨v, by rw [h.2], ht, hi, h.1.symm⟩
      · simp [hi] at h
  · cases h
theorem am_store2_inv {L L' : am_L} {i : Nat} {S S' : List Value} (h : am_store2 L i S = some (L', S')) : ∃ x, S = .long x :: S' ∧ i + 1 < L.length ∧ L' = am_st2 L i (.long x) := by
  unfold am_store2 at h
  split at h
  · next x r =>
    by_cases hi : i + 1 < L.length
    · simp [hi] at h; exact ⟨x, by rw [h.2], hi, h.1.symm⟩
    · simp [hi] at h
  · cases h
theorem am_isI_inv {v : Value} (h : am_isI v = true) : ∃ x, v = .int x := by cases v <;> first | exact ⟨_, rfl⟩ | cases h
theorem am_isL_inv {v : Value} (h : am_isL v = true) : ∃ x, v = .long x := by cases v <;> first | exact ⟨_, rfl⟩ | cases h
theorem am_isR_inv {v : Value} (h : am_isR v = true) : v = .null ∨ ∃ x, v = .ref x := by cases v <;> first | exact Or.inl rfl | exact Or.inr ⟨_, rfl⟩ | cases h
theorem am_lop_sim (hx : p.tables.exec = Jvm.exec) (hb : c.code = cc) {i : Instr} {len nL : Nat} {L L' : am_L} {S S' : List Value} (h : am_lop i L S = some (L', S')) (ho : am_iok pc i len = true) (hd : decode cc pc = .ok (i, len)) (hl : am_hl ad ls nL L)
    (k : ∀ ls', am_hl ad ls' nL L' → W p l e R s m args below meth c H locs cells slots Q (F0 m (pc + len) ls' (S'.map (am_v ad)))) : W p l e R s m args below meth c H locs cells slots Q (F0 m pc ls (S.map (am_v ad))) := by
  have hn : L.length = nL := hl.2.2.1
  cases i with
  | iload j => obtain rfl : len = 2 := by simpa [am_iok] using ho
               obtain ⟨v, hv, ht, rfl, rfl⟩ := am_load_inv h
               obtain ⟨x, rfl⟩ := am_isI_inv ht
               exact lv_iload hx hb hd (hl.2.2.2 _ _ hv) (k ls hl)
  | iload_n j => obtain rfl : len = 1 := by simpa [am_iok] using ho
                 obtain ⟨v, hv, ht, rfl, rfl⟩ := am_load_inv h
                 obtain ⟨x, rfl⟩ := am_isI_inv ht
                 exact lv_iload_n hx hb hd rfl (hl.2.2.2 _ _ hv) (k ls hl)
  | lload j => obtain rfl : len = 2 := by simpa [am_iok] using ho
               obtain ⟨v, hv, ht, rfl, rfl⟩ := am_load_inv h
               obtain ⟨x, rfl⟩ := am_isL_inv ht
               exact lv_lload hx hb hd (hl.2.2.2 _ _ hv) (k ls hl)
  | lload_n j => obtain rfl : len = 1 := by simpa [am_iok] using ho
                 obtain ⟨v, hv, ht, rfl, rfl⟩ := am_load_inv h
                 obtain ⟨x, rfl⟩ := am_isL_inv ht
                 exact lv_lload_n hx hb hd rfl (hl.2.2.2 _ _ hv) (k ls hl)
  | aload j => obtain rfl : len = 2 := by simpa [am_iok] using ho
               obtain ⟨v, hv, ht, rfl, rfl⟩ := am_load_inv h
               rcases am_isR_inv ht with rfl | ⟨x, rfl⟩
               · exact lv_aloadN hx hb hd (hl.2.2.2 _ _ hv) (k ls hl)
               · exact lv_aload hx hb hd (hl.2.2.2 _ _ hv) (k ls hl)
  | aload_n j => obtain rfl : len = 1 := by simpa [am_iok] using ho
                 obtain ⟨v, hv, ht, rfl, rfl⟩ := am_load_inv h
                 rcases am_isR_inv ht with rfl | ⟨x, rfl⟩
                 · exact lv_aload_nN hx hb hd rfl (hl.2.2.2 _ _ hv) (k ls hl)
                 · exact lv_aload_n hx hb hd rfl (hl.2.2.2 _ _ hv) (k ls hl)
  | istore j => obtain rfl : len = 2 := by simpa [am_iok] using ho
                obtain ⟨v, rfl, ht, hi, rfl⟩ := am_store1_inv h
                obtain ⟨x, rfl⟩ := am_isI_inv ht
                exact lv_istore hx hb hd (am_hl_has hl) (hn ▸ hi) rfl (fun ls' h' => k ls' (am_hl_st1 (v := .int x) hl h'))
  | istore_n j => obtain rfl : len = 1 := by simpa [am_iok] using ho
                  obtain ⟨v, rfl, ht, hi, rfl⟩ := am_store1_inv h
                  obtain ⟨x, rfl⟩ := am_isI_inv ht
                  exact lv_istore_n hx hb hd rfl (am_hl_has hl) (hn ▸ hi) rfl (fun ls' h' => k ls' (am_hl_st1 (v := .int x) hl h'))
  | astore j => obtain rfl : len = 2 := by simpa [am_iok] using ho
                obtain ⟨v, rfl, ht, hi, rfl⟩ := am_store1_inv h
                rcases am_isR_inv ht with rfl | ⟨x, rfl⟩
                · exact lv_astoreN hx hb hd (am_hl_has hl) (hn ▸ hi) rfl (fun ls' h' => k ls' (am_hl_st1 (v := .null) hl h'))
                · exact lv_astore hx hb hd (am_hl_has hl) (hn ▸ hi) rfl (fun ls' h' => k ls' (am_hl_st1 (v := .ref x) hl h'))
  | astore_n j => obtain rfl : len = 1 := by simpa [am_iok] using ho
                  obtain ⟨v, rfl, ht, hi, rfl⟩ := am_store1_inv h
                  rcases am_isR_inv ht with rfl | ⟨x, rfl⟩
                  · exact lv_astore_nN hx hb hd rfl (am_hl_has hl) (hn ▸ hi) rfl (fun ls' h' => k ls' (am_hl_st1 (v := .null) hl h'))
                  · exact lv_astore_n hx hb hd rfl (am_hl_has hl) (hn ▸ hi) rfl (fun ls' h' => k ls' (am_hl_st1 (v := .ref x) hl h'))
  | lstore j => obtain rfl : len = 2 := by simpa [am_iok] using ho
                obtain ⟨x, rfl, hi, rfl⟩ := am_store2_inv h
                exact lv_lstore hx hb hd (am_hl_has hl) (hn ▸ hi) rfl (fun ls' h' => k ls' (am_hl_st2 (v := .long x) hl h'))
  | lstore_n j => obtain rfl : len = 1 := by simpa [am_iok] using ho
                  obtain ⟨x, rfl, hi, rfl⟩ := am_store2_inv h
                  exact lv_lstore_n hx hb hd rfl (am_hl_has hl) (hn ▸ hi) rfl (fun ls' h' => k ls' (am_hl_st2 (v := .long x) hl h'))
  | iinc j n => obtain rfl : len = 3 := by simpa [am_iok] using ho
                simp only [am_lop] at h
                split at h
                · next x hv =>
                  by_cases hi : j < L.length
                  · simp only [hi, decide_true, cond_true, Option.some.injEq, Prod.mk.injEq] at h
                    obtain ⟨rfl, rfl⟩ := h
                    obtain ⟨q, hq⟩ := List.getElem?_of_mem (am_al_mem (ad := ad) hv)
                    exact lv_iinc hx hb hd (am_hl_has hl) hq rfl (hn ▸ hi) rfl (fun ls' h' => k ls' (am_hl_st1 (v := .int _) hl h'))
                  · simp [hi] at h
                · cases h
  | _ => simp only [am_lop] at h
         obtain ⟨S2, h2, h3⟩ := Option.map_eq_some_iff.mp h
         cases h3
         exact am_sop_sim hx hb h2 ho hd (k ls hl)
theorem am_br_sim (hx : p.tables.exec = Jvm.exec) (hb : c.code = cc) {b : Jvm.ClassFile.Cond} {x y : Int32} {o : Int} {r : List Value} (ho : 0 ≤ (pc : Int) + o) (hd : decode cc pc = .ok (.if_icmp b o, 3))
    (k : W p l e R s m args below meth c H locs cells slots Q (F0 m (am_br b x y (am_tgt pc o) (pc + 3)) ls r)) : W p l e R s m args below meth c H locs cells slots Q (F0 m pc ls (.int y :: .int x :: r)) := by
  have ht := am_tgt_ok ho
  cases b with
  | eq => exact lv_icmp_eq hx hb hd ht (fun q => by simpa [am_br, q] using k) (fun q => by simpa [am_br, q] using k)
  | ne => exact lv_icmp_ne hx hb hd ht (fun q => by simpa [am_br, q] using k) (fun q => by simpa [am_br, q] using k)
  | lt => exact lv_icmp_lt hx hb hd ht (fun q => by simpa only [am_br, if_pos q] using k) (fun q => by simpa only [am_br, if_neg q] using k)
  | ge => exact lv_icmp_ge hx hb hd ht (fun q => by simpa only [am_br, if_pos q] using k) (fun q => by simpa only [am_br, if_neg q] using k)
  | gt => exact lv_icmp_gt hx hb hd ht (fun q => by simpa only [am_br, if_pos q] using k) (fun q => by simpa only [am_br, if_neg q] using k)
  | le => exact lv_icmp_le hx hb hd ht (fun q => by simpa only [am_br, if_pos q] using k) (fun q => by simpa only [am_br, if_neg q] using k)
theorem am_br0_sim (hx : p.tables.exec = Jvm.exec) (hb : c.code = cc) {b : Jvm.ClassFile.Cond} {x : Int32} {o : Int} {r : List Value} (ho : 0 ≤ (pc : Int) + o) (hd : decode cc pc = .ok (.ifCond b o, 3))
    (k : W p l e R s m args below meth c H locs cells slots Q (F0 m (am_br b x 0 (am_tgt pc o) (pc + 3)) ls r)) : W p l e R s m args below meth c H locs cells slots Q (F0 m pc ls (.int x :: r)) := by
  have ht := am_tgt_ok ho
  cases b with
  | eq => exact lv_if_eq hx hb hd ht (fun q => by simpa [am_br, q] using k) (fun q => by simpa [am_br, q] using k)
  | ne => exact lv_if_ne hx hb hd ht (fun q => by simpa [am_br, q] using k) (fun q => by simpa [am_br, q] using k)
  | lt => exact lv_if_lt hx hb hd ht (fun q => by simpa only [am_br, if_pos q] using k) (fun q => by simpa only [am_br, if_neg q] using k)
  | ge => exact lv_if_ge hx hb hd ht (fun q => by simpa only [am_br, if_pos q] using k) (fun q => by simpa only [am_br, if_neg q] using k)
  | gt => exact lv_if_gt hx hb hd ht (fun q => by simpa only [am_br, if_pos q] using k) (fun q => by simpa only [am_br, if_neg q] using k)
  | le => exact lv_if_le hx hb hd ht (fun q => by simpa only [am_br, if_pos q] using k) (fun q => by simpa only [am_br, if_neg q] using k)
theorem am_lsw {pc : Nat} {d : Int} {x : Int} : ∀ (l : List (Int × Int)), 0 ≤ (pc : Int) + d → (∀ q ∈ l, 0 ≤ (pc : Int) + q.2) → 0 ≤ (pc : Int) + Op.lookupswitch.offset l d x
  | [], h, _ => h
  | q :: t, h, h2 => by
    rw [Op.lookupswitch.offset_cons]
    split
    · exact h2 q List.mem_cons_self
    · exact am_lsw t h (fun z hz => h2 z (List.mem_cons_of_mem _ hz))
theorem am_jmp_sim (hx : p.tables.exec = Jvm.exec) (hb : c.code = cc) {i : Instr} {len pc' : Nat} {S S' : List Value} (h : am_jmp i pc S = some (pc', S')) (ho : am_iok pc i len = true) (hd : decode cc pc = .ok (i, len))
    (k : W p l e R s m args below meth c H locs cells slots Q (F0 m pc' ls (S'.map (am_v ad)))) : W p l e R s m args below meth c H locs cells slots Q (F0 m pc ls (S.map (am_v ad))) := by
  cases i with
  | goto o => obtain ⟨rfl, h2⟩ : len = 3 ∧ 0 ≤ (pc : Int) + o := by simpa [am_iok] using ho
              cases h; exact lv_goto hx hb hd (am_tgt_ok h2) k
  | ifCond b o => obtain ⟨rfl, h2⟩ : len = 3 ∧ 0 ≤ (pc : Int) + o := by simpa [am_iok] using ho
                  simp only [am_jmp] at h
                  split at h
                  · cases h; exact am_br0_sim hx hb h2 hd k
                  · cases h
  | if_icmp b o => obtain ⟨rfl, h2⟩ : len = 3 ∧ 0 ≤ (pc : Int) + o := by simpa [am_iok] using ho
                   simp only [am_jmp] at h
                   split at h
                   · cases h; exact am_br_sim hx hb h2 hd k
                   · cases h
  | ifnull o => obtain ⟨rfl, h2⟩ : len = 3 ∧ 0 ≤ (pc : Int) + o := by simpa [am_iok] using ho
                simp only [am_jmp] at h
                split at h
                · cases h; exact lv_ifnullN hx hb hd (am_tgt_ok h2) k
                · cases h; exact lv_ifnull hx hb hd k
                · cases h
  | ifnonnull o => obtain ⟨rfl, h2⟩ : len = 3 ∧ 0 ≤ (pc : Int) + o := by simpa [am_iok] using ho
                   simp only [am_jmp] at h
                   split at h
                   · cases h; exact lv_ifnonnullN hx hb hd k
                   · cases h; exact lv_ifnonnull hx hb hd (am_tgt_ok h2) k
                   · cases h
  | lookupswitch d ps => simp only [am_iok, Bool.and_eq_true, decide_eq_true_eq, List.all_eq_true] at ho
                         simp only [am_jmp] at h
                         split at h
                         · cases h
                           exact lv_lookup hx hb hd (List.all_eq_true.mpr fun x hx => decide_eq_true (ho.2.2 x hx)) rfl (am_tgt_ok (am_lsw _ ho.1 (fun q hq => ho.2.1 q hq))) k
                         · cases h
  | tableswitch d lo hi os => simp only [am_iok, Bool.and_eq_true, decide_eq_true_eq, List.all_eq_true] at ho
                              simp only [am_jmp] at h
                              split at h
                              · split at h
                                · next hc => cases h; exact lv_tableOut hx hb hd hc (am_tgt_ok ho.1) k
                                · next hc =>
                                  split at h
                                  · next z hz =>
                                    cases h
                                    exact lv_tableIn hx hb hd (fun q => hc (Or.inl q)) (fun q => hc (Or.inr q)) hz (am_tgt_ok (ho.2 z (by simpa using Array.mem_of_getElem? hz))) k
                                  · cases h
                              · cases h
  | _ => cases h
end AMS
