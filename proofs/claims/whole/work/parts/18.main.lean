/-! A run of the small machine is a run of the model's. -/
theorem am_en_cons (v : Value) (r : List Value) : am_en (v :: r) = if v.category = 2 then some v :: none :: am_en r else some v :: am_en r := by cases v <;> rfl
theorem am_en_len (ad : am_M) : ∀ (as : List Value), (lg_sl (as.map (am_v ad))).length = (am_en as).length
  | [] => rfl
  | v :: r => by
    have ih := am_en_len ad r
    rw [am_en_cons]
    simp only [lg_sl, List.map_cons, List.flatMap_cons, List.length_append] at ih ⊢
    rw [am_v_cat, ih]
    split <;> simp <;> omega
theorem am_en_ld (n : Nat) : ∀ (as : List Value) (k i : Nat) (v : Value), am_ld (am_en as ++ List.replicate n none) i = some v → (k + i, v) ∈ lv_args k as
  | [], k, i, v, h => by
    unfold am_ld at h
    simp only [am_en, List.nil_append] at h
    split at h
    · next v' hc =>
      rw [List.getElem?_replicate] at hc
      split at hc
      · cases hc
      · cases hc
    · cases h
  | w :: r, k, i, v, h => by
    rw [am_en_cons] at h
    unfold lv_args
    by_cases hc : w.category = 2
    · rw [if_pos hc] at h ⊢
      match i, h with
      | 0, h =>
        have : w = v := Option.some.inj h
        rw [this]
        exact List.mem_cons_self
      | 1, h => cases h
      | j + 2, h =>
        have h2 : am_ld (am_en r ++ List.replicate n none) j = some v := h
        have h3 := am_en_ld n r (k + 2) j v h2
        rw [show k + (j + 2) = k + 2 + j by omega]
        exact List.mem_cons_of_mem _ h3
    · rw [if_neg hc] at h ⊢
      match i, h with
      | 0, h =>
        have : w = v := Option.some.inj h
        rw [this]
        exact List.mem_cons_self
      | j + 1, h =>
        have h2 : am_ld (am_en r ++ List.replicate n none) j = some v := h
        have h3 := am_en_ld n r (k + 1) j v h2
        rw [show k + (j + 1) = k + 1 + j by omega]
        exact List.mem_cons_of_mem _ h3
theorem lv_args_map (ad : am_M) : ∀ (as : List Value) (k : Nat), lv_args k (as.map (am_v ad)) = (lv_args k as).map fun q => (q.1, am_v ad q.2)
  | [], _ => rfl
  | v :: r, k => by
    simp only [List.map_cons, lv_args, am_v_cat]
    rw [lv_args_map ad r]
theorem am_ent_hl (ad : am_M) {y : Nat} {as : List Value} (h : (am_en as).length ≤ am_max y) : am_hl ad ((lg_sl (as.map (am_v ad)) ++ List.replicate (am_max y - (lg_sl (as.map (am_v ad))).length) Slot.unset).toArray) (am_max y) (am_ent y as) := by
  obtain ⟨h1, h2, h3⟩ := lv_entry (as.map (am_v ad)) (n := am_max y) (by rw [am_en_len]; exact h)
  refine ⟨h1, h2, ?_, fun i v hv => ?_⟩
  · unfold am_ent
    rw [List.length_append, List.length_replicate]
    omega
  · have h4 := am_en_ld _ as 0 i v hv
    rw [Nat.zero_add] at h4
    refine h3 (i, am_v ad v) ?_
    rw [lv_args_map]
    exact List.mem_map.mpr ⟨_, h4, rfl⟩
theorem am_bif {α : Type} {b : Bool} {x : Option α} {q : α} (h : (bif b then x else none) = some q) : b = true ∧ x = some q := by
  cases b with
  | false => cases h
  | true => exact ⟨rfl, h⟩
theorem am_cal_inv {o : Nat} {i : Instr} {S : List Value} {A : am_H} {y : Nat} {as r : List Value} (h : am_cal o i S A = some (y, as, r)) : ∃ x k, am_mth (am_own o) x = some (y, k) ∧ am_cat r ≤ 8 ∧ (am_en as).length ≤ am_max y ∧ as.length = k ∧ as.reverse ++ r = S ∧
    (i = .invokestatic x ∨ ∃ b as', as = .ref b :: as' ∧ (i = .invokespecial x ∨ (i = .invokevirtual x ∧ ∃ vs, am_at A b (am_own y) = some vs))) := by
  unfold am_cal at h
  split at h
  · next x =>
    obtain ⟨⟨y', k⟩, h1, h2⟩ := Option.bind_eq_some_iff.mp h
    obtain ⟨h3, h4⟩ := am_bif h2
    simp only [Bool.and_eq_true, decide_eq_true_eq] at h3
    split at h4
    · next b as' he =>
      obtain ⟨h5, h6⟩ := am_bif h4
      obtain ⟨vs, h7, h8⟩ := Option.map_eq_some_iff.mp h6
      cases h8
      refine ⟨x, k, h1, h3.2, of_decide_eq_true h5, ?_, ?_, Or.inr ⟨b, as', rfl, Or.inr ⟨rfl, vs, h7⟩⟩⟩
      · rw [← he, List.length_reverse, List.length_take]
        have := h3.1
        dsimp only
        omega
      · rw [← he]; simp
    · cases h4
  · next x =>
    obtain ⟨⟨y', k⟩, h1, h2⟩ := Option.bind_eq_some_iff.mp h
    obtain ⟨h3, h4⟩ := am_bif h2
    simp only [Bool.and_eq_true, decide_eq_true_eq] at h3
    split at h4
    · next b as' he =>
      obtain ⟨h5, h6⟩ := am_bif h4
      cases h6
      refine ⟨x, k, h1, h3.2, of_decide_eq_true h5, ?_, ?_, Or.inr ⟨b, as', rfl, Or.inl rfl⟩⟩
      · rw [← he, List.length_reverse, List.length_take]
        have := h3.1
        dsimp only
        omega
      · rw [← he]; simp
    · cases h4
  · next x =>
    obtain ⟨⟨y', k⟩, h1, h2⟩ := Option.bind_eq_some_iff.mp h
    obtain ⟨h3, h4⟩ := am_bif h2
    simp only [Bool.and_eq_true, decide_eq_true_eq] at h3
    cases h4
    refine ⟨x, k, h1, h3.2.1, h3.2.2, ?_, by simp, Or.inl rfl⟩
    rw [List.length_reverse, List.length_take]
    have := h3.1
    dsimp only
    omega
  · cases h
theorem am_run_lt {n d m : Nat} {f : am_F} {z : am_O × am_H} (h : am_run n d m f = some z) : m < 182 := by
  cases n with
  | zero => cases h
  | succ n =>
    obtain ⟨pc, L, S, A⟩ := f
    obtain ⟨i, len, hc, -⟩ := am_run_inv h
    exact am_code_lt hc
theorem am_ret_len {o : Nat} {i : Instr} {S : List Value} {v : Option Value} {pc len : Nat} (h : am_ret o i S = some v) (k : am_iok pc i len = true) : len = 1 := by
  cases i with
  | ireturn => simpa [am_iok] using k
  | lreturn => simpa [am_iok] using k
  | areturn => simpa [am_iok] using k
  | return_ => simpa [am_iok] using k
  | _ => cases h
theorem am_sort3 {o : Nat} {i : Instr} (h : 3 ≤ am_sort o i) : i = .athrow := by
  cases i with
  | athrow => rfl
  | invokespecial x =>
    simp only [am_sort] at h
    split at h
    · next q _ => cases hq : decide (q.1 < 1000) <;> simp [hq] at h
    · simp at h
  | invokestatic x =>
    simp only [am_sort] at h
    split at h
    · next q _ => cases hq : decide (q.1 < 1000) <;> simp [hq] at h
    · simp at h
  | _ => simp [am_sort] at h
/-! tables of handlers -/
noncomputable def am_hal (own : Nat) : List (Nat × Nat × Nat × Nat) → List (Nat × Nat × Nat × Nat) → Bool
  | [], [] => true
  | x :: t, h :: u => decide (x.1 = h.1) && (decide (x.2.1 = h.2.1) && (decide (x.2.2.1 = h.2.2.1) && (decide (x.2.2.2 ≠ 0) && (decide (210 ≤ h.2.2.2) && (decide (h.2.2.2 < 214) && (decide (Cond.classLink (am_cln own) x.2.2.2 (am_exn (h.2.2.2 - 210)) ∈ lw_tbl) && am_hal own t u))))))
  | _, _ => false
set_option maxRecDepth 100000 in
theorem ck_hal : ((List.range 182).all fun m => am_hal (am_own m) (am_hh m) (am_hnd m)) = true := by decide +kernel
theorem am_hal_nil {own : Nat} : ∀ {hh : List (Nat × Nat × Nat × Nat)}, am_hal own hh [] = true → hh = []
  | [], _ => rfl
  | _ :: _, h => by cases h
theorem am_hal_cons {own : Nat} {x h : Nat × Nat × Nat × Nat} {t u : List (Nat × Nat × Nat × Nat)} (q : am_hal own (x :: t) (h :: u) = true) : x.1 = h.1 ∧ x.2.1 = h.2.1 ∧ x.2.2.1 = h.2.2.1 ∧ x.2.2.2 ≠ 0 ∧ 210 ≤ h.2.2.2 ∧ h.2.2.2 < 214 ∧ Cond.classLink (am_cln own) x.2.2.2 (am_exn (h.2.2.2 - 210)) ∈ am_ws ∧ am_hal own t u = true := by
  unfold am_hal at q
  simp only [Bool.and_eq_true, decide_eq_true_eq] at q
  obtain ⟨h1, h2, h3, h4, h5, h6, h7, h8⟩ := q
  exact ⟨h1, h2, h3, h4, h5, h6, List.mem_filter.mpr ⟨h7, rfl⟩, h8⟩
theorem am_hok_of {s : State} {args : Array Value} {own k : Nat} (hk1 : 210 ≤ k) (hk2 : k < 214) (hts : ∀ w ∈ am_ws, w.before args s = true) (hN : am_Ns s) : ∀ (es : List ExceptionTableEntry) (hs : List (Nat × Nat × Nat × Nat)), am_hal own (es.map fun x => (x.startPc, x.endPc, x.handlerPc, x.catchType)) hs = true → am_hok s args (am_cln own) (am_exn (k - 210)) k es hs
  | [], [], _ => trivial
  | [], _ :: _, h => by cases h
  | _ :: _, [], h => by cases h
  | x :: t, z :: u, h => by
    obtain ⟨h1, h2, h3, h4, h5, h6, h7, h8⟩ := am_hal_cons h
    refine ⟨⟨h1, h2, h3, h4, hts _ h7, ?_⟩, am_hok_of hk1 hk2 hts hN t u h8⟩
    by_cases hq : k = z.2.2.2
    · exact Or.inl ⟨hq, by rw [hq]⟩
    · exact Or.inr ⟨hq, hN _ _ (by omega) (by omega) (by omega)⟩
theorem am_fnd_kind {own : Nat} {pc k hp : Nat} : ∀ (hh hs : List (Nat × Nat × Nat × Nat)), am_hal own hh hs = true → am_fnd hs pc k = some hp → 210 ≤ k ∧ k < 214
  | [], [], _, h => by cases h
  | [], _ :: _, h, _ => by cases h
  | _ :: _, [], h, _ => by cases h
  | x :: t, z :: u, h, h0 => by
    obtain ⟨h1, h2, h3, h4, h5, h6, h7, h8⟩ := am_hal_cons h
    by_cases hq : k = z.2.2.2
    · rw [hq]; exact ⟨h5, h6⟩
    · refine am_fnd_kind (pc := pc) (hp := hp) t u h8 ?_
      unfold am_fnd at h0
      rw [show (k == z.2.2.2) = false from beq_eq_false_iff_ne.mpr hq] at h0
      simpa using h0
/-- what a run of the small machine says of the model's end -/
def am_Qz (G : am_G) (z : am_O × am_H) (oc : Outcome) (t : State) : Prop := (match z.1 with
   | .inl v => oc = .returned (v.map (am_v (am_mp G)))
   | .inr a => oc = .threw (am_ad G a)) ∧ am_I t G z.2 t.heap
def am_Sim (l : Launch) (n : Nat) : Prop := ∀ (d o : Nat) (f : am_F) (z : am_O × am_H), am_run n d o f = some z → ∀ (p : Program) (e : Env) (R : Room) (s : State) (m : MethodId) (args : Array Value) (below : List Frame) (meth : Method) (c : Code) (H : Heap) (locs : List Loc) (cells slots : Nat) (ls : Array Slot) (G : am_G) (mc ms : Nat),
    am_B l p s m args meth c R G d o mc ms → am_I s G f.2.2.2 H → am_hl (am_mp G) ls (am_max o) f.2.1 → (∀ q ∈ locs, G.2.1 ≤ q.base) → f.2.2.2.length + mc = z.2.length + cells → am_sl f.2.2.2 + ms = am_sl z.2 + slots →
    W p l e R s m args below meth c H locs cells slots (am_MQ below (am_Qz G z) s mc ms (fun q => G.2.1 ≤ q)) (F0 m f.1 ls (f.2.2.1.map (am_v (am_mp G))))
theorem am_cw_with {m : Nat} {a : Array Value} {U : State} (h : (am_cw m).before a U = true) : (Cond.codeWith (am_mn m) (am_by m) (am_max m) (am_rty m) (am_hh m)).before a U = true := by
  unfold am_cw at h
  split at h
  · next he =>
    rw [he]
    unfold Cond.before Cond.holds at h ⊢
    rw [← Cond.code_iff_codeWith_nil]
    exact h
  · exact h
theorem am_ws_at {s : State} {args : Array Value} (hts : ∀ w ∈ am_ws, w.before args s = true) : ∀ w ∈ am_ws, ∀ (a' : Array Value) (U : State), s.WarmedH U.vm → w.before a' U = true :=
  fun w hw _ _ hW => word_at hW (good_of_word (List.mem_filter.mp hw).2) (hts w hw)
theorem am_hws_of {s : State} {args : Array Value} {G : am_G} (h : ∀ q ∈ am_tst, am_Tz s G s.heap q) : ∀ w ∈ am_hws, w.before args s = true := by
  have h1 := (h _ (List.mem_cons_self)).words (args := args)
  have h2 := (h _ (List.mem_cons_of_mem _ (List.mem_cons_self))).words (args := args)
  intro w hw
  simp only [am_hws, List.mem_cons, List.not_mem_nil, or_false] at hw
  rcases hw with rfl | rfl | rfl | rfl
  · exact h1.1
  · exact h2.1
  · exact h1.2
  · exact h2.2
/-- what stands at a method's entry, out of the kit's own premises -/
theorem am_B_of {l : Launch} {p : Program} {e : Env} {s : State} {m : MethodId} {args : Array Value} {below : List Frame} {meth : Method} {c : Code} {s₁ : State} {G : am_G} {A : am_H} {d y mc ms : Nat} (hntr : l.stackTraces = false) (hy : y < am_nM - 1)
    (B : BodyLoose p l (am_mn y) (headSpec am_ws { frames := d, cells := mc, slots := ms, locals := 60 * d }) (am_by y) (am_max y) (am_rty y) e s m args below meth c s₁) (hml : c.maxLocals = am_max y) (hT : (c.exceptionTable.toList.map fun x => (x.startPc, x.endPc, x.handlerPc, x.catchType)) = am_hh y) (hI : am_I s G A s.heap) :
    am_B l p s m args meth c { frames := d, cells := mc, slots := ms, locals := 60 * d } G d y mc ms := by
  obtain ⟨tcw, tini, tst, tin, tMH, tpl, tcl, tmx, tnp, tinit, thh⟩ := tb_met hy
  refine ⟨B.exec, B.bytes, hml, hT, B.returns, B.notSynchronized, fun h => ?_, ?_, atoms_spec (ws := am_ws) B.pre, rfl, fun q cell h1 h2 => hI.stat h1 h2, hntr, am_hws_of hI.2.2.1.1.1⟩
  · rw [(name_of_methodNamed B.named B.method).1]
    exact (tinit h).1
  · rw [tcl]
    exact findClass_of_methodNamed B.named
theorem am_callee {l : Launch} {n : Nat} (ih : am_Sim l n) (hntr : l.stackTraces = false) {d y : Nat} {as : List Value} {A : am_H} {q : am_O × am_H} {G : am_G} (hrun : am_run n d y (0, am_ent y as, [], A) = some q) (hy : y < am_nM - 1) (hen : (am_en as).length ≤ am_max y) :
    am_Met l (am_mn y) am_ws { frames := d, cells := q.2.length - A.length, slots := am_sl q.2 - am_sl A, locals := 60 * d } (fun a U => a = (as.map (am_v (am_mp G))).toArray ∧ am_I U G A U.heap) (fun _ _ oc t => am_Qz G q oc t) (q.2.length - A.length) (am_sl q.2 - am_sl A) (fun q => G.2.1 ≤ q) := by
  obtain ⟨tcw, tini, tst, tin, tMH, tpl, tcl, tmx, tnp, tinit, thh⟩ := tb_met hy
  obtain ⟨g1, g2⟩ := am_run_gr hrun
  refine am_Met.ofW (cc := am_by y) (maxL := am_max y) (ret := am_rty y) (hh := am_hh y) tpl (fun a U h => am_cw_with (h _ tcw)) ?_
  rintro p e s m args below meth c s₁ B hml hT ⟨rfl, hI⟩
  rw [lg_entry_eq]
  exact ih d y (0, am_ent y as, [], A) q hrun p e _ s m _ below meth c s.heap [] 0 0 _ G _ _ (am_B_of hntr hy B hml hT hI) hI (am_ent_hl (am_mp G) hen) (fun q hq => absurd hq List.not_mem_nil) (by dsimp only at g1 ⊢; omega) (by dsimp only at g2 ⊢; omega)
theorem am_blind (G : am_G) (A : am_H) (x : Array Value) : FrameBlind (fun a U => a = x ∧ am_I U G A U.heap) := fun a U g mk h => ⟨h.1, h.2.warm (U := U.calling g mk a) (State.WarmedH.refl U)⟩
