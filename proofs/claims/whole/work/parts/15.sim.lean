/-! One step of the small machine, whatever the instruction, is a step of the model's. -/
/-- words that look into the heap: Throwable's two static fields -/
def am_hws : List Cond := [.laysStatic Jvm.Bundle.tN "UNASSIGNED_STACK" Jvm.Bundle.steD, .laysStatic Jvm.Bundle.tN "SUPPRESSED_SENTINEL" Jvm.Bundle.listD, .isRef (.static Jvm.Bundle.tN "UNASSIGNED_STACK" Jvm.Bundle.steD), .isRef (.static Jvm.Bundle.tN "SUPPRESSED_SENTINEL" Jvm.Bundle.listD)]
/-- what stands in a method's body, all its way -/
def am_B (l : Launch) (p : Program) (s : State) (m : MethodId) (args : Array Value) (meth : Method) (c : Code) (R : Room) (G : am_G) (d o mc ms : Nat) : Prop :=
  p.tables.exec = Jvm.exec ∧ c.code = am_by o ∧ c.maxLocals = am_max o ∧ (c.exceptionTable.toList.map fun x => (x.startPc, x.endPc, x.handlerPc, x.catchType)) = am_hh o ∧
  meth.sig.returnType = am_rty o ∧ meth.locks = false ∧ (am_ini o = true → meth.name = "<init>") ∧ s.vm.findClass (am_cln (am_own o)) = some m.cls ∧ (∀ w ∈ am_ws, w.before args s = true) ∧
  R = { frames := d, cells := mc, slots := ms, locals := 60 * d } ∧ (∀ q cell, G.2.1 ≤ q → s.heap[q]? = some cell → cell.vm.isStatics = false) ∧ l.stackTraces = false ∧ ∀ w ∈ am_hws, w.before args s = true
set_option maxRecDepth 100000 in
theorem ck_thr : ((Jvm.Bundle.throwableAtoms ++ Jvm.Bundle.throwableSAtoms).all fun w => (decide (w ∈ lw_tbl) && goodWord w) || decide (w ∈ am_hws)) = true := by decide +kernel
set_option maxRecDepth 100000 in
theorem ck_exw : ((List.range 4).all fun j => (am_exw (am_exn j)).all fun w => (decide (w ∈ lw_tbl) && goodWord w) || decide (w ∈ am_hws)) = true := by decide +kernel
theorem am_thw {ws : List Cond} (h : (ws.all fun w => (decide (w ∈ lw_tbl) && goodWord w) || decide (w ∈ am_hws)) = true) {args : Array Value} {s : State} (h1 : ∀ w ∈ am_ws, w.before args s = true) (h2 : ∀ w ∈ am_hws, w.before args s = true) : ∀ w ∈ ws, w.before args s = true := by
  intro w hw
  have h3 := List.all_eq_true.mp h w hw
  simp only [Bool.or_eq_true, Bool.and_eq_true, decide_eq_true_eq] at h3
  rcases h3 with h3 | h3
  · exact h1 w (List.mem_filter.mpr h3)
  · exact h2 w h3
theorem am_cat_map (ad : am_M) (S : List Value) : ((S.map (am_v ad)).map fun v => v.category).sum = am_cat S := by
  unfold am_cat
  congr 1
  rw [List.map_map]
  apply List.map_congr_left
  intro v _
  exact am_v_cat ad v
section AMT
variable {p : Program} {l : Launch} {e : Env} {R : Room} {s : State} {m : MethodId} {args : Array Value} {below : List Frame} {meth : Method} {c : Code} {H : Heap} {locs : List Loc} {cells slots : Nat} {Q : State → Prop}
variable {pc : Nat} {ls : Array Slot} {G : am_G} {A : am_H} {d o mc ms : Nat}
theorem am_gets_sim (hB : am_B l p s m args meth c R G d o mc ms) (hI : am_I s G A H) {x : Nat} {v : Value} {S : List Value} (h : am_stt (am_own o) x = some v) (hd : decode (am_by o) pc = .ok (.getstatic x, 3))
    (k : W p l e R s m args below meth c H locs cells slots Q (F0 m (pc + 3) ls ((v :: S).map (am_v (am_mp G))))) : W p l e R s m args below meth c H locs cells slots Q (F0 m pc ls (S.map (am_v (am_mp G)))) := by
  obtain ⟨hx, hb, -, -, -, -, -, hown, hts, -⟩ := hB
  obtain ⟨q, hq, rfl, hl⟩ := tb_stt h
  obtain ⟨cf, kf, fi, f, a, cell, h1, h2, h3, h4, h5, h6, h7, h8⟩ := hI.2.2.1.2 q hq
  rcases hl with hl | ⟨host, hl⟩
  · exact W.gets hx hb hown (hts _ hl) h1 h2 h3 h4 h5 (fun e => by rw [e] at h6; cases h6) h7 rfl hd k
  · exact va_WgetsN hx hb hown (va_Nw.use rfl (hI.2.2.2.2.1 _ hl)) h1 h2 h3 h4 h5 (fun e => by rw [e] at h6; cases h6) h7 rfl hd k
theorem am_con_sim (hB : am_B l p s m args meth c R G d o mc ms) (hI : am_I s G A H) {i : Instr} {len x : Nat} {v : Value} {S : List Value} (hi : (i = .ldc x ∧ len = 2) ∨ (i = .ldc2_w x ∧ len = 3)) (h : am_con (am_own o) x = some v) (ho : am_cok o i = true) (hd : decode (am_by o) pc = .ok (i, len))
    (k : W p l e R s m args below meth c H locs cells slots Q (F0 m (pc + len) ls ((v :: S).map (am_v (am_mp G))))) : W p l e R s m args below meth c H locs cells slots Q (F0 m pc ls (S.map (am_v (am_mp G)))) := by
  obtain ⟨hx, hb, -, -, -, -, -, hown, hts, -⟩ := hB
  rcases hi with ⟨rfl, rfl⟩ | ⟨rfl, rfl⟩
  · rcases tb_con1 ho h with ⟨z, rfl, hw⟩ | ⟨a, tx, rfl, hw⟩
    · exact lv_ldc hx hb hown (hts _ hw) hd k
    · have hZ : vk_R (am_cln (am_own o)) x tx (am_ad G a) s := hI.2.2.2.1 (am_cln (am_own o), x, tx, a) hw
      exact va_ldcS hx hb hown hZ hd k
  · obtain ⟨z, rfl, hw⟩ := tb_con2 ho h
    exact lv_ldc2 hx hb hown (hts _ hw) hd k
theorem am_bltA_inv {r : List Value} {b : Bool} {x : List Value × am_H} {q : List Value × am_H} (h : (bif b then some x else none) = some q) : b = true ∧ q = x := by
  cases b with
  | false => cases h
  | true => exact ⟨rfl, (Option.some.inj h).symm⟩
theorem am_blt_sim (hB : am_B l p s m args meth c R G d o mc ms) (hI : am_I s G A H) (hls : ls.size = am_max o) (hcr : cells ≤ R.cells) (hsr : slots ≤ R.slots) (hloc : ∀ q ∈ locs, G.2.1 ≤ q.base) {i : Instr} {x : Nat} {z : Nat × Nat} {S : List Value} {q : List Value × am_H} (hi : i = .invokespecial x ∨ i = .invokestatic x) (hz : am_mth (am_own o) x = some z) (hi2 : (z.1 = 1000 ∨ z.1 = 1001) → i = .invokespecial x) (hi3 : (z.1 = 1002 ∨ z.1 = 1003 ∨ z.1 = 1004) → i = .invokestatic x) (h : am_blt d z.1 S A = some q) (hd : decode (am_by o) pc = .ok (i, 3))
    (k : ∀ H' locs', am_I s G q.2 H' → (∀ q ∈ locs', G.2.1 ≤ q.base) → W p l e R s m args below meth c H' locs' cells slots Q (F0 m (pc + 3) ls (q.1.map (am_v (am_mp G))))) : W p l e R s m args below meth c H locs cells slots Q (F0 m pc ls (S.map (am_v (am_mp G)))) := by
  obtain ⟨hx, hb, hml, -, -, -, -, hown, hts, rfl, hst, hntr, hhw⟩ := hB
  have hmt := tb_mth hz
  unfold am_blt at h
  split at h
  · next hz0 =>
    cases hi2 (Or.inl hz0)
    split at h
    · next a r =>
      obtain ⟨hc, rfl⟩ := am_bltA_inv (r := r) h
      simp only [Bool.and_eq_true, decide_eq_true_eq] at hc
      have hlk : Cond.methodLink (am_cln (am_own o)) x objectInit ∈ am_ws := by
        rcases hmt with h9 | h9 | h9 | h9 | h9 | h9
        · have := h9.1; rw [hz0] at this; exact absurd this (by decide +kernel)
        · exact h9.2
        all_goals (have := h9.1; rw [hz0] at this; exact absurd this (by decide))
      refine W.objInit hx hb hown (hts _ hlk) (hts _ ts_obi) (hts _ ts_obc) rfl (by rw [hml]; exact hls) rfl hd hc.1 ?_ (k H locs hI hloc)
      show 2 * 0 + _ + 12 ≤ 60 * d
      have := am_cat_map (am_mp G) r
      rw [this]
      omega
    · cases h
  · next hz0 =>
    cases hi2 (Or.inr hz0)
    split at h
    · next b a r =>
      obtain ⟨ce, h1, h2⟩ := Option.bind_eq_some_iff.mp h
      obtain ⟨hc, rfl⟩ := am_bltA_inv (r := r) h2
      simp only [Bool.and_eq_true, decide_eq_true_eq] at hc
      have hlk : Cond.methodLink (am_cln (am_own o)) x (Jvm.Bundle.initS Jvm.Bundle.tN) ∈ am_ws := by
        rcases hmt with h9 | h9 | h9 | h9 | h9 | h9
        · have := h9.1; rw [hz0] at this; exact absurd this (by decide +kernel)
        · have := h9.1; rw [hz0] at this; exact absurd this (by decide)
        · exact h9.2
        all_goals (have := h9.1; rw [hz0] at this; exact absurd this (by decide))
      obtain ⟨cell, h3, h4⟩ := hI.get h1
      unfold am_cell at h4
      rw [if_neg (show ¬ ce.1 < 100 by omega), if_neg (show ¬ ce.1 < 200 by omega), if_pos (show ce.1 < 210 by omega)] at h4
      obtain ⟨cX, kX, g1, g2, rfl⟩ := h4
      obtain ⟨j, hj, hje⟩ : ∃ j, j < 4 ∧ ce.1 = 200 + j := ⟨ce.1 - 200, by omega, by omega⟩
      rw [show ce.1 - 200 = j by omega] at g1
      intro T hT X
      have htr : e.platform.stackTraces = false := by rw [Jvm.Example.NoTraceControls.admits_follows X.admits]; exact hntr
      obtain ⟨vm', ce', L, e1, e2, e3, X', st⟩ := am_thr X hx htr (own := am_cln (am_own o)) (cls := am_exn j) (ic := x) hown
        (am_thw (by have := ck_thr; rw [List.all_append, Bool.and_eq_true] at this; exact this.1) hts hhw) (am_thw (by have := ck_thr; rw [List.all_append, Bool.and_eq_true] at this; exact this.2) hts hhw) (am_thw (am_rg1 ck_exw hj) hts hhw) (hts _ hlk)
        (fun y hy cell hcell => hst _ _ (hloc y hy) hcell) (a := am_ad G a) (cX := cX) (kX := kX) g1 g2 (by rw [hT]; exact h3) (msg := .ref (am_ad G b)) rfl (g := F0 m pc ls ((Value.ref b :: Value.ref a :: r).map (am_v (am_mp G)))) rfl (by rw [hml]; exact hls) (rest := r.map (am_v (am_mp G))) rfl (by rw [hb]; exact hd) (by show 2 < d; omega)
        (by
          show 2 * 0 + _ + 42 ≤ 60 * d
          have := am_cat_map (am_mp G) r
          rw [this]
          omega)
      have hlt : am_ad G a < T.heap.size := by rw [hT]; exact (Array.getElem?_eq_some_iff.mp h3).1
      have hI' : am_I s G (A.set a (ce.1 + 10, ce.2)) ((T.setVm vm').setCell (am_ad G a) ce').heap := by
        refine hI.set (by omega) (cell' := ce') (heapAt_setCell_self _ hlt) ?_ (fun q hq => ?_) ?_
        · rw [size_setCell]; show T.heap.size = _; rw [hT]
        · rw [heapAt_setCell_ne _ (Ne.symm hq)]; show T.heap[q]? = _; rw [hT]
        · unfold am_cell
          rw [if_neg (show ¬ ce.1 + 10 < 100 by omega), if_neg (show ¬ ce.1 + 10 < 200 by omega), if_neg (show ¬ ce.1 + 10 < 210 by omega)]
          refine ⟨by omega, e1, ?_⟩
          rw [show ce.1 + 10 - 210 = j by omega, e2]
          exact g1
      obtain ⟨t, a1, b1⟩ := k _ (locs ++ L) hI' (fun y hy => by
        rcases List.mem_append.mp hy with hy | hy
        · exact hloc y hy
        · rw [e3 y hy]; exact am_ad_ge (by omega)) _ rfl X'
      exact ⟨t, st t a1, b1⟩
    · cases h
  · next hz0 =>
    cases hi3 (Or.inl hz0)
    split at h
    · next y' x' r =>
      obtain ⟨hc, rfl⟩ := am_bltA_inv (r := r) h
      simp only [Bool.and_eq_true, decide_eq_true_eq] at hc
      have hlk : Cond.methodLink (am_cln (am_own o)) x Lib.MathLoose.max_long.x ∈ am_ws := by
        rcases hmt with h9 | h9 | h9 | h9 | h9 | h9
        · have := h9.1; rw [hz0] at this; exact absurd this (by decide +kernel)
        · have := h9.1; rw [hz0] at this; exact absurd this (by decide)
        · have := h9.1; rw [hz0] at this; exact absurd this (by decide)
        · exact h9.2
        all_goals (have := h9.1; rw [hz0] at this; exact absurd this (by decide))
      exact va_mmax_long hx hb (by rw [hml]; exact hls.symm) hown (hts _ hlk) (hts _ ts_mxl) (hts _ ts_mth) (hts _ tc_mxl) hc.1 (by
        have := am_cat_map (am_mp G) r
        show _ + 15 ≤ 60 * d
        rw [this]
        omega) hcr hsr hd (k H locs hI hloc)
    · cases h
  · next hz0 =>
    cases hi3 (Or.inr (Or.inl hz0))
    split at h
    · next y' x' r =>
      obtain ⟨hc, rfl⟩ := am_bltA_inv (r := r) h
      simp only [Bool.and_eq_true, decide_eq_true_eq] at hc
      have hlk : Cond.methodLink (am_cln (am_own o)) x Lib.Math.max.name ∈ am_ws := by
        rcases hmt with h9 | h9 | h9 | h9 | h9 | h9
        · have := h9.1; rw [hz0] at this; exact absurd this (by decide +kernel)
        · have := h9.1; rw [hz0] at this; exact absurd this (by decide)
        · have := h9.1; rw [hz0] at this; exact absurd this (by decide)
        · have := h9.1; rw [hz0] at this; exact absurd this (by decide)
        · exact h9.2
        · have := h9.1; rw [hz0] at this; exact absurd this (by decide)
      exact va_mmax hx hb (by rw [hml]; exact hls.symm) hown (hts _ hlk) (hts _ ts_mxi) (hts _ ts_mth) (hts _ tc_mxi) hc.1 (by
        have := am_cat_map (am_mp G) r
        show _ + 13 ≤ 60 * d
        rw [this]
        omega) hcr hsr hd (k H locs hI hloc)
    · cases h
  · next hz0 =>
    cases hi3 (Or.inr (Or.inr hz0))
    split at h
    · next y' x' r =>
      obtain ⟨hc, rfl⟩ := am_bltA_inv (r := r) h
      simp only [Bool.and_eq_true, decide_eq_true_eq] at hc
      have hlk : Cond.methodLink (am_cln (am_own o)) x Lib.Math.min.name ∈ am_ws := by
        rcases hmt with h9 | h9 | h9 | h9 | h9 | h9
        · have := h9.1; rw [hz0] at this; exact absurd this (by decide +kernel)
        · have := h9.1; rw [hz0] at this; exact absurd this (by decide)
        · have := h9.1; rw [hz0] at this; exact absurd this (by decide)
        · have := h9.1; rw [hz0] at this; exact absurd this (by decide)
        · have := h9.1; rw [hz0] at this; exact absurd this (by decide)
        · exact h9.2
      exact va_mmin hx hb (by rw [hml]; exact hls.symm) hown (hts _ hlk) (hts _ ts_mni) (hts _ ts_mth) (hts _ tc_mni) hc.1 (by
        have := am_cat_map (am_mp G) r
        show _ + 13 ≤ 60 * d
        rw [this]
        omega) hcr hsr hd (k H locs hI hloc)
    · cases h
  · cases h
end AMT
