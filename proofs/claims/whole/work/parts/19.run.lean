/-! After a call; and the whole run. -/
set_option maxRecDepth 100000 in
theorem ck_own : ((List.range 182).all fun m => decide (am_own m < 100)) = true := by decide +kernel
theorem am_own_lt {y : Nat} (h : y < am_nM - 1) : am_own y < 100 := of_decide_eq_true (List.all_eq_true.mp ck_own y (List.mem_range.mpr (by have : am_nM = 182 := rfl; omega)))
section AMR
variable {p : Program} {l : Launch} {e : Env} {R : Room} {s : State} {m : MethodId} {args : Array Value} {below : List Frame} {meth : Method} {c : Code} {H : Heap} {locs : List Loc} {cells slots : Nat}
variable {pc : Nat} {ls : Array Slot} {G : am_G} {A : am_H} {d o mc ms n : Nat}
theorem am_knd_get {A : am_H} {a k : Nat} (h : am_knd A a = k) (hk : 0 < k) : ∃ vs, A[a]? = some (k, vs) := by
  unfold am_knd at h
  split at h
  · next c hc => exact ⟨c.2, by rw [hc, ← h]⟩
  · omega
theorem am_after (ih : am_Sim l n) (hB : am_B l p s m args meth c R G d o mc ms) (hI : am_I s G A H) {L : am_L} (hl : am_hl (am_mp G) ls (am_max o) L) (hloc : ∀ q ∈ locs, G.2.1 ≤ q.base) {S r : List Value} {q z : am_O × am_H} {m1 m2 : Nat} (ho : o < 182)
    (h1 : (∃ v, q.1 = .inl v ∧ am_run n d o (pc + 3, L, v.toList ++ r, q.2) = some z) ∨ (∃ a, q.1 = .inr a ∧ ((∃ h, am_fnd (am_hnd o) pc (am_knd q.2 a) = some h ∧ am_run n d o (h, L, [.ref a], q.2) = some z) ∨ ((am_hnd o).isEmpty = true ∧ z = (.inr a, q.2)))))
    (hcn : q.2.length + mc = z.2.length + (cells + m1)) (hsn : am_sl q.2 + ms = am_sl z.2 + (slots + m2))
    (hRun : am_Run p l e R s m args below meth c H locs cells slots m1 m2 (F0 m pc ls (S.map (am_v (am_mp G)))) (r.map (am_v (am_mp G))) (fun _ oc t => am_Qz G q oc t) (fun q => G.2.1 ≤ q)) :
    W p l e R s m args below meth c H locs cells slots (am_MQ below (am_Qz G z) s mc ms (fun q => G.2.1 ≤ q)) (F0 m pc ls (S.map (am_v (am_mp G)))) := by
  intro T hT X
  have hBB := hB
  obtain ⟨hx, hb, hml, hht, hr, hlocks, hini, hown, hts, hR, hst, hntr', hhw⟩ := hB
  obtain ⟨oc, st, t, T', L', e1, e2, X', hL, e3, e4, ⟨hoc, hIt⟩, steps⟩ := hRun T hT X
  have al : t.vm.Alike s.vm := by rw [← e4]; exact X'.warmed.alike.symm
  have hIs : am_I s G q.2 T'.heap := by
    rw [e3]
    exact ⟨hI.1, hIt.2.1.moved al, hIt.2.2.1.moved al, hI.2.2.2⟩
  have hloc' : ∀ y ∈ locs ++ L', G.2.1 ≤ y.base := fun y hy => (List.mem_append.mp hy).elim (hloc y) (hL y)
  have hal := List.all_eq_true.mp ck_hal o (List.mem_range.mpr ho)
  rcases h1 with ⟨v, hq1, hrest⟩ | ⟨a, hq1, ⟨hp, hfnd, hrest⟩ | ⟨hemp, rfl⟩⟩
  · rw [hq1] at hoc
    dsimp only at hoc
    subst hoc
    obtain ⟨t2, a2, b2⟩ := ih d o (pc + 3, L, v.toList ++ r, q.2) z hrest p e R s m args below meth c T'.heap (locs ++ L') (cells + m1) (slots + m2) ls G mc ms hBB hIs hl hloc' hcn hsn T' rfl X'
    refine ⟨t2, steps t2 ?_, b2⟩
    have e9 : ((v.toList ++ r).map (am_v (am_mp G))) = (v.map (am_v (am_mp G))).toList ++ r.map (am_v (am_mp G)) := by cases v <;> simp
    dsimp only at a2
    rw [e9] at a2
    exact a2
  · rw [hq1] at hoc
    dsimp only at hoc
    subst hoc
    obtain ⟨k1, k2⟩ := am_fnd_kind _ _ hal hfnd
    obtain ⟨vs, hgetA⟩ := am_knd_get (A := q.2) (a := a) rfl (by omega)
    obtain ⟨cell, hcell, hck⟩ := hIs.get hgetA
    unfold am_cell at hck
    dsimp only at hck
    rw [if_neg (by omega), if_neg (by omega), if_neg (by omega)] at hck
    obtain ⟨-, hvm, hX⟩ := hck
    have hok := am_hok_of (s := s) (args := args) (own := am_own o) k1 k2 hts hIs.2.2.1.1.2 c.exceptionTable.toList (am_hnd o) (by rw [hht]; exact hal)
    have hpl : e.platform.magicAccessors = ({} : Platform).magicAccessors := by rw [X.admits.platform]
    have hobj : cell.vm.isStatics = false := by rw [hvm]; rfl
    obtain ⟨vm', hW', hfind⟩ := am_find (s := s) (args := args) (e := e) (m := m) hpl hown (g := { F0 m pc ls (S.map (am_v (am_mp G))) with stack := r.map (am_v (am_mp G)) }) rfl (a := am_ad G a) (cell := cell) hobj hX c.exceptionTable.toList (am_hnd o) hok hfnd T'.vm X'.warmed
    have X2 : Stand p l e R s m args below meth c (T'.setVm vm') (locs ++ L') (cells + m1) (slots + m2) := X'.noted hW'
    obtain ⟨t2, a2, b2⟩ := ih d o (hp, L, [.ref a], q.2) z hrest p e R s m args below meth c T'.heap (locs ++ L') (cells + m1) (slots + m2) ls G mc ms hBB hIs hl hloc' hcn hsn (T'.setVm vm') rfl X2
    refine ⟨t2, steps t2 ?_, b2⟩
    refine am_caught (c := c) X'.here (g := { F0 m pc ls (S.map (am_v (am_mp G))) with stack := r.map (am_v (am_mp G)) }) (a := am_ad G a) (pc := hp) (vm' := vm') (fun Q E dd acts => ?_) a2
    obtain ⟨g0, hg0⟩ := Option.isSome_iff_exists.mp X'.here.top
    have hm' : T'.vm.method? m = some meth := X'.method'
    have h9 := hfind ((T'.setTop { F0 m pc ls (S.map (am_v (am_mp G))) with stack := r.map (am_v (am_mp G)) }).pushFrame (.throwing (am_ad G a))) rfl hcell Q E dd acts
    refine Iff.trans ?_ h9
    obtain ⟨meth9, hm9, hc9⟩ : ∃ meth9, T'.vm.method? m = some meth9 ∧ meth9.code = some c := by
      have := X'.here.code
      rw [State.code?_eq] at this
      obtain ⟨w, w1, w2⟩ := Option.bind_eq_some_iff.mp this
      exact ⟨w, w1, w2⟩
    exact Jvm.W.findHandler_eq (meth := meth9) (code := c) hm9 hc9
  · rw [hq1] at hoc
    dsimp only at hoc
    subst hoc
    have hno : c.exceptionTable.toList = [] := by
      rw [List.isEmpty_iff.mp hemp] at hal
      have := am_hal_nil hal
      rw [this] at hht
      exact List.map_eq_nil_iff.mp hht
    have e8 : mc = cells + m1 := by dsimp only at hcn; omega
    have e9 : ms = slots + m2 := by dsimp only at hsn; omega
    subst e8; subst e9
    obtain ⟨t2, a2, b2⟩ := am_through X' hlocks hno (Qc := am_Qz G (.inr a, q.2)) (free := fun q => G.2.1 ≤ q) (a := am_ad G a) (g := { F0 m pc ls (S.map (am_v (am_mp G))) with stack := r.map (am_v (am_mp G)) }) rfl rfl rfl (fun t ht hW => ⟨rfl, by rw [ht]; exact hIs.warm hW⟩) hloc'
    exact ⟨t2, steps t2 a2, b2⟩
end AMR
theorem am_sim {l : Launch} (hntr : l.stackTraces = false) : ∀ n, am_Sim l n := by
  intro n
  induction n with
  | zero => intro d o f z h; cases h
  | succ n ih =>
    rintro d o ⟨pc, L, S, A⟩ z h p e R s m args below meth c H locs cells slots ls G mc ms hB hI hl hloc hcn hsn
    have hg := am_run_gr h
    obtain ⟨i, len, hc, hh⟩ := am_run_inv h
    obtain ⟨hd, hk⟩ := am_code_ok hc
    have ho := am_code_lt hc
    simp only [am_chk, Bool.and_eq_true] at hk
    obtain ⟨k1, k2, k3, k4, k5⟩ := hk
    have hBB := hB
    obtain ⟨hx, hb, hml, hht, hr, hlocks, hini, hown, hts, hR, hst, hntr', hhw⟩ := hB
    dsimp only at hcn hsn hI hl ⊢
    rcases hh with ⟨hs, f, hf, hrun⟩ | ⟨hs, v, hv, rfl⟩ | ⟨hs, y, as, r, d', q, hcal, rfl, hrun, h1⟩ | ⟨hs, a, r, rfl, h1, h2, h3, rfl⟩
    · obtain ⟨g11, g12⟩ := am_step_gr hf
      obtain ⟨g21, g22⟩ := am_run_gr hrun
      refine am_step_sim hBB hI hl hc hf hloc (by rw [hR]; dsimp only; omega) (by rw [hR]; dsimp only; omega) (fun H' ls' locs' h1 h2 h3 => ?_)
      exact ih d o f z hrun p e R s m args below meth c H' locs' _ _ ls' G mc ms hBB h1 h2 h3 (by omega) (by omega)
    · have e1 : cells = mc := by dsimp only at hcn; omega
      have e2 : slots = ms := by dsimp only at hsn; omega
      subst e1; subst e2
      obtain rfl : len = 1 := am_ret_len hv k1
      exact am_ret_sim hx hb hlocks hr hv k3 hd (fun t ht hW => ⟨rfl, by rw [ht]; exact hI.warm hW⟩) hloc
    · obtain ⟨x, k, hmt, hcat, hen, hlen, hS, hkind⟩ := am_cal_inv hcal
      have hy182 := am_run_lt hrun
      have hmt2 := tb_mth hmt
      have hmt3 : y < am_nM - 1 ∧ k = am_np y + (bif am_stc y then 0 else 1) ∧ (Cond.methodLink (am_cln (am_own o)) x (am_mn y) ∈ am_ws ∨ Cond.methodLinkNest (am_cln (am_own o)) x (am_mn y) "PluralMessages" ∈ am_nws) := by
        rcases hmt2 with h9 | h9 | h9 | h9 | h9 | h9
        · exact h9
        all_goals (have := h9.1; dsimp only at this; omega)
      obtain ⟨hy, hkn, hlk⟩ := hmt3
      have hcl := am_code_cl hc
      obtain ⟨tcw, tini, tst, tin, tMH, tpl, tcl, tmx, tnp, tinit, thh⟩ := tb_met hy
      obtain ⟨g1, g2⟩ := am_run_gr hrun
      dsimp only at g1 g2
      have hgz : am_gr q.2 z.2 := by
        rcases h1 with ⟨v, -, hrest⟩ | ⟨a, -, ⟨hp, -, hrest⟩ | ⟨-, rfl⟩⟩
        · exact am_run_gr hrest
        · exact am_run_gr hrest
        · exact am_gr.refl _
      obtain ⟨g3, g4⟩ := hgz
      have hM := am_callee ih hntr (G := G) hrun hy hen
      have hws := am_ws_at hts
      have hCB : am_CB R s (am_mn y) (am_by y) (am_max y) (am_rty y) (am_hh y) am_ws { frames := d', cells := q.2.length - A.length, slots := am_sl q.2 - am_sl A, locals := 60 * d' } (q.2.length - A.length) (am_sl q.2 - am_sl A) := by
        refine ⟨rfl, rfl, ?_, ?_, hws, fun a' U hW => am_cw_with (hws _ tcw a' U hW), fun a' U hW => hws _ tini a' U hW, tMH⟩
        · rw [hR]; exact Nat.le_refl _
        · rw [hR]; dsimp only; omega
      have hlink : (Cond.methodLink (am_cln (am_own o)) x (am_mn y)).before args s = true ∨ (Cond.methodLinkNest (am_cln (am_own o)) x (am_mn y) "PluralMessages").before args s = true := by
        rcases hlk with h9 | h9
        · exact Or.inl (hts _ h9)
        · exact Or.inr (va_Nw.use rfl (hI.2.2.2.2.1 _ h9))
      have hPc : ∀ U : State, U.heap = H → s.WarmedH U.vm → (as.map (am_v (am_mp G))).toArray = (as.map (am_v (am_mp G))).toArray ∧ am_I U G A U.heap := fun U hU hW => ⟨rfl, by rw [hU]; exact hI.warm hW⟩
      have hW8 : 2 * (F0 m pc ls (S.map (am_v (am_mp G)))).monitorRoom + ((r.map (am_v (am_mp G))).map fun v => v.category).sum ≤ 8 := by
        rw [am_cat_map]
        show 2 * 0 + _ ≤ 8
        omega
      have hf : cells + (q.2.length - A.length) ≤ R.cells ∧ slots + (am_sl q.2 - am_sl A) ≤ R.slots := by
        rw [hR]; dsimp only; omega
      have hstk : S.map (am_v (am_mp G)) = (as.map (am_v (am_mp G))).reverse ++ r.map (am_v (am_mp G)) := by rw [← hS]; simp
      refine am_after (m1 := q.2.length - A.length) (m2 := am_sl q.2 - am_sl A) ih hBB hI hl hloc ho h1 (by omega) (by omega) ?_
      have hlen3 : len = 3 := by
        rcases hkind with rfl | ⟨b, as', rfl, rfl | ⟨rfl, -⟩⟩ <;> simpa [am_iok] using k1
      subst hlen3
      rcases hkind with rfl | ⟨b, as', rfl, rfl | ⟨rfl, vs, hat⟩⟩
      · simp only [am_clk, hmt, Bool.or_eq_true, decide_eq_true_eq] at hcl
        have hstc : am_stc y = true := hcl.resolve_left (by omega)
        rw [hstc] at hkn
        exact am_runS hx hb (by rw [hml]; exact hl.1.symm) hown hM hCB hlink (hts _ (tst hstc)) (fun sig h9 => by rw [List.length_map, hlen, hkn]; exact tnp sig h9) (am_blind _ _ _) hPc rfl hstk hW8 hd hf
      · simp only [am_clk, hmt, Bool.or_eq_true, Bool.and_eq_true, Bool.not_eq_true', decide_eq_true_eq] at hcl
        obtain ⟨hstc, hin⟩ := hcl.resolve_left (by omega)
        rw [hstc] at hkn
        obtain ⟨ti1, ti2, ti3⟩ := tinit hin
        rw [ti2, ti3] at hCB
        refine am_runI (b := am_ad G b) (As := as'.map (am_v (am_mp G))) hx hb (by rw [hml]; exact hl.1.symm) hown hM hCB hlink ti1 (hts _ (tin hstc).1) (fun sig h9 => ?_) (am_blind _ _ _) hPc rfl (by rw [show (F0 m pc ls (S.map (am_v (am_mp G)))).stack = S.map (am_v (am_mp G)) from rfl, hstk]; simp [am_v, am_mp]) hW8 hd hf
        rw [List.length_map]
        have := tnp sig h9
        simp at hlen hkn
        omega
      · simp only [am_clk, hmt, Bool.and_eq_true, Bool.not_eq_true'] at hcl
        obtain ⟨hstc, hin⟩ := hcl
        rw [hstc] at hkn
        obtain ⟨cell, hcell, hck⟩ := hI.get (am_at_inv hat)
        have hown9 : am_own y < 100 := am_own_lt hy
        unfold am_cell at hck
        rw [if_pos (show (am_own y, vs).1 < 100 from hown9)] at hck
        refine am_runV (b := am_ad G b) (As := as'.map (am_v (am_mp G))) hx hb (by rw [hml]; exact hl.1.symm) hown hM hCB hlink (hts _ (tin hstc).1) (hts _ ((tin hstc).2 hin)) (fun sig h9 => ?_) ⟨cell, hcell, hck.1.1, by rw [← tcl]; exact hck.1.2.2.1⟩ (am_blind _ _ _) hPc rfl (by rw [show (F0 m pc ls (S.map (am_v (am_mp G)))).stack = S.map (am_v (am_mp G)) from rfl, hstk]; simp [am_v, am_mp]) hW8 hd hf
        rw [List.length_map]
        have := tnp sig h9
        simp at hlen hkn
        omega
    · have hi := am_sort3 hs
      subst hi
      have e1 : cells = mc := by dsimp only at hcn; omega
      have e2 : slots = ms := by dsimp only at hsn; omega
      subst e1; subst e2
      obtain rfl : len = 1 := by simpa [am_iok] using k1
      have hal := List.all_eq_true.mp ck_hal o (List.mem_range.mpr ho)
      have hno : c.exceptionTable.toList = [] := by
        rw [List.isEmpty_iff.mp h3] at hal
        have := am_hal_nil hal
        rw [this] at hht
        exact List.map_eq_nil_iff.mp hht
      exact am_throw_sim hx hb hlocks hno hd (fun t ht hW => ⟨rfl, by rw [ht]; exact hI.warm hW⟩) hloc
