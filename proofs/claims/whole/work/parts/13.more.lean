/-! New objects and arrays, constants, static fields, returns, throws. -/
theorem am_v_dflt (ad : am_M) (t : FieldType) : am_v ad (defaultValue t) = defaultValue t := by cases t <;> rfl
section AMN
variable {p : Program} {l : Launch} {e : Env} {R : Room} {s : State} {m : MethodId} {args : Array Value} {below : List Frame} {meth : Method} {c : Code} {H : Heap} {locs : List Loc} {cells slots : Nat} {Q Q' : State → Prop}
variable {cc : ByteArray} {pc : Nat} {ls : Array Slot} {G : am_G} {A : am_H}
theorem am_W_imp {g : JFrame} (h : ∀ t, Q t → Q' t) (k : W p l e R s m args below meth c H locs cells slots Q g) : W p l e R s m args below meth c H locs cells slots Q' g := by
  intro T hT X
  obtain ⟨t, a, b⟩ := k T hT X
  exact ⟨t, a, h t b⟩
theorem am_new_sim (hx : p.tables.exec = Jvm.exec) (hb : c.code = cc) (hts : ∀ w ∈ am_ws, w.before args s = true) {o x kd : Nat} (hown : s.vm.findClass (am_cln (am_own o)) = some m.cls) (hI : am_I s G A H)
    {S : List Value} (h : am_cls (am_own o) x = some kd) (hd : decode cc pc = .ok (.new x, 3)) (hc : cells + 1 ≤ R.cells) (hs : slots + (am_def kd).length ≤ R.slots)
    (k : ∀ H', am_I s G (A ++ [(kd, am_def kd)]) H' → W p l e R s m args below meth c H' locs (cells + 1) (slots + (am_def kd).length) Q (F0 m (pc + 3) ls ((Value.ref A.length :: S).map (am_v (am_mp G))))) : W p l e R s m args below meth c H locs cells slots Q (F0 m pc ls (S.map (am_v (am_mp G)))) := by
  have hz := hI.size
  rcases tb_new h with ⟨h1, h2, h3⟩ | ⟨h1, h2, h3, h4, h5, h6⟩
  · obtain ⟨u1, u2, u3, u4, u5⟩ := tb_cls kd h1
    obtain ⟨cC, kC, hfc, hkC, hkind, -, -, hn⟩ := Cond.instantiable_spec (hts _ u2)
    have hl : (am_def kd).length = am_N kd := by rw [tb_def h1]; simp
    refine W.newcK hx hb (n := am_N kd) hown (hts _ h2) (hts _ u2) (hts _ u3) rfl hd hc (by rw [← hl]; exact hs) hfc rfl fun H' kC' hkC' e1 e2 e3 => ?_
    cases hkC.symm.trans hkC'
    have hI' : am_I s G (A ++ [(kd, am_def kd)]) H' := by
      refine hI.push e1 e2 e3 ?_
      unfold am_cell
      rw [if_pos (show kd < 100 by have := tb_nC h1; omega)]
      refine ⟨⟨rfl, (fun h => by cases h), hfc, hl, fun j v hv => ?_⟩, fun _ => rfl⟩
      have hj : j < am_N kd := by
        have h8 : j < (am_def kd).length := (List.getElem?_eq_some_iff.mp hv).1
        omega
      obtain ⟨i, cf, kf, fi, fd, hi, -⟩ := u_found (u_lays hts u1 hj)
      have h9 := u_facts hfc hkC (u_lays hts u1 hj) hi
      refine ⟨cf, kf, fi, fd, hi, h9.1, ?_⟩
      have h10 := h9.2.2
      rw [(State.fieldFound?_type hi (u4 j hj)).2] at h10
      have hv2 : v = defaultValue (am_fty kd j) := by
        have hv : (am_def kd)[j]? = some v := hv
        rw [tb_def h1] at hv
        simp [hj] at hv
        exact hv.symm
      rw [hv2, am_v_dflt]
      exact k2_blank h10
    have k2 := k H' hI'
    rw [hl] at k2
    have e9 : ((Value.ref A.length :: S).map (am_v (am_mp G))) = .ref H.size :: S.map (am_v (am_mp G)) := by rw [hz]; rfl
    rw [e9] at k2
    exact k2
  · obtain ⟨cC, kC, hfc, hkC, hkind, -, -, hn⟩ := Cond.instantiable_spec (hts _ h4)
    refine W.newcK hx hb (n := 6) hown (hts _ h3) (hts _ h4) (hts _ h5) rfl hd hc (by rw [← h6]; exact hs) hfc rfl fun H' kC' hkC' e1 e2 e3 => ?_
    cases hkC.symm.trans hkC'
    have hI' : am_I s G (A ++ [(kd, am_def kd)]) H' := by
      refine hI.push e1 e2 e3 ?_
      unfold am_cell
      rw [if_neg (show ¬ kd < 100 by omega), if_neg (show ¬ kd < 200 by omega), if_pos (show kd < 210 from h2)]
      exact ⟨cC, kC, hfc, hkC, rfl⟩
    have k2 := k H' hI'
    rw [h6] at k2
    have e9 : ((Value.ref A.length :: S).map (am_v (am_mp G))) = .ref H.size :: S.map (am_v (am_mp G)) := by rw [hz]; rfl
    rw [e9] at k2
    exact k2
theorem am_newa_inv {kd : Nat} {v : Value} {S S' : List Value} {A' : am_H} (h : am_newa kd v S A = some (S', A')) : ∃ n r, S = .int n :: r ∧ ¬ n < 0 ∧ n.toNatClampNeg ≤ 65536 ∧ S' = .ref A.length :: r ∧ A' = A ++ [(kd, List.replicate n.toNatClampNeg v)] := by
  unfold am_newa at h
  split at h
  · next n r =>
    split at h
    · cases h
    · next hc =>
      by_cases hq : n.toNatClampNeg ≤ 65536
      · simp only [hq, decide_true, cond_true, Option.some.injEq, Prod.mk.injEq] at h
        exact ⟨n, r, rfl, hc, hq, h.1.symm, h.2.symm⟩
      · simp [hq] at h
  · cases h
theorem am_newa_sim (hx : p.tables.exec = Jvm.exec) (hb : c.code = cc) (hts : ∀ w ∈ am_ws, w.before args s = true) (hI : am_I s G A H) {t : ArrayType} (ht : t = .int ∨ t = .long ∨ t = .char ∨ t = .boolean)
    {S S' : List Value} {A' : am_H} (h : am_newa (am_atk t) (defaultValue (newarray.typeOf t)) S A = some (S', A')) (hd : decode cc pc = .ok (.newarray t, 2)) {n1 n2 : Nat} (hc : A'.length = A.length + n1) (hs : am_sl A' = am_sl A + n2) (hc' : cells + n1 ≤ R.cells) (hs' : slots + n2 ≤ R.slots)
    (k : ∀ H', am_I s G A' H' → W p l e R s m args below meth c H' locs (cells + n1) (slots + n2) Q (F0 m (pc + 2) ls (S'.map (am_v (am_mp G))))) : W p l e R s m args below meth c H locs cells slots Q (F0 m pc ls (S.map (am_v (am_mp G)))) := by
  obtain ⟨n, r, rfl, h1, h2, rfl, rfl⟩ := am_newa_inv h
  have hz := hI.size
  have e1 : n1 = 1 := by simp at hc; omega
  have e2 : n2 = n.toNatClampNeg := by simp [am_sl] at hs; omega
  subst e1; subst e2
  have hb4 : n.toNatClampNeg * componentBytes (newarray.typeOf t) ≤ 536870912 := by
    have : componentBytes (newarray.typeOf t) ≤ 8 := by rcases ht with rfl | rfl | rfl | rfl <;> decide
    calc _ ≤ 65536 * 8 := Nat.mul_le_mul h2 this
      _ ≤ _ := by decide
  refine W.newa hx hb (hts _ (tb_arc ht)) rfl hd rfl h1 hb4 hc' hs' fun cA kA comp f1 f2 f3 => ?_
  refine W.eq (g2 := F0 m (pc + 2) ls ((Value.ref A.length :: r).map (am_v (am_mp G)))) (by rw [hz]; rfl) (k _ (hI.push (cell := { cls := cA, slots := Array.replicate n.toNatClampNeg (defaultValue (newarray.typeOf t)), vm := .none }) (by simp) (by simp) (fun q hq => by rw [Array.getElem?_push, if_neg (Nat.ne_of_lt hq)]) ?_))
  have hk : 100 ≤ am_atk t ∧ am_atk t < 200 ∧ am_aty (am_atk t) = newarray.typeOf t ∧ am_cmp (am_atk t) = none := by rcases ht with rfl | rfl | rfl | rfl <;> decide +kernel
  unfold am_cell
  rw [if_neg (show ¬ am_atk t < 100 by omega), if_pos hk.2.1, hk.2.2.1]
  refine ⟨am_arr_exact ⟨fun q h => (by cases h), kA, f2, comp, f3⟩ (fun h => (by cases h)) ?_, fun q hq => ?_⟩
  · simp [am_v_dflt]
  · rw [hk.2.2.2] at hq
    cases hq
theorem am_anew_sim (hx : p.tables.exec = Jvm.exec) (hb : c.code = cc) (hts : ∀ w ∈ am_ws, w.before args s = true) {o x kd : Nat} (hown : s.vm.findClass (am_cln (am_own o)) = some m.cls) (hI : am_I s G A H) (hk : am_ark (am_own o) x = some kd)
    {S S' : List Value} {A' : am_H} (h : am_newa kd .null S A = some (S', A')) (hd : decode cc pc = .ok (.anewarray x, 3)) {n1 n2 : Nat} (hc : A'.length = A.length + n1) (hs : am_sl A' = am_sl A + n2) (hc' : cells + n1 ≤ R.cells) (hs' : slots + n2 ≤ R.slots)
    (k : ∀ H', am_I s G A' H' → W p l e R s m args below meth c H' locs (cells + n1) (slots + n2) Q (F0 m (pc + 3) ls (S'.map (am_v (am_mp G))))) : W p l e R s m args below meth c H locs cells slots Q (F0 m pc ls (S.map (am_v (am_mp G)))) := by
  obtain ⟨n, r, rfl, h1, h2, rfl, rfl⟩ := am_newa_inv h
  have hz := hI.size
  have e1 : n1 = 1 := by simp at hc; omega
  have e2 : n2 = n.toNatClampNeg := by simp [am_sl] at hs; omega
  subst e1; subst e2
  obtain ⟨q, q1, q2, q3⟩ := tb_ark hk
  obtain ⟨t1, t2, t3⟩ := tb_cmp q1
  refine W.anew hx hb hown (hts _ q2) (va_AO.use (hI.2.2.2.2.2 _ q3)) rfl hd rfl h1 (by omega) hc' hs' fun cA kA comp f1 f2 f3 f4 => ?_
  refine W.eq (g2 := F0 m (pc + 3) ls ((Value.ref A.length :: r).map (am_v (am_mp G)))) (by rw [hz]; rfl) (k _ (hI.push (cell := { cls := cA, slots := Array.replicate n.toNatClampNeg .null, vm := .none }) (by simp) (by simp) (fun q hq => by rw [Array.getElem?_push, if_neg (Nat.ne_of_lt hq)]) ?_))
  unfold am_cell
  rw [if_neg (show ¬ kd < 100 by omega), if_pos (show kd < 200 from t2), show am_aty kd = .object (am_cln q) from t3]
  refine ⟨am_arr_exact ⟨fun q h => (by cases h), kA, f2, comp, f3⟩ (fun h => (by cases h)) ?_, fun q' hq' => ?_⟩
  · simp [am_v]
  · cases q1.symm.trans hq'
    exact ⟨kA, comp, f2, f3, f4⟩
/-! ends -/
theorem am_ret_sim (hx : p.tables.exec = Jvm.exec) (hb : c.code = cc) (hlocks : meth.locks = false) {o : Nat} (hr : meth.sig.returnType = am_rty o) {i : Instr} {Qc : Outcome → State → Prop} {free : Addr → Prop} {S : List Value} {v : Option Value} (h : am_ret o i S = some v) (hok : am_rok o i = true) (hd : decode cc pc = .ok (i, 1))
    (hq : ∀ t : State, t.heap = H → s.WarmedH t.vm → Qc (.returned (v.map (am_v (am_mp G)))) t) (hf : ∀ q ∈ locs, free q.base) : W p l e R s m args below meth c H locs cells slots (am_MQ below Qc s cells slots free) (F0 m pc ls (S.map (am_v (am_mp G)))) := by
  have key : ∀ {g : JFrame}, W p l e R s m args below meth c H locs cells slots (MQ below (fun _ _ oc t => Qc oc t) args s cells slots free) g → W p l e R s m args below meth c H locs cells slots (am_MQ below Qc s cells slots free) g := fun k => am_W_imp (fun t ht => by
    obtain ⟨oc, h1, h2, h3, L, h4, h5⟩ := ht
    exact ⟨oc, h1, h2, h3, L, ⟨h4.2.1, h4.2.2⟩, h5⟩) k
  cases i with
  | ireturn =>
    simp only [am_ret] at h
    split at h
    · next x =>
      split at h
      · next t ht =>
        cases hfit : fits t (.int x) with
        | false => simp [hfit] at h
        | true =>
          simp only [hfit, cond_true, Option.some.injEq] at h
          subst h
          exact key (W.zret hx hb (hr.trans ht) (am_fits_narrow hfit) hq hf hd hlocks)
      · cases h
    · cases h
  | lreturn =>
    simp only [am_ret] at h
    split at h
    · cases h
      exact key (W.lret hx hb (hr.trans (tb_rok_l hok)) hq hf hd hlocks)
    · cases h
  | areturn =>
    obtain ⟨C, hC⟩ := tb_rok_a hok
    simp only [am_ret] at h
    split at h
    · cases h
      exact key (W.aret hx hb (hr.trans hC) (Or.inl ⟨_, rfl⟩) (Or.inr ⟨_, rfl⟩) hq hf hd hlocks)
    · cases h
      exact key (W.aret hx hb (hr.trans hC) (Or.inl ⟨_, rfl⟩) (Or.inl rfl) hq hf hd hlocks)
    · cases h
  | return_ =>
    simp only [am_ret] at h
    split at h
    · cases h
      exact key (W.vret hx hb (hr.trans (tb_rok_v hok)) hq hf hd hlocks)
    · cases h
  | _ => cases h
theorem am_throw_sim (hx : p.tables.exec = Jvm.exec) (hb : c.code = cc) (hlocks : meth.locks = false) (hno : c.exceptionTable.toList = []) {Qc : Outcome → State → Prop} {free : Addr → Prop} {a : Nat} {r : List Value} (hd : decode cc pc = .ok (.athrow, 1))
    (hq : ∀ t : State, t.heap = H → s.WarmedH t.vm → Qc (.threw (am_ad G a)) t) (hf : ∀ q ∈ locs, free q.base) : W p l e R s m args below meth c H locs cells slots (am_MQ below Qc s cells slots free) (F0 m pc ls ((Value.ref a :: r).map (am_v (am_mp G)))) := by
  intro T hT X
  obtain ⟨h1, h2, h3, h4, h5⟩ := X.athrowLeaves hx (g := F0 m pc ls ((Value.ref a :: r).map (am_v (am_mp G)))) rfl rfl rfl (fun x hx => by rw [hno] at hx; cases hx) (a := am_ad G a) (rest := r.map (am_v (am_mp G))) rfl (by rw [hb]; exact hd) hlocks
  exact ⟨_, h1, .threw (am_ad G a), h2, h3, hq _ hT h4, locs, ⟨h4, h5⟩, hf⟩
theorem am_through {T : State} (X : Stand p l e R s m args below meth c T locs cells slots) (hlocks : meth.locks = false) (hno : c.exceptionTable.toList = []) {Qc : Outcome → State → Prop} {free : Addr → Prop} {a : Nat} {g : JFrame} (hg : g.method = m) (h1 : g.locked = none) (h2 : g.entered = [])
    (hq : ∀ t : State, t.heap = T.heap → s.WarmedH t.vm → Qc (.threw a) t) (hf : ∀ q ∈ locs, free q.base) : ∃ t, Steps p.tables e below ((T.setTop g).pushFrame (.throwing a)) t ∧ am_MQ below Qc s cells slots free t := by
  obtain ⟨g1, g2, g3, g4, g5⟩ := X.leaveThrown a hg h1 h2 (fun x hx => by rw [hno] at hx; cases hx) hlocks
  exact ⟨_, g1, .threw a, g2, g3, hq _ rfl g4, locs, ⟨g4, g5⟩, hf⟩
end AMN
