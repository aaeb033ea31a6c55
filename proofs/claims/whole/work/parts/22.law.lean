/-! The claim out of the small machine's runs of the law. -/
theorem am_room_le {s : State} {pl : Platform} {R R' : Room} (h1 : R'.frames ≤ R.frames) (h2 : R'.cells ≤ R.cells) (h3 : R'.slots ≤ R.slots) (h4 : R'.locals ≤ R.locals) (h : s.hasRoom pl R = true) : s.hasRoom pl R' = true := by
  unfold State.hasRoom at h ⊢
  simp only [Bool.and_eq_true, decide_eq_true_eq] at h ⊢
  refine ⟨⟨⟨⟨?_, ?_, ?_, ?_, ?_, ?_⟩, ?_⟩, ?_⟩, ?_⟩ <;> first | omega | exact h.2 | exact h.1.1.1.2.2.2.2.2
theorem am_shrink {p : Program} {l : Launch} {e : Env} {R R' : Room} {s : State} {m : MethodId} {args : Array Value} {below : List Frame} {meth : Method} {c : Code} {H : Heap} {locs : List Loc} {cells slots : Nat} {Q : State → Prop} {g : JFrame} (h1 : R'.frames ≤ R.frames) (h2 : R'.cells ≤ R.cells) (h3 : R'.slots ≤ R.slots) (h4 : R'.locals ≤ R.locals) (k : W p l e R' s m args below meth c H locs cells slots Q g) : W p l e R s m args below meth c H locs cells slots Q g :=
  fun T hT X => k T hT ⟨X.admits, X.cas, X.clock, X.frames, am_room_le h1 h2 h3 h4 X.room, X.hears, X.method, X.code, X.here, X.tail, X.warmed, X.limits, X.bytes, X.same⟩
/-- the law, seen by the small machine: whatever the script, it comes to its end with 1, and makes no more than it may -/
def am_Law : Prop := ∀ ws : List Int32, ws.length ≤ 2560 → ∃ A : am_H, am_go 1400 181 [.ref 0] (am_A0 ws) (.inl (some (.int 1)), A) ∧ A.length ≤ 45 + 601024 ∧ am_sl A ≤ am_sl (am_A0 ws) + 7293034
def R_law : String := "PluralMessagesLaw"
def lw_P (b : Addr) (xs : List Int32) (args : Array Value) (s : State) : Prop := args = #[.ref b] ∧ s.IntsAt b xs ∧ xs.length ≤ 2560 ∧ (Jvm.Cond.and given_1 narrow_1).before args s = true
def lw_Q (_ : Array Value) (s : State) (o : Outcome) (t : State) : Prop := o = .returned (some (.int 1)) ∧ Framed s o t [] 601024 7293034
def lw_Z (below : List Frame) (a : Array Value) (s : State) : State → Prop := fun t => ∃ o, t.status = .running ∧ Ended t below o ∧ lw_Q a s o t
def lw_At (p : Program) (s : State) (m : MethodId) (meth : Method) (c : Code) (b L : Nat) (xs : Nat → Int32) : Prop :=
  p.tables.exec = Jvm.exec ∧ c.code = code ∧ meth.sig.returnType = ret ∧ c.maxLocals = 7 ∧ s.vm.findClass R_law = some m.cls ∧ (∀ w ∈ lw_tbl, w.before #[Value.ref b] s = true) ∧ va_X b L xs s s.heap ∧ b < s.heap.size ∧ meth.locks = false ∧ (Jvm.Cond.and given_1 narrow_1).before #[Value.ref b] s = true
theorem am_fresh {s t : State} {L : List Loc} {k n k' n' : Nat} (h : s.sameButNew t L k n) (hL : ∀ q ∈ L, s.heap.size ≤ q.base) (hk : k ≤ k') (hn : n ≤ n') : s.sameButNew t [] k' n' := by
  obtain ⟨h1, h2, h3, h4, h5, h6⟩ := h.mono hk hn
  refine ⟨h1, h2, h3, h4, h5, fun a c hc => ?_⟩
  obtain ⟨c', q1, q2, q3, q4⟩ := h6 a c hc
  refine ⟨c', q1, q2, q3, fun i _ => q4 i (fun hm => ?_)⟩
  have := hL _ hm
  have h9 := (Array.getElem?_eq_some_iff.mp hc).1
  dsimp only at this
  omega
theorem whole_start (hLaw : am_Law) {p : Program} {e : Env} {s : State} {m : MethodId} {below : List Frame} {meth : Method} {c : Code} (l : Launch) (hntr : l.stackTraces = false) {b L : Nat} {xs : Nat → Int32} (hL : L ≤ 2560) (C0 : lw_At p s m meth c b L xs) (hT : (c.exceptionTable.toList.map fun x => (x.startPc, x.endPc, x.handlerPc, x.catchType)) = []) :
    W p l e room_1 s m #[Value.ref b] below meth c s.heap [] 0 0 (lw_Z below #[Value.ref b] s) (entryFrame m ([Value.ref b] : List Value).toArray 7) := by
  obtain ⟨hx, hb, hr, hml, hown, hts, hX, hbl, hlocks, hgv⟩ := C0
  obtain ⟨A, ⟨n, hrun⟩, hA1, hA2⟩ := hLaw ((List.range L).map xs) (by simpa using hL)
  obtain ⟨G, hG, hG0, hI⟩ := am_I0 hts hX hbl hgv hL
  obtain ⟨g1, g2⟩ := am_run_gr hrun
  have hlen : (am_A0 ((List.range L).map xs)).length = 45 := by
    show am_old.length + 1 = 45
    rw [ck_o2.2.2]
  dsimp only at g1 g2
  have hB : am_B l p s m #[Value.ref b] meth c { frames := 1400, cells := A.length - 45, slots := am_sl A - am_sl (am_A0 ((List.range L).map xs)), locals := 60 * 1400 } G 1400 181 (A.length - 45) (am_sl A - am_sl (am_A0 ((List.range L).map xs))) :=
    ⟨hx, hb.trans rfl, hml.trans rfl, hT.trans rfl, hr.trans rfl, hlocks, fun h => absurd h (by decide +kernel), hown, fun w hw => hts w (List.mem_filter.mp hw).1, rfl, fun q cell h1 h2 => hI.stat h1 h2, hntr, am_hws_of hI.2.2.1.1.1⟩
  have e9 : ([Value.ref b] : List Value) = ([Value.ref 0] : List Value).map (am_v (am_mp G)) := by
    show _ = [Value.ref (am_ad G 0)]
    rw [hG0]
  have hF : entryFrame m ([Value.ref b] : List Value).toArray 7 = F0 m 0 ((lg_sl (([Value.ref 0] : List Value).map (am_v (am_mp G))) ++ List.replicate (am_max 181 - (lg_sl (([Value.ref 0] : List Value).map (am_v (am_mp G)))).length) Slot.unset).toArray) [] := by
    rw [e9]
    exact lg_entry_eq m _ 7
  rw [hF]
  refine am_shrink (R' := { frames := 1400, cells := A.length - 45, slots := am_sl A - am_sl (am_A0 ((List.range L).map xs)), locals := 60 * 1400 }) (show 1400 ≤ 2048 by decide) (by show A.length - 45 ≤ 601024; omega) (by show am_sl A - _ ≤ 7293034; omega) (show 60 * 1400 ≤ 84000 by decide) ?_
  have hW := am_sim hntr n 1400 181 (0, am_ent 181 [.ref 0], [], am_A0 ((List.range L).map xs)) _ hrun p e _ s m #[Value.ref b] below meth c s.heap [] 0 0 _ G _ _ hB hI (am_ent_hl (am_mp G) (y := 181) (as := [.ref 0]) (by decide +kernel)) (fun q hq => absurd hq List.not_mem_nil) (by dsimp only; omega) (by dsimp only; omega)
  refine am_W_imp (fun t ht => ?_) hW
  obtain ⟨o, h1, h2, ⟨h3, h4⟩, L', ⟨h5, h6⟩, h7⟩ := ht
  dsimp only at h3
  subst h3
  exact ⟨_, h1, h2, rfl, ⟨_, rfl⟩, h5, am_fresh h6 (fun q hq => by rw [← hG]; exact h7 q hq) (by omega) (by omega)⟩
