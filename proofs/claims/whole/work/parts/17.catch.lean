/-! The search for a handler, whose classes may be named for the first time. -/
theorem am_go_cold {E : CtlPost} {e : Env} {d : Bool} {acts : List Action} {U : State} {f : JFrame} {a : Addr} {Q : Handler → Pre} {x : ExceptionTableEntry} {t : List ExceptionTableEntry} {c : ClassId} {cell : Cell} {vm' : Vm} (hx : covers x f.pc = true) (h0 : x.catchType ≠ 0)
    (hg : (Jvm.resolveClass f.method.cls x.catchType).Gives e.toSetting U.vm (.ok c) vm') (hsz : vm'.classes.size ≤ U.vm.classes.size) (hcell : U.heap[a]? = some cell) (hobj : ∀ k, cell.vm ≠ .statics k)
    (hk : ∃ k, vm'.classes[cell.cls]? = some k) (hc : ∃ k, vm'.classes[c]? = some k) :
    wp (findHandler.go f a (x :: t)) Q E e d acts U ↔
      if vm'.assignable cell.cls c = true then Q (.found x.handlerPc) d acts (U.setVm vm') else wp (findHandler.go f a t) Q E e d acts (U.setVm vm') := by
  simp only [covers] at hx
  obtain ⟨ha, ht⟩ := hg.op (op := VmOp.resolveClass f.method.cls x.catchType) rfl
  cases hfit : vm'.assignable cell.cls c <;>
    simp [findHandler.go, hx, h0, ha, ht, hsz, hcell, hobj, hk, hc, hfit, VmOp.dirties, VmOp.acts]
theorem if_or_true {z : Nat × Nat × Nat × Nat} {u : List (Nat × Nat × Nat × Nat)} {pc k : Nat} (h1 : z.1 ≤ pc) (h2 : pc < z.2.1) (h3 : k = z.2.2.2) : (bif decide (z.1 ≤ pc) && (decide (pc < z.2.1) && (k == z.2.2.2)) then some z.2.2.1 else am_fnd u pc k) = some z.2.2.1 := by simp [h1, h2, h3]
theorem if_or_false {z : Nat × Nat × Nat × Nat} {u : List (Nat × Nat × Nat × Nat)} {pc k : Nat} (h3 : k ≠ z.2.2.2) : (bif decide (z.1 ≤ pc) && (decide (pc < z.2.1) && (k == z.2.2.2)) then some z.2.2.1 else am_fnd u pc k) = am_fnd u pc k := by
  rw [show (k == z.2.2.2) = false from beq_eq_false_iff_ne.mpr h3]
  simp
theorem if_or_out {z : Nat × Nat × Nat × Nat} {u : List (Nat × Nat × Nat × Nat)} {pc k : Nat} (h : ¬ (z.1 ≤ pc ∧ pc < z.2.1)) : (bif decide (z.1 ≤ pc) && (decide (pc < z.2.1) && (k == z.2.2.2)) then some z.2.2.1 else am_fnd u pc k) = am_fnd u pc k := by
  by_cases q : z.1 ≤ pc
  · have w : ¬ pc < z.2.1 := fun w => h ⟨q, w⟩
    simp [w]
  · simp [q]
/-- the rows of a method's table and those of the small machine's, seen from an exception of the class X, of the kind k -/
def am_hok (s : State) (args : Array Value) (own X : String) (k : Nat) : List ExceptionTableEntry → List (Nat × Nat × Nat × Nat) → Prop
  | [], [] => True
  | x :: t, h :: u => (x.startPc = h.1 ∧ x.endPc = h.2.1 ∧ x.handlerPc = h.2.2.1 ∧ x.catchType ≠ 0 ∧ (Cond.classLink own x.catchType (am_exn (h.2.2.2 - 210))).before args s = true ∧ ((k = h.2.2.2 ∧ X = am_exn (h.2.2.2 - 210)) ∨ (k ≠ h.2.2.2 ∧ va_Nc X (am_exn (h.2.2.2 - 210)) s))) ∧ am_hok s args own X k t u
  | _, _ => False
theorem am_find {s : State} {args : Array Value} {e : Env} {m : MethodId} {own X : String} (hpl : e.platform.magicAccessors = ({} : Platform).magicAccessors) (hown : s.vm.findClass own = some m.cls) {g : JFrame} (hgm : g.method = m) {a : Addr} {cell : Cell} (hobj : cell.vm.isStatics = false) (hX : s.vm.findClass X = some cell.cls) {k hp : Nat} :
    ∀ (es : List ExceptionTableEntry) (hs : List (Nat × Nat × Nat × Nat)), am_hok s args own X k es hs → am_fnd hs g.pc k = some hp → ∀ (vm : Vm), s.WarmedH vm → ∃ vm', s.WarmedH vm' ∧ ∀ U : State, U.vm = vm → U.heap[a]? = some cell → ∀ (Q : Handler → Pre) (E : CtlPost) (d : Bool) (acts : List Action), wp (findHandler.go g a es) Q E e d acts U ↔ Q (.found hp) d acts (U.setVm vm')
  | [], [], _, h, _, _ => by cases h
  | [], _ :: _, h, _, _, _ => absurd h id
  | _ :: _, [], h, _, _, _ => absurd h id
  | x :: t, z :: u, ⟨⟨h1, h2, h3, h4, h5, h6⟩, h7⟩, h, v0, hW => by
    unfold am_fnd at h
    by_cases hc : z.1 ≤ g.pc ∧ g.pc < z.2.1
    · have hx : covers x g.pc = true := by simp [covers, h1, h2, hc.1, hc.2]
      obtain ⟨c, hfc, hcl⟩ := Cond.classLink_spec hown h5 e.platform hpl
      obtain ⟨g1, g2, g3⟩ := State.classEntry (e := e) hW hcl
      have hg1 : (Jvm.resolveClass g.method.cls x.catchType).Gives e.toSetting v0 (.ok c) (v0.noted m.cls x.catchType (.cls c)) := by rw [hgm]; exact g1
      obtain ⟨kc, hkc⟩ := Vm.classAt_of_findClass hX
      obtain ⟨kt, hkt⟩ := Vm.classAt_of_findClass hfc
      obtain ⟨kc', hkc', -⟩ := g2.alike.2.2 _ _ hkc
      obtain ⟨kt', hkt', -⟩ := g2.alike.2.2 _ _ hkt
      have hsz : (v0.noted m.cls x.catchType (.cls c)).classes.size ≤ v0.classes.size := by no_record
      rcases h6 with ⟨e1, e2⟩ | ⟨e1, e2⟩
      · rw [if_or_true hc.1 hc.2 e1] at h
        cases h
        refine ⟨_, g2, fun U hU hcell Q E d acts => ?_⟩
        subst hU
        have hfc2 : c = cell.cls := by rw [← e2] at hfc; exact Option.some.inj (hfc.symm.trans hX)
        subst hfc2
        rw [am_go_cold hx h4 hg1 hsz hcell (VmData.ne_statics_of hobj) ⟨_, hkc'⟩ ⟨_, hkt'⟩, if_pos (va_asg _ _), h3]
      · rw [if_or_false e1] at h
        obtain ⟨vm', r1, r2⟩ := am_find hpl hown hgm hobj hX t u h7 h _ g2
        refine ⟨vm', r1, fun U hU hcell Q E d acts => ?_⟩
        subst hU
        obtain ⟨c0, t0, f1, f2, f3⟩ := e2
        cases hX.symm.trans f1
        cases hfc.symm.trans f2
        rw [am_go_cold hx h4 hg1 hsz hcell (VmData.ne_statics_of hobj) ⟨_, hkc'⟩ ⟨_, hkt'⟩, if_neg (by rw [g2.alike.assignable, f3]; decide)]
        have h9 := r2 (U.setVm (U.vm.noted m.cls x.catchType (.cls c))) rfl hcell Q E d acts
        rw [State.setVm_twice] at h9
        exact h9
    · have hx : covers x g.pc = false := by
        simp only [covers, h1, h2]
        simp only [Bool.and_eq_false_iff, decide_eq_false_iff_not]
        by_cases q : z.1 ≤ g.pc
        · exact Or.inr (fun w => hc ⟨q, w⟩)
        · exact Or.inl q
      rw [if_or_out hc] at h
      obtain ⟨vm', r1, r2⟩ := am_find hpl hown hgm hobj hX t u h7 h v0 hW
      exact ⟨vm', r1, fun U hU hcell Q E d acts => (Jvm.W.findHandler_go_skip hx).trans (r2 U hU hcell Q E d acts)⟩
theorem am_caught {tb : Tables} {e : Env} {T target : State} {g : JFrame} {c : Code} {below : List Frame} {a : Addr} (h : At T g.method c below) {pc : Nat} {vm' : Vm}
    (hfind : ∀ (Q : Handler → Pre) (E : CtlPost) (d : Bool) (acts : List Action), wp (findHandler g a) Q E e d acts ((T.setTop g).pushFrame (.throwing a)) ↔ Q (.found pc) d acts (((T.setTop g).pushFrame (.throwing a)).setVm vm'))
    (hrest : Steps tb e below ((T.setVm vm').setTop { g with pc := pc, stack := [.ref a] }) target) : Steps tb e below ((T.setTop g).pushFrame (.throwing a)) target := by
  obtain ⟨hgo, hw⟩ := h.throwing a
  refine Steps.head hgo hw ?_
  have hk : (stepThrowing e ((T.setTop g).pushFrame (.throwing a)) a (.java g :: T.frames.tail)).1 = (((T.setTop g).pushFrame (.throwing a)).setVm vm').setFrames (.java { g with pc := pc, stack := [.ref a] } :: T.frames.tail) := by
    simp only [stepThrowing, searchFrame, vmDo]
    generalize hr : Sem.go _ e false [] ((T.setTop g).pushFrame (.throwing a)) = res
    obtain ⟨as, rfl, ha⟩ := Sem.eq_ok_of hr (a := Handler.found pc) (s' := ((T.setTop g).pushFrame (.throwing a)).setVm vm') (acts' := []) (by simp [hfind _ _ _ _])
    rfl
  rw [stepThread_throwing (frames_entered h.top _), hk]
  obtain ⟨g₀, hg⟩ := Option.isSome_iff_exists.mp h.top
  obtain ⟨r, hr⟩ := State.topJava?_eq_some.mp hg
  have hr' : (T.setVm vm').frames = .java g₀ :: r := hr
  rw [State.setTop_of_frames _ hr'] at hrest
  rw [State.pushFrame_setVm, State.pushFrame, State.setFrames_setFrames, hr]
  have e1 : (T.setTop g).setVm vm' = (T.setVm vm').setTop g := rfl
  rw [e1, State.setTop_of_frames _ hr', State.setFrames_setFrames]
  exact hrest
