/-! The heaps of the two machines, side by side. -/
/-- where the cells that were there lie, and where the new ones begin -/
abbrev am_G : Type := (Nat → Nat) × Nat × Option Nat
noncomputable def am_ad (G : am_G) (i : Nat) : Nat := if i < am_S0 then G.1 i else G.2.1 + (i - am_S0)
/-- how values are moved -/
noncomputable def am_mp (G : am_G) : am_M := (am_ad G, G.2.2)
def am_Gok (G : am_G) : Prop := ∀ i, i < am_S0 → G.1 i < G.2.1
theorem am_ad_ge {G : am_G} {i : Nat} (h : am_S0 ≤ i) : G.2.1 ≤ am_ad G i := by
  unfold am_ad
  rw [if_neg (by omega)]
  omega
theorem am_ad_ne {G : am_G} (hG : am_Gok G) {i j : Nat} (h : am_S0 ≤ i) (hj : j ≠ i) : am_ad G j ≠ am_ad G i := by
  unfold am_ad
  rw [if_neg (show ¬ i < am_S0 by omega)]
  by_cases hs : j < am_S0
  · rw [if_pos hs]
    have := hG j hs
    omega
  · rw [if_neg hs]
    omega
/-- an object: its class, its fields by their slots -/
def am_obj (s : State) (G : am_G) (k : Nat) (vs : List Value) (cell : Cell) : Prop :=
  cell.vm.isStatics = false ∧ cell.vm ≠ .unknown ∧ s.vm.findClass (am_cln k) = some cell.cls ∧ vs.length = am_N k ∧
    ∀ j v, vs[j]? = some v → ∃ cf kf fi f, s.fieldFound? (am_T k j).1 (am_T k j).2.1 (am_T k j).2.2.1 = some (cf, kf, fi, f) ∧ f.isStatic = false ∧ cell.slots[f.slot]? = some (am_v (am_mp G) v)
def am_arr (s : State) (G : am_G) (ty : FieldType) (vs : List Value) (cell : Cell) : Prop := s.isArrayOf cell ty ∧ cell.vm ≠ .unknown ∧ cell.slots.size.toInt32 = Int32.ofNat vs.length ∧ ∀ (j : Nat) (v : Value), vs[j]? = some v → cell.slots[j]? = some (am_v (am_mp G) v)
theorem am_arr_exact {s : State} {G : am_G} {ty : FieldType} {vs : List Value} {cell : Cell} (h1 : s.isArrayOf cell ty) (h2 : cell.vm ≠ .unknown) (h3 : cell.slots = (vs.map (am_v (am_mp G))).toArray) : am_arr s G ty vs cell := ⟨h1, h2, by rw [h3]; simp, fun j v hv => by rw [h3]; simp [hv]⟩
def am_row (s : State) (C : String) (cell : Cell) : Prop := ∃ (kA : Class) (comp : ClassId), s.vm.classes[cell.cls]? = some kA ∧ kA.kind = .array comp (.object C) ∧ s.vm.findClass C = some comp
def am_cell (s : State) (G : am_G) (c : am_C) (cell : Cell) : Prop :=
  if c.1 < 100 then am_obj s G c.1 c.2 cell ∧ (c.1 < 50 → cell.vm = .none)
  else if c.1 < 200 then am_arr s G (am_aty c.1) c.2 cell ∧ (∀ q, am_cmp c.1 = some q → am_row s (am_cln q) cell)
  else if c.1 < 210 then ∃ cX kX, s.vm.findClass (am_exn (c.1 - 200)) = some cX ∧ s.vm.classes[cX]? = some kX ∧ cell = blank cX kX
  else c.1 < 220 ∧ cell.vm = .none ∧ s.vm.findClass (am_exn (c.1 - 210)) = some cell.cls
def am_Rep (s : State) (G : am_G) (A : am_H) (H : Heap) : Prop := am_S0 ≤ A.length ∧ H.size = G.2.1 + (A.length - am_S0) ∧ ∀ i c, A[i]? = some c → ∃ cell, H[am_ad G i]? = some cell ∧ am_cell s G c cell
/-- Throwable's two static fields: they hold a reference or null -/
def am_tst : List (String × String × String) := [(Jvm.Bundle.tN, "UNASSIGNED_STACK", Jvm.Bundle.steD), (Jvm.Bundle.tN, "SUPPRESSED_SENTINEL", Jvm.Bundle.listD)]
def am_Tz (s : State) (G : am_G) (H : Heap) (q : String × String × String) : Prop := ∃ c k i f a cell v, s.vm.findClass q.1 = some c ∧ s.fieldFound? q.1 q.2.1 q.2.2 = some (c, k, i, f) ∧ f.isStatic = true ∧ k.statics = some a ∧ H[a]? = some cell ∧ cell.vm.isStatics = true ∧ cell.cls = c ∧ f.slot < cell.slots.size ∧ k.staticTypes[f.slot]? = some f.type ∧ cell.slots[f.slot]? = some v ∧ v.isRef = true ∧ a < G.2.1
theorem am_Tz.moved {s U : State} {G : am_G} {H : Heap} {q : String × String × String} (hvm : s.vm.Alike U.vm) (h : am_Tz s G H q) : am_Tz U G H q := by
  obtain ⟨c, k, i, f, a, cell, v, h1, h2, h3, h4, h5, h6, h7, h8, h9, h10⟩ := h
  obtain ⟨k', hi', he⟩ := State.fieldFound?_setVm hvm h2
  exact ⟨c, k', i, f, a, cell, v, by rw [hvm.findClass]; exact h1, hi', h3, by rw [he]; exact h4, h5, h6, h7, h8, by rw [he]; exact h9, h10⟩
theorem am_Tz.kept {s : State} {G : am_G} {H H1 : Heap} {q : String × String × String} (h : am_Tz s G H q) (hk : ∀ q : Nat, q < G.2.1 → H1[q]? = H[q]?) : am_Tz s G H1 q := by
  obtain ⟨c, k, i, f, a, cell, v, h1, h2, h3, h4, h5, h6, h7, h8, h9, h10, h11, h12⟩ := h
  exact ⟨c, k, i, f, a, cell, v, h1, h2, h3, h4, by rw [hk a h12]; exact h5, h6, h7, h8, h9, h10, h11, h12⟩
theorem am_Tz.words {args : Array Value} {s : State} {G : am_G} {q : String × String × String} (h : am_Tz s G s.heap q) : (Cond.laysStatic q.1 q.2.1 q.2.2).before args s = true ∧ (Cond.isRef (.static q.1 q.2.1 q.2.2)).before args s = true := by
  obtain ⟨c, k, i, f, a, cell, v, h1, h2, h3, h4, h5, h6, h7, h8, h9, h10, h11, h12⟩ := h
  refine ⟨Cond.laysStatic_of h1 h2 h3 h4 h5 h6 h7 h8 h9, ?_⟩
  have hv : (Term.static q.1 q.2.1 q.2.2).eval args s none [] s = some v := by
    simp [Term.eval, State.fieldNamed?, h2, h3, h4, h5, h6, h10]
  cases v <;> first | (simp [Cond.before, Cond.holds, Cond.value, hv]; done) | cases h11
/-- none of the four exceptions is another -/
def am_Ns (s : State) : Prop := ∀ i j, i < 4 → j < 4 → i ≠ j → va_Nc (am_exn i) (am_exn j) s
/-- static fields and what they hold -/
def am_Zs (s : State) (G : am_G) (H : Heap) : Prop := ((∀ q ∈ am_tst, am_Tz s G H q) ∧ am_Ns s) ∧ ∀ q ∈ am_zst, va_Z q.1 q.2.1 q.2.2.1 (am_v (am_mp G) q.2.2.2) (fun z => G.2.1 ≤ z) s H
/-- constants of texts; words of nest mates -/
def am_Ks (s : State) (G : am_G) : Prop := (∀ q ∈ am_str, vk_R q.1 q.2.1 q.2.2.1 (am_ad G q.2.2.2) s) ∧ (∀ w ∈ am_nws, va_Nw w s) ∧ ∀ C ∈ am_aos, va_AO C s
def am_I (s : State) (G : am_G) (A : am_H) (H : Heap) : Prop := am_Gok G ∧ am_Rep s G A H ∧ am_Zs s G H ∧ am_Ks s G
theorem am_obj.moved {s U : State} {G : am_G} {k : Nat} {vs : List Value} {cell : Cell} (hvm : s.vm.Alike U.vm) (h : am_obj s G k vs cell) : am_obj U G k vs cell := by
  obtain ⟨h1, h2, h3, h4, h5⟩ := h
  refine ⟨h1, h2, by rw [hvm.findClass]; exact h3, h4, fun j v hv => ?_⟩
  obtain ⟨cf, kf, fi, f, q1, q2, q3⟩ := h5 j v hv
  obtain ⟨kf', q1', -⟩ := State.fieldFound?_setVm (s := s) hvm q1
  exact ⟨cf, kf', fi, f, by simpa only [State.fieldFound?, State.vm_setVm] using q1', q2, q3⟩
theorem am_row.moved {s U : State} {C : String} {cell : Cell} (hvm : s.vm.Alike U.vm) (h : am_row s C cell) : am_row U C cell := by
  obtain ⟨kA, comp, h1, h2, h3⟩ := h
  obtain ⟨k', hk', he⟩ := hvm.2.2 _ _ h1
  exact ⟨k', comp, hk', by rw [he]; exact h2, by rw [hvm.findClass]; exact h3⟩
theorem am_cell.moved {s U : State} {G : am_G} {c : am_C} {cell : Cell} (hvm : s.vm.Alike U.vm) (h : am_cell s G c cell) : am_cell U G c cell := by
  unfold am_cell at h ⊢
  split
  · next hc => rw [if_pos hc] at h; exact ⟨h.1.moved hvm, h.2⟩
  · next hc =>
    rw [if_neg hc] at h
    split
    · next hc2 => rw [if_pos hc2] at h; exact ⟨⟨State.isArrayOf_alike hvm h.1.1, h.1.2⟩, fun q hq => (h.2 q hq).moved hvm⟩
    · next hc2 =>
      rw [if_neg hc2] at h
      split
      · next hc3 =>
        rw [if_pos hc3] at h
        obtain ⟨cX, kX, h1, h2, h3⟩ := h
        obtain ⟨k', hk', he⟩ := hvm.2.2 _ _ h2
        exact ⟨cX, k', by rw [hvm.findClass]; exact h1, hk', by rw [h3, he]; rfl⟩
      · next hc3 =>
        rw [if_neg hc3] at h
        exact ⟨h.1, h.2.1, by rw [hvm.findClass]; exact h.2.2⟩
theorem am_Rep.moved {s U : State} {G : am_G} {A : am_H} {H : Heap} (hvm : s.vm.Alike U.vm) (h : am_Rep s G A H) : am_Rep U G A H :=
  ⟨h.1, h.2.1, fun i c hc => by
    obtain ⟨cell, h1, h2⟩ := h.2.2 i c hc
    exact ⟨cell, h1, h2.moved hvm⟩⟩
theorem am_Zs.moved {s U : State} {G : am_G} {H : Heap} (hvm : s.vm.Alike U.vm) (h : am_Zs s G H) : am_Zs U G H := ⟨⟨fun q hq => (h.1.1 q hq).moved hvm, fun i j hi hj hij => (h.1.2 i j hi hj hij).moved hvm⟩, fun q hq => (h.2 q hq).moved hvm⟩
theorem am_Zs.kept {s : State} {G : am_G} {H H1 : Heap} (h : am_Zs s G H) (hk : ∀ q : Nat, q < G.2.1 → H1[q]? = H[q]?) : am_Zs s G H1 := ⟨⟨fun q hq => (h.1.1 q hq).kept hk, h.1.2⟩, fun q hq => (h.2 q hq).kept (fun a _ ha => hk a (by omega))⟩
theorem am_Ks.warm {s U : State} {G : am_G} (hW : s.WarmedH U.vm) (h : am_Ks s G) : am_Ks U G := by
  refine ⟨fun q hq => (h.1 q hq).warm hW, fun w hw => ?_, fun C hC => (h.2.2 C hC).moved hW.alike⟩
  have h1 := h.2.1 w hw
  have h2 := am_nws_ok w hw
  cases w <;> first | exact va_Nw.warmF hW h1 | exact va_Nw.warmM hW h1 | cases h2
theorem am_I.warm {s U : State} {G : am_G} {A : am_H} {H : Heap} (hW : s.WarmedH U.vm) (h : am_I s G A H) : am_I U G A H := ⟨h.1, h.2.1.moved hW.alike, h.2.2.1.moved hW.alike, h.2.2.2.warm hW⟩
theorem am_I.set {s : State} {G : am_G} {A : am_H} {H H' : Heap} (h : am_I s G A H) {a : Nat} {c' : am_C} {cell' : Cell} (ha : am_S0 ≤ a) (h1 : H'[am_ad G a]? = some cell') (h2 : H'.size = H.size) (h3 : ∀ q, q ≠ am_ad G a → H'[q]? = H[q]?) (h4 : am_cell s G c' cell') : am_I s G (A.set a c') H' := by
  obtain ⟨hG, hR, hZ, hK⟩ := h
  refine ⟨hG, ⟨by rw [List.length_set]; exact hR.1, by rw [List.length_set, h2]; exact hR.2.1, fun i c hc => ?_⟩, hZ.kept (fun q hq => h3 q (fun e => by have := am_ad_ge (G := G) ha; omega)), hK⟩
  rw [List.getElem?_set] at hc
  by_cases hi : a = i
  · subst hi
    rw [if_pos rfl] at hc
    split at hc
    · cases hc
      exact ⟨cell', h1, h4⟩
    · cases hc
  · rw [if_neg hi] at hc
    obtain ⟨cell, q1, q2⟩ := hR.2.2 i c hc
    exact ⟨cell, by rw [h3 _ (am_ad_ne hG ha (fun e => hi e.symm))]; exact q1, q2⟩
theorem am_I.size {s : State} {G : am_G} {A : am_H} {H : Heap} (h : am_I s G A H) : H.size = am_ad G A.length := by
  unfold am_ad
  have := h.2.1.1
  rw [if_neg (by omega)]
  exact h.2.1.2.1
theorem am_I.push {s : State} {G : am_G} {A : am_H} {H H' : Heap} (h : am_I s G A H) {c : am_C} {cell : Cell} (h1 : H'[H.size]? = some cell) (h2 : H'.size = H.size + 1) (h3 : ∀ q, q < H.size → H'[q]? = H[q]?) (h4 : am_cell s G c cell) : am_I s G (A ++ [c]) H' := by
  have hz := h.size
  obtain ⟨hG, hR, hZ, hK⟩ := h
  have hs := hR.1
  have hs2 := hR.2.1
  refine ⟨hG, ⟨by rw [List.length_append]; omega, by rw [List.length_append, h2, List.length_singleton]; omega, fun i c' hc => ?_⟩, hZ.kept (fun q hq => h3 q (by omega)), hK⟩
  by_cases hi : i < A.length
  · rw [List.getElem?_append_left hi] at hc
    obtain ⟨cell', q1, q2⟩ := hR.2.2 i c' hc
    exact ⟨cell', by rw [h3 _ (Array.getElem?_eq_some_iff.mp q1).1]; exact q1, q2⟩
  · rw [List.getElem?_append_right (by omega)] at hc
    have hi2 : i = A.length := by
      have := (List.getElem?_eq_some_iff.mp hc).1
      rw [List.length_singleton] at this
      omega
    subst hi2
    rw [Nat.sub_self] at hc
    cases hc
    exact ⟨cell, by rw [← hz]; exact h1, h4⟩
theorem am_I.get {s : State} {G : am_G} {A : am_H} {H : Heap} (h : am_I s G A H) {a : Nat} {c : am_C} (hc : A[a]? = some c) : ∃ cell, H[am_ad G a]? = some cell ∧ am_cell s G c cell := h.2.1.2.2 a c hc
theorem am_at_inv {A : am_H} {a k : Nat} {vs : List Value} (h : am_at A a k = some vs) : A[a]? = some (k, vs) := by
  unfold am_at at h
  split at h
  · next c hc =>
    cases hk : c.1 == k with
    | false => simp [hk] at h
    | true =>
      simp [hk] at h
      rw [hc, ← h, ← (beq_iff_eq.mp hk)]
  · cases h
/-- no new cell is a cell of statics -/
theorem am_I.stat {s : State} {G : am_G} {A : am_H} {H : Heap} (h : am_I s G A H) {q : Nat} {cell : Cell} (hq : G.2.1 ≤ q) (hc : H[q]? = some cell) : cell.vm.isStatics = false := by
  have hlt : q < H.size := (Array.getElem?_eq_some_iff.mp hc).1
  have hz := h.2.1.2.1
  have hs := h.2.1.1
  obtain ⟨i, hi, hiq⟩ : ∃ i, i < A.length ∧ am_ad G i = q := by
    refine ⟨am_S0 + (q - G.2.1), by omega, ?_⟩
    unfold am_ad
    rw [if_neg (by omega)]
    omega
  obtain ⟨cell', h1, h2⟩ := h.get (List.getElem?_eq_getElem hi)
  rw [hiq, hc] at h1
  cases h1
  unfold am_cell at h2
  split at h2
  · exact h2.1.1
  · split at h2
    · have h3 := h2.1.1.1
      cases hv : cell.vm <;> first | rfl | exact absurd hv (h3 _)
    · split at h2
      · obtain ⟨cX, kX, -, -, rfl⟩ := h2
        rfl
      · rw [h2.2.1]
        rfl
