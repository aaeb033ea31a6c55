/-! Values of the class and values of the reference. -/
def vr_E (e : sb_vt) (nm : Int32) (bo : Bool) (lo : Int64) (co : Int32) : Prop := ∃ X N, rm_w 4 X N ∧ e.1 = Int32.ofNat X ∧ nm = Int32.ofNat N ∧ ((bo = true ∧ e.2.1 = true ∧ ∃ R, R < 2147483648 ∧ sb_all 32 126 (sb_bl (Int32.ofNat R) 4) = true ∧ lo = Int64.ofNat R ∧ co = Int32.ofNat 0 ∧ e.2.2.1 = Int64.ofNat (sb_fpn 0 (sb_bl (Int32.ofNat R) 4))) ∨ (bo = false ∧ e.2.1 = false ∧ ∃ (z : Int) (k : Nat), z.natAbs ≤ 1000000000000000 ∧ k ≤ 6 ∧ lo = Int64.ofInt z ∧ co = Int32.ofNat k ∧ e.2.2.1 = Int64.ofInt z ∧ e.2.2.2 = Int32.ofNat k))
def vr_R (xs : List sb_vt) (nv : Nat) (nf : Nat → Int32) (bf : Nat → Bool) (lf : Nat → Int64) (cf : Nat → Int32) : Prop := xs.length = 6 ∧ nv ≤ 6 ∧ (∀ i, i < nv → ∃ j, j < nv ∧ vr_E (xs.getD i sb_v0) (nf j) (bf j) (lf j) (cf j)) ∧ (∀ j, j < nv → ∃ i, i < nv ∧ vr_E (xs.getD i sb_v0) (nf j) (bf j) (lf j) (cf j)) ∧ (∀ i i', i < nv → i' < nv → (xs.getD i sb_v0).1 = (xs.getD i' sb_v0).1 → i = i') ∧ (∀ j j', j < nv → j' < nv → nf j = nf j' → j = j')
theorem rm_w_4 {X N : Nat} (h : rm_w 4 X N) : X < 2147483648 ∧ N < 2147483648 := by
  have hl := rm_w_lt (by omega) h
  obtain ⟨l, h1, h2, h3, h4, h5⟩ := h
  rw [h4]
  exact ⟨(sb_fp_N h3 (fun c hc => by have := h1 c hc; omega)).2, by omega⟩
theorem vr_nm {e e' : sb_vt} {nm nm' : Int32} {bo bo' : Bool} {lo lo' : Int64} {co co' : Int32} (h : vr_E e nm bo lo co) (h' : vr_E e' nm' bo' lo' co') : e.1 = e'.1 ↔ nm = nm' := by
  obtain ⟨X, N, h1, h2, h3, _⟩ := h
  obtain ⟨X', N', g1, g2, g3, _⟩ := h'
  have b1 := rm_w_4 h1
  have b2 := rm_w_4 g1
  have := rm_w_iff h1 g1
  rw [h2, g2, h3, g3, i32_eq (by omega) (by omega), i32_eq (by omega) (by omega)]
  exact this
theorem sb_pl_sp {xs : List sb_vt} {nm : Int32} : ∀ k j, (sb_pl xs nm k j = -1 ∧ ∀ i, j ≤ i → i < j + k → (xs.getD i sb_v0).1 ≠ nm) ∨ ∃ i, sb_pl xs nm k j = Int32.ofNat i ∧ j ≤ i ∧ i < j + k ∧ (xs.getD i sb_v0).1 = nm
  | 0, j => Or.inl ⟨rfl, fun i h1 h2 => by omega⟩
  | k + 1, j => by
    rw [sb_pl]
    by_cases h : (xs.getD j sb_v0).1 = nm
    · rw [if_pos h]
      exact Or.inr ⟨j, rfl, Nat.le_refl _, by omega, h⟩
    · rw [if_neg h]
      rcases sb_pl_sp k (j + 1) with ⟨a, b⟩ | ⟨i, a, b, c, e⟩
      · refine Or.inl ⟨a, fun i h1 h2 => ?_⟩
        by_cases q : i = j
        · subst q; exact h
        · exact b i (by omega) (by omega)
      · exact Or.inr ⟨i, a, by omega, by omega, e⟩
theorem cl_dx_sp {xs : List sb_vt} {nv : Nat} {nm : Int32} (hn : nv ≤ 6) : (cl_dx xs nv nm = none ∧ sb_pl xs nm nv 0 = -1 ∧ ∀ i, i < nv → (xs.getD i sb_v0).1 ≠ nm) ∨ ∃ i, cl_dx xs nv nm = some i ∧ sb_pl xs nm nv 0 = Int32.ofNat i ∧ i < nv ∧ (xs.getD i sb_v0).1 = nm := by
  rcases sb_pl_sp (xs := xs) (nm := nm) nv 0 with ⟨a, b⟩ | ⟨i, a, b, c, e⟩
  · exact Or.inl ⟨cl_dx_n a, a, fun i hi => b i (by omega) (by omega)⟩
  · exact Or.inr ⟨i, cl_dx_s (by omega) a, a, by omega, e⟩
theorem rf_fd_no {nf : Nat → Int32} {x : Int32} : ∀ {k j}, rf_fd nf x k j = none → ∀ i, j ≤ i → i < j + k → nf i ≠ x
  | 0, j, _, i, h1, h2 => by omega
  | k + 1, j, h, i, h1, h2 => by
    rw [rf_fd] at h
    split at h
    · cases h
    · next q =>
      by_cases e : i = j
      · subst e; exact q
      · exact rf_fd_no h i (by omega) (by omega)
theorem vr_find {xs : List sb_vt} {nv X N : Nat} {nf cf : Nat → Int32} {bf : Nat → Bool} {lf : Nat → Int64} (h : vr_R xs nv nf bf lf cf) (hw : rm_w 4 X N) : (cl_dx xs nv (Int32.ofNat X) = none ∧ rf_fd nf (Int32.ofNat N) nv 0 = none) ∨ ∃ i j, cl_dx xs nv (Int32.ofNat X) = some i ∧ rf_fd nf (Int32.ofNat N) nv 0 = some j ∧ i < nv ∧ j < nv ∧ vr_E (xs.getD i sb_v0) (nf j) (bf j) (lf j) (cf j) := by
  obtain ⟨h1, h2, h3, h4, h5, h6⟩ := h
  have bw := rm_w_4 hw
  have key : ∀ i j, vr_E (xs.getD i sb_v0) (nf j) (bf j) (lf j) (cf j) → ((xs.getD i sb_v0).1 = Int32.ofNat X ↔ nf j = Int32.ofNat N) := fun i j hE => by
    obtain ⟨X', N', g1, g2, g3, _⟩ := hE
    have b2 := rm_w_4 g1
    have := rm_w_iff g1 hw
    rw [g2, g3, i32_eq (by omega) (by omega), i32_eq (by omega) (by omega)]
    exact this
  rcases cl_dx_sp (xs := xs) (nm := Int32.ofNat X) h2 with ⟨a, _, b⟩ | ⟨i, a, _, b, c⟩
  · left
    refine ⟨a, ?_⟩
    rcases hf : rf_fd nf (Int32.ofNat N) nv 0 with _ | j
    · rfl
    · exfalso
      have hj := rf_fd_lt hf
      obtain ⟨i, hi, hE⟩ := h4 j (by omega)
      exact b i hi ((key i j hE).mpr hj.2.2)
  · right
    obtain ⟨j, hj, hE⟩ := h3 i b
    have hn := (key i j hE).mp c
    rcases hf : rf_fd nf (Int32.ofNat N) nv 0 with _ | j'
    · exact absurd hn (rf_fd_no hf j (by omega) (by omega))
    · have hj' := rf_fd_lt hf
      have : j' = j := h6 j' j (by omega) hj (hj'.2.2.trans hn.symm)
      subst this
      exact ⟨i, j', a, rfl, b, hj, hE⟩
theorem sb_getD_s {xs : List sb_vt} {i j : Nat} {v : sb_vt} (hi : i < xs.length) : (xs.set i v).getD j sb_v0 = if j = i then v else xs.getD j sb_v0 := by
  rw [List.getD_eq_getElem?_getD, List.getElem?_set]
  by_cases h : j = i
  · subst h
    rw [if_pos rfl, if_pos rfl, if_pos hi]
    rfl
  · rw [if_neg (fun e => h e.symm), if_neg h, List.getD_eq_getElem?_getD]
theorem vr_set {xs : List sb_vt} {nv i j : Nat} {e : sb_vt} {nm co : Int32} {bo : Bool} {lo : Int64} {nf cf : Nat → Int32} {bf : Nat → Bool} {lf : Nat → Int64} (h : vr_R xs nv nf bf lf cf) (hi : i < nv) (hj : j < nv) (hE : vr_E (xs.getD i sb_v0) (nf j) (bf j) (lf j) (cf j)) (he : vr_E e nm bo lo co) (hen : e.1 = (xs.getD i sb_v0).1) : vr_R (xs.set i e) nv (up_ nf j nm) (up_ bf j bo) (up_ lf j lo) (up_ cf j co) := by
  obtain ⟨h1, h2, h3, h4, h5, h6⟩ := h
  have hnm : nm = nf j := (vr_nm he hE).mp hen
  have g : ∀ q, (xs.set i e).getD q sb_v0 = if q = i then e else xs.getD q sb_v0 := fun q => sb_getD_s (by omega)
  have gn : ∀ q, ((xs.set i e).getD q sb_v0).1 = (xs.getD q sb_v0).1 := fun q => by
    rw [g]
    by_cases z : q = i
    · rw [if_pos z, z]; exact hen
    · rw [if_neg z]
  have fn : ∀ q, up_ nf j nm q = nf q := fun q => by
    by_cases z : q = j
    · subst z; rw [up_eq]; exact hnm
    · rw [up_ne z]
  have hij : ∀ a c, a < nv → c < nv → vr_E (xs.getD a sb_v0) (nf c) (bf c) (lf c) (cf c) → (a = i ↔ c = j) := fun a c ha hc hq => by
    have := vr_nm hq hE
    exact ⟨fun z => h6 c j hc hj (this.mp (by rw [z])), fun z => h5 a i ha hi (this.mpr (by rw [z]))⟩
  refine ⟨by rw [List.length_set]; exact h1, h2, fun a ha => ?_, fun c hc => ?_, fun a a' ha ha' hq => ?_, fun c c' hc hc' hq => ?_⟩
  · obtain ⟨c, hc, hq⟩ := h3 a ha
    have hac := hij a c ha hc hq
    refine ⟨c, hc, ?_⟩
    rw [g]
    by_cases z : a = i
    · have := hac.mp z
      subst this
      rw [if_pos z, up_eq, up_eq, up_eq, up_eq]
      exact he
    · have z2 : c ≠ j := fun q => z (hac.mpr q)
      rw [if_neg z, up_ne z2, up_ne z2, up_ne z2, up_ne z2]
      exact hq
  · obtain ⟨a, ha, hq⟩ := h4 c hc
    have hac := hij a c ha hc hq
    refine ⟨a, ha, ?_⟩
    rw [g]
    by_cases z : a = i
    · have := hac.mp z
      subst this
      rw [if_pos z, up_eq, up_eq, up_eq, up_eq]
      exact he
    · have z2 : c ≠ j := fun q => z (hac.mpr q)
      rw [if_neg z, up_ne z2, up_ne z2, up_ne z2, up_ne z2]
      exact hq
  · rw [gn, gn] at hq
    exact h5 a a' ha ha' hq
  · rw [fn, fn] at hq
    exact h6 c c' hc hc' hq
theorem vr_app {xs : List sb_vt} {nv : Nat} {e : sb_vt} {nm co : Int32} {bo : Bool} {lo : Int64} {nf cf : Nat → Int32} {bf : Nat → Bool} {lf : Nat → Int64} (h : vr_R xs nv nf bf lf cf) (hv : nv < 6) (he : vr_E e nm bo lo co) (hn : ∀ i, i < nv → (xs.getD i sb_v0).1 ≠ e.1) : vr_R (xs.set nv e) (nv + 1) (up_ nf nv nm) (up_ bf nv bo) (up_ lf nv lo) (up_ cf nv co) := by
  obtain ⟨h1, h2, h3, h4, h5, h6⟩ := h
  have g : ∀ q, (xs.set nv e).getD q sb_v0 = if q = nv then e else xs.getD q sb_v0 := fun q => sb_getD_s (by omega)
  have hn2 : ∀ j, j < nv → nf j ≠ nm := fun j hj hq => by
    obtain ⟨i, hi, hE⟩ := h4 j hj
    exact hn i hi ((vr_nm hE he).mpr hq)
  refine ⟨by rw [List.length_set]; exact h1, by omega, fun a ha => ?_, fun c hc => ?_, fun a a' ha ha' hq => ?_, fun c c' hc hc' hq => ?_⟩
  · by_cases z : a = nv
    · refine ⟨nv, by omega, ?_⟩
      rw [g, if_pos z, up_eq, up_eq, up_eq, up_eq]
      exact he
    · obtain ⟨c, hc, hq⟩ := h3 a (by omega)
      refine ⟨c, by omega, ?_⟩
      rw [g, if_neg z, up_ne (by omega), up_ne (by omega), up_ne (by omega), up_ne (by omega)]
      exact hq
  · by_cases z : c = nv
    · refine ⟨nv, by omega, ?_⟩
      rw [g, if_pos rfl, z, up_eq, up_eq, up_eq, up_eq]
      exact he
    · obtain ⟨a, ha, hq⟩ := h4 c (by omega)
      refine ⟨a, by omega, ?_⟩
      rw [g, if_neg (by omega), up_ne z, up_ne z, up_ne z, up_ne z]
      exact hq
  · rw [g, g] at hq
    by_cases z : a = nv
    · by_cases z' : a' = nv
      · omega
      · rw [if_pos z, if_neg z'] at hq
        exact absurd hq.symm (hn a' (by omega))
    · by_cases z' : a' = nv
      · rw [if_neg z, if_pos z'] at hq
        exact absurd hq (hn a (by omega))
      · rw [if_neg z, if_neg z'] at hq
        exact h5 a a' (by omega) (by omega) hq
  · by_cases z : c = nv
    · by_cases z' : c' = nv
      · omega
      · rw [z, up_eq, up_ne z'] at hq
        exact absurd hq.symm (hn2 c' (by omega))
    · by_cases z' : c' = nv
      · rw [z', up_eq, up_ne z] at hq
        exact absurd hq (hn2 c (by omega))
      · rw [up_ne z, up_ne z'] at hq
        exact h6 c c' (by omega) (by omega) hq
theorem vr_drop {xs : List sb_vt} {nv i j : Nat} {nf cf : Nat → Int32} {bf : Nat → Bool} {lf : Nat → Int64} (h : vr_R xs nv nf bf lf cf) (hi : i < nv) (hj : j < nv) (hE : vr_E (xs.getD i sb_v0) (nf j) (bf j) (lf j) (cf j)) : vr_R (sb_sw xs i (nv - 1) sb_v0) (nv - 1) (rf_sh nf j (nv - 1)) (rf_sh bf j (nv - 1)) (rf_sh lf j (nv - 1)) (rf_sh cf j (nv - 1)) := by
  obtain ⟨h1, h2, h3, h4, h5, h6⟩ := h
  have g : ∀ q, (sb_sw xs i (nv - 1) sb_v0).getD q sb_v0 = xs.getD (sb_pi i (nv - 1) q) sb_v0 := fun q => sb_sw_get (by omega) (by omega)
  have gp : ∀ q, q < nv - 1 → sb_pi i (nv - 1) q = (if q = i then nv - 1 else q) := fun q hq => by
    unfold sb_pi
    rw [if_neg (by omega)]
  have gs : ∀ {α : Type} (f : Nat → α) q, q < nv - 1 → rf_sh f j (nv - 1) q = f (if j ≤ q then q + 1 else q) := fun f q hq => by
    unfold rf_sh
    by_cases z : j ≤ q
    · rw [if_pos ⟨z, hq⟩, if_pos z]
    · rw [if_neg (fun y => z y.1), if_neg z]
  have hij : ∀ a c, a < nv → c < nv → vr_E (xs.getD a sb_v0) (nf c) (bf c) (lf c) (cf c) → (a = i ↔ c = j) := fun a c ha hc hq => by
    have := vr_nm hq hE
    exact ⟨fun z => h6 c j hc hj (this.mp (by rw [z])), fun z => h5 a i ha hi (this.mpr (by rw [z]))⟩
  refine ⟨by unfold sb_sw; rw [List.length_set, List.length_set]; exact h1, by omega, fun a ha => ?_, fun c hc => ?_, fun a a' ha ha' hq => ?_, fun c c' hc hc' hq => ?_⟩
  · have hA : (if a = i then nv - 1 else a) < nv ∧ (if a = i then nv - 1 else a) ≠ i := by split <;> omega
    obtain ⟨c, hc, hq⟩ := h3 _ hA.1
    have hcj : c ≠ j := fun z => hA.2 ((hij _ c hA.1 hc hq).mpr z)
    refine ⟨if j ≤ c then c - 1 else c, by split <;> omega, ?_⟩
    have hc' : (if j ≤ c then c - 1 else c) < nv - 1 := by split <;> omega
    have e : (if j ≤ (if j ≤ c then c - 1 else c) then (if j ≤ c then c - 1 else c) + 1 else (if j ≤ c then c - 1 else c)) = c := by
      by_cases y : j ≤ c
      · rw [if_pos y, if_pos (by omega)]; omega
      · rw [if_neg y, if_neg y]
    rw [g, gp a ha, gs nf _ hc', gs bf _ hc', gs lf _ hc', gs cf _ hc', e]
    exact hq
  · have hC : (if j ≤ c then c + 1 else c) < nv ∧ (if j ≤ c then c + 1 else c) ≠ j := by split <;> omega
    obtain ⟨a, ha, hq⟩ := h4 _ hC.1
    have hai : a ≠ i := fun z => hC.2 ((hij a _ ha hC.1 hq).mp z)
    refine ⟨if a = nv - 1 then i else a, by split <;> omega, ?_⟩
    have ha' : (if a = nv - 1 then i else a) < nv - 1 := by split <;> omega
    have e : (if (if a = nv - 1 then i else a) = i then nv - 1 else (if a = nv - 1 then i else a)) = a := by
      by_cases y : a = nv - 1
      · rw [if_pos y, if_pos rfl]; omega
      · rw [if_neg y, if_neg hai]
    rw [g, gp _ ha', gs nf c hc, gs bf c hc, gs lf c hc, gs cf c hc, e]
    exact hq
  · rw [g, g, gp a ha, gp a' ha'] at hq
    have := h5 _ _ (by split <;> omega) (by split <;> omega) hq
    by_cases y : a = i
    · by_cases y' : a' = i
      · omega
      · rw [if_pos y, if_neg y'] at this; omega
    · by_cases y' : a' = i
      · rw [if_neg y, if_pos y'] at this; omega
      · rw [if_neg y, if_neg y'] at this; exact this
  · rw [gs nf c hc, gs nf c' hc'] at hq
    have := h6 _ _ (by split <;> omega) (by split <;> omega) hq
    by_cases y : j ≤ c
    · by_cases y' : j ≤ c'
      · rw [if_pos y, if_pos y'] at this; omega
      · rw [if_pos y, if_neg y'] at this; omega
    · by_cases y' : j ≤ c'
      · rw [if_neg y, if_pos y'] at this; omega
      · rw [if_neg y, if_neg y'] at this; exact this
/-- the class's values as the writer sees them -/
def vr_f (xs : List sb_vt) (nv : Nat) : wr_v := fun nm => match cl_dx xs nv nm with
  | none => none
  | some i => if (xs.getD i sb_v0).2.1 = true then some (.inl (xs.getD i sb_v0).2.2.1.toInt.toNat) else some (.inr ((xs.getD i sb_v0).2.2.1.toInt, (xs.getD i sb_v0).2.2.2.toInt.toNat))
theorem vr_f_E {e : sb_vt} {nm : Int32} {bo : Bool} {lo : Int64} {co : Int32} (h : vr_E e nm bo lo co) : (bo = true ∧ e.2.1 = true ∧ ∃ R, R < 2147483648 ∧ sb_all 32 126 (sb_bl (Int32.ofNat R) 4) = true ∧ lo = Int64.ofNat R ∧ co = Int32.ofNat 0 ∧ e.2.2.1 = Int64.ofNat (sb_fpn 0 (sb_bl (Int32.ofNat R) 4)) ∧ e.2.2.1.toInt.toNat = sb_fpn 0 (sb_bl (Int32.ofNat R) 4) ∧ sb_fpn 0 (sb_bl (Int32.ofNat R) 4) < 2147483648) ∨ (bo = false ∧ e.2.1 = false ∧ ∃ (z : Int) (k : Nat), z.natAbs ≤ 1000000000000000 ∧ k ≤ 6 ∧ lo = Int64.ofInt z ∧ co = Int32.ofNat k ∧ e.2.2.1 = Int64.ofInt z ∧ e.2.2.2 = Int32.ofNat k ∧ e.2.2.1.toInt = z ∧ e.2.2.2.toInt.toNat = k) := by
  obtain ⟨X, N, _, _, _, ⟨h1, h2, R, h3, h4, h5, h6, h7⟩ | ⟨h1, h2, z, k, h3, h4, h5, h6, h7, h8⟩⟩ := h
  · have hl := (sb_fp_N (sb_bl_len (Int32.ofNat R) 4) (sb_bl_all h4)).2
    refine Or.inl ⟨h1, h2, R, h3, h4, h5, h6, h7, ?_, hl⟩
    rw [h7, Int64.toInt_ofNat_of_lt (by omega)]
    rfl
  · refine Or.inr ⟨h1, h2, z, k, h3, h4, h5, h6, h7, h8, ?_, ?_⟩
    · rw [h7, Int64.toInt_ofInt_of_le (by omega) (by omega)]
    · rw [h8, Int32.toInt_ofNat_of_lt (by omega)]
      rfl
theorem vr_ok {xs : List sb_vt} {nv : Nat} {nf cf : Nat → Int32} {bf : Nat → Bool} {lf : Nat → Int64} (h : vr_R xs nv nf bf lf cf) : vl_ok xs nv (vr_f xs nv) := by
  intro nm
  have hn := h.2.1
  unfold vr_f
  rcases cl_dx_sp (xs := xs) (nm := nm) hn with ⟨a, b, c⟩ | ⟨i, a, b, c, e⟩
  · rw [a]
    exact b
  · rw [a]
    dsimp only
    obtain ⟨j, hj, hE⟩ := h.2.2.1 i c
    have he : xs.getD i sb_v0 = ((xs.getD i sb_v0).1, (xs.getD i sb_v0).2.1, (xs.getD i sb_v0).2.2.1, (xs.getD i sb_v0).2.2.2) := rfl
    rcases vr_f_E hE with ⟨q1, q2, R, q3, q4, q5, q6, q7, q8, q9⟩ | ⟨q1, q2, z, k, q3, q4, q5, q6, q7, q8, q9, q10⟩
    · rw [if_pos q2, q8]
      refine ⟨i, (xs.getD i sb_v0).2.2.2, by omega, b, ?_, q9⟩
      rw [he, e, q2, q7]
    · rw [if_neg (by rw [q2]; decide), q9, q10]
      refine ⟨i, by omega, b, ?_, q3, q4⟩
      rw [he, e, q2, q7, q8]
theorem vr_rv {xs : List sb_vt} {nv : Nat} {nf cf : Nat → Int32} {bf : Nat → Bool} {lf : Nat → Int64} (h : vr_R xs nv nf bf lf cf) : rv_R (vr_f xs nv) nv nf bf lf cf := by
  intro X N hw
  rcases vr_find h hw with ⟨a, b⟩ | ⟨i, j, a, b, c, d, hE⟩
  · rw [b]
    show vr_f xs nv (Int32.ofNat X) = none
    unfold vr_f
    rw [a]
  · rw [b]
    have hvf : vr_f xs nv (Int32.ofNat X) = (if (xs.getD i sb_v0).2.1 = true then some (.inl (xs.getD i sb_v0).2.2.1.toInt.toNat) else some (.inr ((xs.getD i sb_v0).2.2.1.toInt, (xs.getD i sb_v0).2.2.2.toInt.toNat))) := by
      unfold vr_f
      rw [a]
    rcases vr_f_E hE with ⟨q1, q2, R, q3, q4, q5, q6, q7, q8, q9⟩ | ⟨q1, q2, z, k, q3, q4, q5, q6, q7, q8, q9, q10⟩
    · refine Or.inl ⟨q1, R, q3, q4, q5, q6, ?_⟩
      rw [hvf, if_pos q2, q8]
    · refine Or.inr ⟨q1, z, k, q3, q4, q5, q6, ?_⟩
      rw [hvf, if_neg (by rw [q2]; decide), q9, q10]
/-- names -/
theorem nm_two (w : Int32) : (sb_pn w = -1 ∧ rf_nm w = -1) ∨ ∃ X N, rm_w 4 X N ∧ sb_pn w = Int32.ofNat X ∧ rf_nm w = Int32.ofNat N := by
  unfold sb_pn rf_nm
  have hl := sb_bl_len w 4
  generalize sb_bl w 4 = l at *
  by_cases h : sb_all 97 122 l = true
  · have hb := sb_bl_all h
    rw [h, if_pos rfl]
    dsimp only [cond]
    rcases l with _ | ⟨c, l⟩
    · left
      exact ⟨by decide, by decide⟩
    · right
      have hw : rm_w 4 (sb_fpn 0 (c :: l)) (rf_fb 0 (c :: l)) := ⟨c :: l, hb, by rw [List.length_cons]; omega, hl, rfl, rfl⟩
      have hlt := rm_w_lt (by omega) hw
      have hN := sb_fp_N hl (fun b hb' => by have := hb b hb'; omega)
      refine ⟨_, _, hw, ?_, ?_⟩
      · rw [hN.1, if_pos (by rw [show (0 : Int32) = Int32.ofNat 0 from rfl, ne_eq, i32_eq (by omega) (by omega)]; omega)]
      · rw [if_neg (by omega)]
  · left
    rw [if_neg h]
    have : sb_all 97 122 l = false := by simpa using h
    rw [this]
    exact ⟨show (if (-1 : Int32) ≠ 0 then (-1 : Int32) else -1) = -1 from by decide, rfl⟩
