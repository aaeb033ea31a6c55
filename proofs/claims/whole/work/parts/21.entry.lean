/-! From the law's entry into the small machine. -/
theorem am_sarr_of {args : Array Value} {s : State} {tm : Term} {zs : List Int64} {N : Nat → Prop} (hz : zs.length < 2 ^ 31) (h : ∀ w ∈ am_sarr tm zs, w.before args s = true) (hA : ∀ a : Nat, a < s.heap.size → ¬ N a) : ∃ t : Nat, tm.eval args s none [] s = some (.ref t) ∧ va_T .long t zs.length (fun j => .long (zs.getD j 0)) N s s.heap :=
  va_Tof hz (h _ (by simp [am_sarr])) (va_eqt (h _ (by simp [am_sarr]))) (fun j hj => va_eqtl (h _ (List.mem_append_right _ (List.mem_map.mpr ⟨j, List.mem_range.mpr hj, rfl⟩)))) hA
theorem am_arr_T {s : State} {G : am_G} {ty : FieldType} {t : Nat} {f : Nat → Value} {N : Nat → Prop} {H : Heap} {vs : List Value} (h : va_T ty t vs.length f N s H) (hv : ∀ (j : Nat) (v : Value), vs[j]? = some v → f j = am_v (am_mp G) v) : ∃ cell, H[t]? = some cell ∧ am_arr s G ty vs cell := by
  obtain ⟨cell, h1, h2, h3, h4, h5, h6, h7⟩ := h
  refine ⟨cell, h1, h2, h3, h5, fun j v hj => ?_⟩
  rw [← hv j v hj]
  exact h6 j (List.getElem?_eq_some_iff.mp hj).1
theorem am_Tz_of {args : Array Value} {s : State} {G : am_G} {C n d : String} (hl : (Cond.laysStatic C n d).before args s = true) (h : (Cond.isRef (.static C n d)).before args s = true) (hG : G.2.1 = s.heap.size) : am_Tz s G s.heap (C, n, d) := by
  obtain ⟨c, k, i, f, a, cell, hc, hi, hst, ha, hcell, hs, hcls, hlt, hty⟩ := Cond.laysStatic_spec hl
  cases hv : (Term.static C n d).eval args s none [] s with
  | none => simp [Cond.before, Cond.holds, Cond.value, hv] at h
  | some w =>
    obtain ⟨hst', a', cell', ha', hcell', -, hslot⟩ := Term.static_spec hi hv
    cases ha.symm.trans ha'
    cases hcell.symm.trans hcell'
    refine ⟨c, k, i, f, a, cell, w, hc, hi, hst, ha, hcell, hs, hcls, hlt, hty, hslot, ?_, by rw [hG]; exact (Array.getElem?_eq_some_iff.mp hcell).1⟩
    simp only [Cond.before, Cond.holds, Cond.value, hv] at h
    cases w <;> first | rfl | simp at h
/-- what is known of the text i -/
def am_sfact (args : Array Value) (s : State) (N : Nat → Prop) (i a t : Nat) : Prop := (Term.string (am_str.getD i ("", 0, "", 0)).1 (am_str.getD i ("", 0, "", 0)).2.1).eval args s none [] s = some (.ref a) ∧ va_O "java/lang/String" a N s s.heap ∧ va_OF "java/lang/String" "coder" "B" (.int 0) a N s s.heap ∧ va_OF "java/lang/String" "value" "[B" (.ref t) a N s s.heap ∧ va_T .byte t (am_byt.getD i []).length (fun j => .int ((am_byt.getD i []).getD j 0)) N s s.heap
theorem am_sfact_of {args : Array Value} {s : State} {N : Nat → Prop} {i : Nat} (hz : (am_byt.getD i []).length < 2 ^ 31) (h : ∀ w ∈ am_swd i, w.before args s = true) (hA : ∀ a : Nat, a < s.heap.size → ¬ N a) : ∃ q : Nat × Nat, am_sfact args s N i q.1 q.2 := by
  obtain ⟨a, c, cA, kA, q1, q2, q3, q4, q5, q6, -⟩ := Cond.exactly_spec (args := args) (first := s) (o := none) (s := s) (idx := []) (h _ (by simp only [am_swd]; exact List.mem_append_left _ List.mem_cons_self))
  obtain ⟨t, ht, hT⟩ := va_Tof (args := args) (s := s) (tm := Term.field (Term.string (am_str.getD i ("", 0, "", 0)).1 (am_str.getD i ("", 0, "", 0)).2.1) "java/lang/String" "value" "[B") (ty := .byte) (N := (am_byt.getD i []).length) (f := fun j => .int ((am_byt.getD i []).getD j 0)) (A := N) hz (h _ (by simp only [am_swd]; exact List.mem_append_left _ (List.mem_cons_of_mem _ (List.mem_cons_of_mem _ List.mem_cons_self)))) (va_eqt (h _ (by simp only [am_swd]; exact List.mem_append_left _ (List.mem_cons_of_mem _ (List.mem_cons_of_mem _ (List.mem_cons_of_mem _ List.mem_cons_self))))))
    (fun j hj => va_eqt (h _ (by simp only [am_swd]; exact List.mem_append_right _ (List.mem_map.mpr ⟨j, List.mem_range.mpr hj, rfl⟩)))) hA
  exact ⟨(a, t), q1, ⟨cA, q3, q5, by rw [q6]; exact q2, hA a (Array.getElem?_eq_some_iff.mp q3).1⟩, vk_OFof q1 (va_eqt (h _ (by simp only [am_swd]; exact List.mem_append_left _ (List.mem_cons_of_mem _ List.mem_cons_self)))) hA, vk_OFof q1 ht hA, hT⟩
/-- where the old cells lie -/
def am_g1 (b tT tC : Nat) (ad : Nat → Nat × Nat) (i : Nat) : Nat := if i = 0 then b else if i = 1 then tT else if i = 2 then tC else if i < 24 then (ad (i - 3)).1 else (ad (i - 24)).2
set_option maxRecDepth 100000 in
theorem ck_bl : ((List.range 21).all fun i => decide ((am_byt.getD i []).length < 2 ^ 31)) = true := by decide +kernel
set_option maxRecDepth 100000 in
theorem ck_o1 : ((List.range 21).all fun i => decide (am_old[i + 2]? = some (50, [.ref (24 + i), .int 0])) && decide (am_old[i + 23]? = some (104, (am_byt.getD i []).map Value.int))) = true := by decide +kernel
theorem ck_o2 : am_old[0]? = some (101, am_TENS.map Value.long) ∧ am_old[1]? = some (101, am_CW.map Value.long) ∧ am_old.length = 44 := by decide +kernel
theorem am_cell_arr {s : State} {G : am_G} {k : Nat} {vs : List Value} {cell : Cell} (h1 : 100 ≤ k) (h2 : k < 200) (h3 : am_cmp k = none) (h : am_arr s G (am_aty k) vs cell) : am_cell s G (k, vs) cell := by
  unfold am_cell
  rw [if_neg (show ¬ k < 100 by omega), if_pos (show k < 200 from h2)]
  exact ⟨h, fun q hq => by rw [show am_cmp (k, vs).1 = none from h3] at hq; cases hq⟩
theorem am_map_at {α : Type} {zs : List α} {mk : α → Value} {j : Nat} {v : Value} (h : (zs.map mk)[j]? = some v) (d : α) : v = mk (zs.getD j d) := by
  rw [List.getElem?_map] at h
  obtain ⟨w, h1, rfl⟩ := Option.map_eq_some_iff.mp h
  rw [List.getD_eq_getElem?_getD, h1]
  rfl
set_option maxHeartbeats 1000000 in
theorem am_I0 {s : State} {b L : Nat} {xs : Nat → Int32} (hts : ∀ w ∈ lw_tbl, w.before #[Value.ref b] s = true) (hX : va_X b L xs s s.heap) (hbl : b < s.heap.size) (hgv : (Jvm.Cond.and given_1 narrow_1).before #[Value.ref b] s = true) (hL : L ≤ 2560) :
    ∃ G : am_G, G.2.1 = s.heap.size ∧ am_ad G 0 = b ∧ am_I s G (am_A0 ((List.range L).map xs)) s.heap := by
  have hA : ∀ a : Nat, a < s.heap.size → ¬ (fun z => s.heap.size ≤ z) a := fun a h1 h2 => by dsimp only at h2; omega
  have hn : ∀ w ∈ am_nd, w.before #[Value.ref b] s = true := fun w hw => flat_of_before _ hgv w (am_sub_mem _ _ ck_nd w hw)
  have hl2 : ∀ w ∈ am_lst2, w.before #[Value.ref b] s = true := fun w hw => hts w (of_decide_eq_true (List.all_eq_true.mp ck_l2 w hw))
  have hn1 : ∀ w ∈ am_sarr am_tC am_CW, w.before #[Value.ref b] s = true := fun w hw => hn w (by unfold am_nd; exact List.mem_append_left _ (List.mem_append_left _ (List.mem_append_right _ hw)))
  have hn2 : ∀ w ∈ am_sarr am_tT am_TENS, w.before #[Value.ref b] s = true := fun w hw => hn w (by unfold am_nd; exact List.mem_append_left _ (List.mem_append_right _ hw))
  have hn3 : ∀ i, i < 21 → ∀ w ∈ am_swd i, w.before #[Value.ref b] s = true := fun i hi w hw => hn w (by unfold am_nd; exact List.mem_append_right _ (List.mem_flatMap.mpr ⟨i, List.mem_range.mpr hi, hw⟩))
  obtain ⟨tC, eC, hTC⟩ := am_sarr_of (N := fun z => s.heap.size ≤ z) (by decide +kernel) hn1 hA
  obtain ⟨tT, eT, hTT⟩ := am_sarr_of (N := fun z => s.heap.size ≤ z) (by decide +kernel) hn2 hA
  have h0 : ∀ i : Nat, ∃ q : Nat × Nat, i < 21 → am_sfact #[Value.ref b] s (fun z => s.heap.size ≤ z) i q.1 q.2 := by
    intro i
    by_cases hi : i < 21
    · obtain ⟨q, hq⟩ := am_sfact_of (i := i) (of_decide_eq_true (List.all_eq_true.mp ck_bl i (List.mem_range.mpr hi))) (hn3 i hi) hA
      exact ⟨q, fun _ => hq⟩
    · exact ⟨(0, 0), fun h => absurd h hi⟩
  obtain ⟨ad, had⟩ := Classical.axiomOfChoice h0
  have hfo : ∃ fo : Option Nat, va_Z "jdk/internal/util/Preconditions" "SIOOBE_FORMATTER" "Ljava/util/function/BiFunction;" (va_rf fo) (fun z => s.heap.size ≤ z) s s.heap := by
    rcases va_Zqof (A := fun z => s.heap.size ≤ z) (hl2 _ (by unfold am_lst2; exact List.mem_cons_of_mem _ (List.mem_cons_of_mem _ (List.mem_cons_of_mem _ (List.mem_cons_of_mem _ List.mem_cons_self))))) (hl2 _ (by unfold am_lst2; exact List.mem_cons_of_mem _ (List.mem_cons_of_mem _ (List.mem_cons_of_mem _ (List.mem_cons_of_mem _ (List.mem_cons_of_mem _ List.mem_cons_self)))))) (hn (.isRef am_tS) (by unfold am_nd; exact List.mem_append_left _ (List.mem_append_left _ (List.mem_append_left _ (List.mem_cons_of_mem _ (List.mem_cons_of_mem _ (List.mem_cons_of_mem _ List.mem_cons_self))))))) hA with h | ⟨t, h⟩
    · exact ⟨none, h⟩
    · exact ⟨some t, h⟩
  obtain ⟨fo, hfo⟩ := hfo
  have eS0 : am_S0 = 45 := rfl
  refine ⟨(am_g1 b tT tC ad, s.heap.size, fo), rfl, rfl, ?_⟩
  have hadd : ∀ i, i < 45 → am_ad (am_g1 b tT tC ad, s.heap.size, fo) i = am_g1 b tT tC ad i := fun i hi => by
    unfold am_ad
    rw [if_pos (by rw [eS0]; exact hi)]
  have hlen : (am_A0 ((List.range L).map xs)).length = 45 := by
    show am_old.length + 1 = 45
    rw [ck_o2.2.2]
  refine ⟨fun i hi => ?_, ⟨by rw [hlen]; exact Nat.le_refl _, by rw [hlen]; rfl, fun i c hc => ?_⟩, ⟨⟨fun q hq => ?_, fun i j hi hj hij => ?_⟩, fun q hq => ?_⟩, fun q hq => ?_, fun w hw => ?_, fun C hC => ?_⟩
  · have hi : i < 45 := hi
    show am_g1 b tT tC ad i < s.heap.size
    unfold am_g1
    split
    · exact hbl
    · split
      · obtain ⟨cell, h1, -⟩ := hTT
        exact (Array.getElem?_eq_some_iff.mp h1).1
      · split
        · obtain ⟨cell, h1, -⟩ := hTC
          exact (Array.getElem?_eq_some_iff.mp h1).1
        · split
          · obtain ⟨cell, h1, -⟩ := (had (i - 3) (by omega)).2.1
            exact (Array.getElem?_eq_some_iff.mp h1).1
          · obtain ⟨cell, h1, -⟩ := (had (i - 24) (by omega)).2.2.2.2
            exact (Array.getElem?_eq_some_iff.mp h1).1
  · have hi : i < 45 := by
      have := (List.getElem?_eq_some_iff.mp hc).1
      rw [hlen] at this
      exact this
    rw [hadd i hi]
    by_cases h1 : i = 0
    · subst h1
      have hc : some (100, ((List.range L).map xs).map Value.int) = some c := hc
      cases hc
      obtain ⟨scr, x1, x2, x3, x4, x5⟩ := hX
      refine ⟨scr, x1, am_cell_arr (by decide) (by decide) rfl ⟨x2, x3, ?_, fun j v hv => ?_⟩⟩
      · rw [x4]; simp
      · have hj := (List.getElem?_eq_some_iff.mp hv).1
        simp at hj
        have h9 := am_map_at hv 0
        rw [x5 j hj, h9]
        simp [hj, am_v]
    · by_cases h2 : i = 1
      · subst h2
        have hc : am_old[0]? = some c := hc
        rw [ck_o2.1] at hc
        cases hc
        obtain ⟨cell, q1, q2⟩ := am_arr_T (G := (am_g1 b tT tC ad, s.heap.size, fo)) (vs := am_TENS.map Value.long) (by rw [List.length_map]; exact hTT) (fun j v hv => by rw [am_map_at hv 0]; rfl)
        exact ⟨cell, q1, am_cell_arr (by decide) (by decide) rfl q2⟩
      · by_cases h3 : i = 2
        · subst h3
          have hc : am_old[1]? = some c := hc
          rw [ck_o2.2.1] at hc
          cases hc
          obtain ⟨cell, q1, q2⟩ := am_arr_T (G := (am_g1 b tT tC ad, s.heap.size, fo)) (vs := am_CW.map Value.long) (by rw [List.length_map]; exact hTC) (fun j v hv => by rw [am_map_at hv 0]; rfl)
          exact ⟨cell, q1, am_cell_arr (by decide) (by decide) rfl q2⟩
        · by_cases h4 : i < 24
          · obtain ⟨k, rfl⟩ : ∃ k, i = k + 3 := ⟨i - 3, by omega⟩
            have hc : am_old[k + 2]? = some c := hc
            have hk := List.all_eq_true.mp ck_o1 k (List.mem_range.mpr (by omega))
            simp only [Bool.and_eq_true, decide_eq_true_eq] at hk
            rw [hk.1] at hc
            cases hc
            have e1 : am_g1 b tT tC ad (k + 3) = (ad k).1 := by
              unfold am_g1
              rw [if_neg h1, if_neg h2, if_neg h3, if_pos h4]
              rfl
            obtain ⟨f1, ⟨cell, o1, o2, o3, -⟩, ⟨cf, kf, fi, fd, ce2, c1, c2, c3, c4, c5, -⟩, ⟨cf', kf', fi', fd', ce3, v1, v2, v3, v4, v5, -⟩, f5⟩ := had k (by omega)
            cases o1.symm.trans c3
            cases o1.symm.trans v3
            rw [e1]
            refine ⟨_, o1, ?_⟩
            unfold am_cell
            rw [if_pos (show (50 : Nat) < 100 by decide)]
            refine ⟨⟨o2, c4, o3, rfl, fun j v hv => ?_⟩, fun h => absurd h (by show ¬ (50 : Nat) < 50; decide)⟩
            have e2 : am_ad (am_g1 b tT tC ad, s.heap.size, fo) (24 + k) = (ad k).2 := by
              rw [hadd _ (by omega)]
              unfold am_g1
              rw [if_neg (by omega), if_neg (by omega), if_neg (by omega), if_neg (by omega), Nat.add_sub_cancel_left]
            match j, hv with
            | 0, hv =>
              cases hv
              refine ⟨cf', kf', fi', fd', v1, v2, ?_⟩
              show _ = some (Value.ref (am_ad _ (24 + k)))
              rw [e2]
              exact v5
            | 1, hv =>
              cases hv
              exact ⟨cf, kf, fi, fd, c1, c2, c5⟩
            | j + 2, hv => cases hv
          · obtain ⟨k, rfl⟩ : ∃ k, i = k + 24 := ⟨i - 24, by omega⟩
            have hc : am_old[k + 23]? = some c := hc
            have hk := List.all_eq_true.mp ck_o1 k (List.mem_range.mpr (by omega))
            simp only [Bool.and_eq_true, decide_eq_true_eq] at hk
            rw [hk.2] at hc
            cases hc
            have e1 : am_g1 b tT tC ad (k + 24) = (ad k).2 := by
              unfold am_g1
              rw [if_neg h1, if_neg h2, if_neg h3, if_neg h4]
              rfl
            rw [e1]
            obtain ⟨cell, q1, q2⟩ := am_arr_T (G := (am_g1 b tT tC ad, s.heap.size, fo)) (vs := (am_byt.getD k []).map Value.int) (by rw [List.length_map]; exact (had k (by omega)).2.2.2.2) (fun j v hv => by rw [am_map_at hv 0]; rfl)
            exact ⟨cell, q1, am_cell_arr (by decide) (by decide) rfl q2⟩
  · unfold am_tst at hq
    rcases List.mem_cons.mp hq with rfl | hq
    · exact am_Tz_of (hl2 _ (by unfold am_lst2; exact List.mem_cons_self)) (hn _ (by unfold am_nd; exact List.mem_append_left _ (List.mem_append_left _ (List.mem_append_left _ List.mem_cons_self)))) rfl
    · rw [List.mem_singleton.mp hq]
      exact am_Tz_of (hl2 _ (by unfold am_lst2; exact List.mem_cons_of_mem _ List.mem_cons_self)) (hn _ (by unfold am_nd; exact List.mem_append_left _ (List.mem_append_left _ (List.mem_append_left _ (List.mem_cons_of_mem _ List.mem_cons_self))))) rfl
  · have h9 := List.all_eq_true.mp (List.all_eq_true.mp ck_nc i (List.mem_range.mpr hi)) j (List.mem_range.mpr hj)
    simp only [Bool.or_eq_true, decide_eq_true_eq] at h9
    exact va_Nc.of (flat_of_before _ hgv _ (h9.resolve_left hij))
  · unfold am_zst at hq
    rcases List.mem_cons.mp hq with rfl | hq
    · exact va_Zof (hl2 _ (by unfold am_lst2; exact List.mem_cons_of_mem _ (List.mem_cons_of_mem _ List.mem_cons_self))) (hl2 _ (by unfold am_lst2; exact List.mem_cons_of_mem _ (List.mem_cons_of_mem _ (List.mem_cons_of_mem _ List.mem_cons_self)))) (va_eqt (hn (.eq am_t0 (.int 1)) (by unfold am_nd; exact List.mem_append_left _ (List.mem_append_left _ (List.mem_append_left _ (List.mem_cons_of_mem _ (List.mem_cons_of_mem _ List.mem_cons_self))))))) hA
    · rcases List.mem_cons.mp hq with rfl | hq
      · exact hfo
      · have hini : (Cond.initialized "PluralMessages").before #[Value.ref b] s = true := hl2 _ (by unfold am_lst2; simp)
        rcases List.mem_cons.mp hq with rfl | hq
        · show va_Z "PluralMessages" "TENS" "[J" (.ref (am_ad (am_g1 b tT tC ad, s.heap.size, fo) 1)) (fun z => s.heap.size ≤ z) s s.heap
          rw [hadd 1 (by decide)]
          exact va_Zof (hl2 _ (by unfold am_lst2; simp)) hini eT hA
        · rw [List.mem_singleton.mp hq]
          show va_Z "PluralMessages" "CATEGORY_WORDS" "[J" (.ref (am_ad (am_g1 b tT tC ad, s.heap.size, fo) 2)) (fun z => s.heap.size ≤ z) s s.heap
          rw [hadd 2 (by decide)]
          exact va_Zof (hl2 _ (by unfold am_lst2; simp)) hini eC hA
  · obtain ⟨i, hi⟩ := List.getElem?_of_mem hq
    have hi2 : i < 21 := (List.getElem?_eq_some_iff.mp hi).1
    have e0 : am_str.getD i ("", 0, "", 0) = q := by rw [List.getD_eq_getElem?_getD, hi]; rfl
    have h9 := List.all_eq_true.mp ck_sr i (List.mem_range.mpr hi2)
    simp only [Bool.and_eq_true, decide_eq_true_eq] at h9
    have h8 := (had i hi2).1
    rw [e0] at h9 h8
    have e1 : am_ad (am_g1 b tT tC ad, s.heap.size, fo) q.2.2.2 = (ad i).1 := by
      rw [h9.2, hadd _ (by omega)]
      unfold am_g1
      rw [if_neg (by omega), if_neg (by omega), if_neg (by omega), if_pos (by omega), Nat.add_sub_cancel_left]
    rw [e1]
    exact vk_R.of (hts _ h9.1) h8
  · have h9 := List.all_eq_true.mp ck_nw w hw
    simp only [Bool.and_eq_true, decide_eq_true_eq] at h9
    exact va_Nw.of h9.2 (hts _ h9.1)
  · exact va_AO.of (hts _ (of_decide_eq_true (List.all_eq_true.mp ck_ao C hC)))
