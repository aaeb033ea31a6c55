/-! The law's entry: what the Statement gives of the start is the small machine's heap at its start. -/
noncomputable def am_TENS : List Int64 := [1, 10, 100, 1000, 10000, 100000, 1000000, 10000000, 100000000, 1000000000, 10000000000, 100000000000, 1000000000000, 10000000000000, 100000000000000, 1000000000000000, 10000000000000000, 100000000000000000, 1000000000000000000]
noncomputable def am_CW : List Int64 := [2053468783, 7302757, 7632751, 6710647, 1835101817, 478694368626]
noncomputable def am_byt : List (List Int32) := [[110, 111, 32, 115, 117, 99, 104, 32, 115, 108, 111, 116], [110, 117, 109, 98, 101, 114], [104, 101, 120], [117, 112, 112, 101, 114], [115, 101, 108, 101, 99, 116], [112, 108, 117, 114, 97, 108], [115, 101, 108, 101, 99, 116, 111, 114, 100, 105, 110, 97, 108], [111, 102, 102, 115, 101, 116], [116, 104, 101, 32, 116, 101, 120, 116, 32, 105, 115, 32, 110, 111, 32, 109, 101, 115, 115, 97, 103, 101], [110, 105, 118, 119, 102, 116], [111, 114], [97, 110, 100], [116, 104, 101, 32, 116, 101, 120, 116, 32, 104, 97, 115, 32, 110, 111, 32, 114, 117, 108, 101, 115], [110, 111, 32, 115, 117, 99, 104, 32, 110, 97, 109, 101, 32, 111, 114, 32, 110, 117, 109, 98, 101, 114], [116, 111, 111, 32, 109, 97, 110, 121, 32, 110, 97, 109, 101, 115], [110, 111, 32, 115, 117, 99, 104, 32, 110, 97, 109, 101, 32, 111, 114, 32, 119, 111, 114, 100], [110, 111, 32, 115, 117, 99, 104, 32, 110, 117, 109, 98, 101, 114], [110, 111, 32, 109, 101, 115, 115, 97, 103, 101, 32, 116, 104, 101, 114, 101], [110, 111, 32, 118, 97, 108, 117, 101, 32, 117, 110, 100, 101, 114, 32, 97, 32, 110, 97, 109, 101], [110, 111, 116, 32, 116, 104, 101, 32, 110, 117, 109, 98, 101, 114, 32, 116, 104, 97, 116, 32, 105, 115, 32, 110, 101, 101, 100, 101, 100], [116, 104, 101, 32, 114, 101, 115, 117, 108, 116, 32, 105, 115, 32, 116, 111, 111, 32, 108, 111, 110, 103]]
/-- the cells that are there when the law begins, behind the script -/
noncomputable def am_old : am_H := [(101, [.long 1, .long 10, .long 100, .long 1000, .long 10000, .long 100000, .long 1000000, .long 10000000, .long 100000000, .long 1000000000, .long 10000000000, .long 100000000000, .long 1000000000000, .long 10000000000000, .long 100000000000000, .long 1000000000000000, .long 10000000000000000, .long 100000000000000000, .long 1000000000000000000]),
  (101, [.long 2053468783, .long 7302757, .long 7632751, .long 6710647, .long 1835101817, .long 478694368626]),
  (50, [.ref 24, .int 0]),
  (50, [.ref 25, .int 0]),
  (50, [.ref 26, .int 0]),
  (50, [.ref 27, .int 0]),
  (50, [.ref 28, .int 0]),
  (50, [.ref 29, .int 0]),
  (50, [.ref 30, .int 0]),
  (50, [.ref 31, .int 0]),
  (50, [.ref 32, .int 0]),
  (50, [.ref 33, .int 0]),
  (50, [.ref 34, .int 0]),
  (50, [.ref 35, .int 0]),
  (50, [.ref 36, .int 0]),
  (50, [.ref 37, .int 0]),
  (50, [.ref 38, .int 0]),
  (50, [.ref 39, .int 0]),
  (50, [.ref 40, .int 0]),
  (50, [.ref 41, .int 0]),
  (50, [.ref 42, .int 0]),
  (50, [.ref 43, .int 0]),
  (50, [.ref 44, .int 0]),
  (104, [.int 110, .int 111, .int 32, .int 115, .int 117, .int 99, .int 104, .int 32, .int 115, .int 108, .int 111, .int 116]),
  (104, [.int 110, .int 117, .int 109, .int 98, .int 101, .int 114]),
  (104, [.int 104, .int 101, .int 120]),
  (104, [.int 117, .int 112, .int 112, .int 101, .int 114]),
  (104, [.int 115, .int 101, .int 108, .int 101, .int 99, .int 116]),
  (104, [.int 112, .int 108, .int 117, .int 114, .int 97, .int 108]),
  (104, [.int 115, .int 101, .int 108, .int 101, .int 99, .int 116, .int 111, .int 114, .int 100, .int 105, .int 110, .int 97, .int 108]),
  (104, [.int 111, .int 102, .int 102, .int 115, .int 101, .int 116]),
  (104, [.int 116, .int 104, .int 101, .int 32, .int 116, .int 101, .int 120, .int 116, .int 32, .int 105, .int 115, .int 32, .int 110, .int 111, .int 32, .int 109, .int 101, .int 115, .int 115, .int 97, .int 103, .int 101]),
  (104, [.int 110, .int 105, .int 118, .int 119, .int 102, .int 116]),
  (104, [.int 111, .int 114]),
  (104, [.int 97, .int 110, .int 100]),
  (104, [.int 116, .int 104, .int 101, .int 32, .int 116, .int 101, .int 120, .int 116, .int 32, .int 104, .int 97, .int 115, .int 32, .int 110, .int 111, .int 32, .int 114, .int 117, .int 108, .int 101, .int 115]),
  (104, [.int 110, .int 111, .int 32, .int 115, .int 117, .int 99, .int 104, .int 32, .int 110, .int 97, .int 109, .int 101, .int 32, .int 111, .int 114, .int 32, .int 110, .int 117, .int 109, .int 98, .int 101, .int 114]),
  (104, [.int 116, .int 111, .int 111, .int 32, .int 109, .int 97, .int 110, .int 121, .int 32, .int 110, .int 97, .int 109, .int 101, .int 115]),
  (104, [.int 110, .int 111, .int 32, .int 115, .int 117, .int 99, .int 104, .int 32, .int 110, .int 97, .int 109, .int 101, .int 32, .int 111, .int 114, .int 32, .int 119, .int 111, .int 114, .int 100]),
  (104, [.int 110, .int 111, .int 32, .int 115, .int 117, .int 99, .int 104, .int 32, .int 110, .int 117, .int 109, .int 98, .int 101, .int 114]),
  (104, [.int 110, .int 111, .int 32, .int 109, .int 101, .int 115, .int 115, .int 97, .int 103, .int 101, .int 32, .int 116, .int 104, .int 101, .int 114, .int 101]),
  (104, [.int 110, .int 111, .int 32, .int 118, .int 97, .int 108, .int 117, .int 101, .int 32, .int 117, .int 110, .int 100, .int 101, .int 114, .int 32, .int 97, .int 32, .int 110, .int 97, .int 109, .int 101]),
  (104, [.int 110, .int 111, .int 116, .int 32, .int 116, .int 104, .int 101, .int 32, .int 110, .int 117, .int 109, .int 98, .int 101, .int 114, .int 32, .int 116, .int 104, .int 97, .int 116, .int 32, .int 105, .int 115, .int 32, .int 110, .int 101, .int 101, .int 100, .int 101, .int 100]),
  (104, [.int 116, .int 104, .int 101, .int 32, .int 114, .int 101, .int 115, .int 117, .int 108, .int 116, .int 32, .int 105, .int 115, .int 32, .int 116, .int 111, .int 111, .int 32, .int 108, .int 111, .int 110, .int 103])]
noncomputable def am_A0 (xs : List Int32) : am_H := (100, xs.map .int) :: am_old
/-- one list's words in another's, in their order -/
noncomputable def am_sub (xs : List Cond) (ys : List Cond) : Bool := match ys with
  | [] => xs.isEmpty
  | y :: t => (match xs with
    | [] => true
    | x :: r => bif decide (x = y) then am_sub r t else am_sub (x :: r) t)
theorem am_sub_mem : ∀ (ys xs : List Cond), am_sub xs ys = true → ∀ w ∈ xs, w ∈ ys
  | [], xs, h, w, hw => by
    have : xs = [] := List.isEmpty_iff.mp h
    rw [this] at hw
    cases hw
  | y :: t, [], _, w, hw => by cases hw
  | y :: t, x :: r, h, w, hw => by
    unfold am_sub at h
    by_cases hc : x = y
    · simp only [hc, decide_true, cond_true] at h
      rcases List.mem_cons.mp hw with rfl | hw
      · rw [hc]; exact List.mem_cons_self
      · exact List.mem_cons_of_mem _ (am_sub_mem t r h w hw)
    · simp only [hc, decide_false, cond_false] at h
      exact List.mem_cons_of_mem _ (am_sub_mem t (x :: r) h w hw)
noncomputable def am_fl : List Cond := flatC (Jvm.Cond.and given_1 narrow_1)
noncomputable def am_sarr (tm : Term) (zs : List Int64) : List Cond := [.arrayOf tm .long, .eq (.length tm) (.int (Int32.ofNat zs.length))] ++ (List.range zs.length).map fun j => .eq (.elem tm (.int (Int32.ofNat j))) (.long (zs.getD j 0))
noncomputable def am_swd (i : Nat) : List Cond :=
  let tm := Term.string (am_str.getD i ("", 0, "", 0)).1 (am_str.getD i ("", 0, "", 0)).2.1
  let va := Term.field tm "java/lang/String" "value" "[B"
  [.exactly tm "java/lang/String", .eq (.field tm "java/lang/String" "coder" "B") (.int 0), .arrayOf va .byte, .eq (.length va) (.int (Int32.ofNat (am_byt.getD i []).length))] ++ (List.range (am_byt.getD i []).length).map fun j => .eq (.elem va (.int (Int32.ofNat j))) (.int ((am_byt.getD i []).getD j 0))
noncomputable def am_tT : Term := .static "PluralMessages" "TENS" "[J"
noncomputable def am_tC : Term := .static "PluralMessages" "CATEGORY_WORDS" "[J"
noncomputable def am_tS : Term := .static "jdk/internal/util/Preconditions" "SIOOBE_FORMATTER" "Ljava/util/function/BiFunction;"
noncomputable def am_t0 : Term := .static "java/lang/String" "COMPACT_STRINGS" "Z"
noncomputable def am_nd : List Cond := [.isRef (.static Jvm.Bundle.tN "UNASSIGNED_STACK" Jvm.Bundle.steD), .isRef (.static Jvm.Bundle.tN "SUPPRESSED_SENTINEL" Jvm.Bundle.listD), .eq am_t0 (.int 1), .isRef am_tS] ++ am_sarr am_tC am_CW ++ am_sarr am_tT am_TENS ++ (List.range 21).flatMap am_swd
set_option maxRecDepth 100000 in
theorem ck_nd : am_sub am_nd am_fl = true := by decide +kernel
set_option maxRecDepth 100000 in
theorem ck_nc : ((List.range 4).all fun i => (List.range 4).all fun j => decide (i = j) || decide (Cond.not (.castable (am_exn i) (am_exn j)) ∈ am_fl)) = true := by decide +kernel
set_option maxRecDepth 100000 in
theorem ck_sr : ((List.range 21).all fun i => decide (Cond.stringRef (am_str.getD i ("", 0, "", 0)).1 (am_str.getD i ("", 0, "", 0)).2.1 (am_str.getD i ("", 0, "", 0)).2.2.1 ∈ lw_tbl) && decide ((am_str.getD i ("", 0, "", 0)).2.2.2 = 3 + i)) = true := by decide +kernel
set_option maxRecDepth 100000 in
theorem ck_nw : (am_nws.all fun w => decide (w ∈ lw_tbl) && w.onTables) = true := by decide +kernel
set_option maxRecDepth 100000 in
theorem ck_ao : (am_aos.all fun C => decide (Cond.arrayOver (.object C) ∈ lw_tbl)) = true := by decide +kernel
noncomputable def am_lst2 : List Cond := [.laysStatic Jvm.Bundle.tN "UNASSIGNED_STACK" Jvm.Bundle.steD, .laysStatic Jvm.Bundle.tN "SUPPRESSED_SENTINEL" Jvm.Bundle.listD, .laysStatic "java/lang/String" "COMPACT_STRINGS" "Z", .initialized "java/lang/String", .laysStatic "jdk/internal/util/Preconditions" "SIOOBE_FORMATTER" "Ljava/util/function/BiFunction;", .initialized "jdk/internal/util/Preconditions", .laysStatic "PluralMessages" "TENS" "[J", .laysStatic "PluralMessages" "CATEGORY_WORDS" "[J", .initialized "PluralMessages"]
set_option maxRecDepth 100000 in
theorem ck_l2 : (am_lst2.all fun w => decide (w ∈ lw_tbl)) = true := by decide +kernel
