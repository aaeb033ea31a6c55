/-! Calls are of the sort that their methods are. -/
noncomputable def am_clk (m : Nat) (i : Instr) : Bool := match i with
  | .invokestatic x => (match am_mth (am_own m) x with
    | some q => decide (1000 ≤ q.1) || am_stc q.1
    | none => true)
  | .invokevirtual x => (match am_mth (am_own m) x with
    | some q => !am_stc q.1 && !am_ini q.1
    | none => true)
  | .invokespecial x => (match am_mth (am_own m) x with
    | some q => decide (1000 ≤ q.1) || (!am_stc q.1 && am_ini q.1)
    | none => true)
  | _ => true
def am_clm (m : Nat) : Prop := ∀ pc i len, am_code m pc = some (i, len) → am_clk m i = true
theorem am_clm_of {m n : Nat} {f : Nat → Option (Instr × Nat)} (h : ((List.range n).all fun pc => match f pc with
    | some q => am_clk m q.1
    | none => true) = true) (hf : ∀ pc, am_code m pc = f pc) (hn : ∀ pc q, f pc = some q → pc < n) : am_clm m := by
  intro pc i len hc
  rw [hf] at hc
  have h1 := List.all_eq_true.mp h pc (List.mem_range.mpr (hn pc _ hc))
  rw [hc] at h1
  exact h1
set_option maxRecDepth 100000 in
theorem ek_0 : am_clm 0 := am_clm_of (n := 132) (f := cd_0) (by decide +kernel) (fun _ => rfl) (fun _ _ h => am_bd1 h)
set_option maxRecDepth 100000 in
theorem ek_1 : am_clm 1 := am_clm_of (n := 28) (f := cd_1) (by decide +kernel) (fun _ => rfl) (fun _ _ h => am_bd1 h)
set_option maxRecDepth 100000 in
theorem ek_2 : am_clm 2 := am_clm_of (n := 79) (f := cd_2) (by decide +kernel) (fun _ => rfl) (fun _ _ h => am_bd1 h)
set_option maxRecDepth 100000 in
theorem ek_3 : am_clm 3 := am_clm_of (n := 25) (f := cd_3) (by decide +kernel) (fun _ => rfl) (fun _ _ h => am_bd1 h)
set_option maxRecDepth 100000 in
theorem ek_4 : am_clm 4 := am_clm_of (n := 84) (f := cd_4) (by decide +kernel) (fun _ => rfl) (fun _ _ h => am_bd1 h)
set_option maxRecDepth 100000 in
theorem ek_5 : am_clm 5 := am_clm_of (n := 104) (f := cd_5) (by decide +kernel) (fun _ => rfl) (fun _ _ h => am_bd1 h)
set_option maxRecDepth 100000 in
theorem ek_6 : am_clm 6 := am_clm_of (n := 18) (f := cd_6) (by decide +kernel) (fun _ => rfl) (fun _ _ h => am_bd1 h)
set_option maxRecDepth 100000 in
theorem ek_7 : am_clm 7 := am_clm_of (n := 19) (f := cd_7) (by decide +kernel) (fun _ => rfl) (fun _ _ h => am_bd1 h)
set_option maxRecDepth 100000 in
theorem ek_8 : am_clm 8 := am_clm_of (n := 31) (f := cd_8) (by decide +kernel) (fun _ => rfl) (fun _ _ h => am_bd1 h)
set_option maxRecDepth 100000 in
theorem ek_9 : am_clm 9 := am_clm_of (n := 56) (f := cd_9) (by decide +kernel) (fun _ => rfl) (fun _ _ h => am_bd1 h)
set_option maxRecDepth 100000 in
theorem ek_10 : am_clm 10 := am_clm_of (n := 109) (f := cd_10) (by decide +kernel) (fun _ => rfl) (fun _ _ h => am_bd1 h)
set_option maxRecDepth 100000 in
theorem ek_11 : am_clm 11 := am_clm_of (n := 9) (f := cd_11) (by decide +kernel) (fun _ => rfl) (fun _ _ h => am_bd1 h)
set_option maxRecDepth 100000 in
theorem ek_12 : am_clm 12 := am_clm_of (n := 8) (f := cd_12) (by decide +kernel) (fun _ => rfl) (fun _ _ h => am_bd1 h)
set_option maxRecDepth 100000 in
theorem ek_13 : am_clm 13 := am_clm_of (n := 5) (f := cd_13) (by decide +kernel) (fun _ => rfl) (fun _ _ h => am_bd1 h)
set_option maxRecDepth 100000 in
theorem ek_14 : am_clm 14 := am_clm_of (n := 27) (f := cd_14) (by decide +kernel) (fun _ => rfl) (fun _ _ h => am_bd1 h)
set_option maxRecDepth 100000 in
theorem ek_15 : am_clm 15 := am_clm_of (n := 19) (f := cd_15) (by decide +kernel) (fun _ => rfl) (fun _ _ h => am_bd1 h)
set_option maxRecDepth 100000 in
theorem ek_16 : am_clm 16 := am_clm_of (n := 57) (f := cd_16) (by decide +kernel) (fun _ => rfl) (fun _ _ h => am_bd1 h)
set_option maxRecDepth 100000 in
theorem ek_17 : am_clm 17 := am_clm_of (n := 39) (f := cd_17) (by decide +kernel) (fun _ => rfl) (fun _ _ h => am_bd1 h)
set_option maxRecDepth 100000 in
theorem ek_18 : am_clm 18 := am_clm_of (n := 8) (f := cd_18) (by decide +kernel) (fun _ => rfl) (fun _ _ h => am_bd1 h)
set_option maxRecDepth 100000 in
theorem ek_19 : am_clm 19 := am_clm_of (n := 29) (f := cd_19) (by decide +kernel) (fun _ => rfl) (fun _ _ h => am_bd1 h)
set_option maxRecDepth 100000 in
theorem ek_20 : am_clm 20 := am_clm_of (n := 14) (f := cd_20) (by decide +kernel) (fun _ => rfl) (fun _ _ h => am_bd1 h)
set_option maxRecDepth 100000 in
theorem ek_21 : am_clm 21 := am_clm_of (n := 120) (f := cd_21) (by decide +kernel) (fun _ => rfl) (fun _ _ h => am_bd1 h)
set_option maxRecDepth 100000 in
theorem ek_22 : am_clm 22 := am_clm_of (n := 15) (f := cd_22) (by decide +kernel) (fun _ => rfl) (fun _ _ h => am_bd1 h)
set_option maxRecDepth 100000 in
theorem ek_23 : am_clm 23 := am_clm_of (n := 6) (f := cd_23) (by decide +kernel) (fun _ => rfl) (fun _ _ h => am_bd1 h)
set_option maxRecDepth 100000 in
theorem ek_24 : am_clm 24 := am_clm_of (n := 6) (f := cd_24) (by decide +kernel) (fun _ => rfl) (fun _ _ h => am_bd1 h)
set_option maxRecDepth 100000 in
theorem ek_25 : am_clm 25 := am_clm_of (n := 6) (f := cd_25) (by decide +kernel) (fun _ => rfl) (fun _ _ h => am_bd1 h)
set_option maxRecDepth 100000 in
theorem ek_26 : am_clm 26 := am_clm_of (n := 11) (f := cd_26) (by decide +kernel) (fun _ => rfl) (fun _ _ h => am_bd1 h)
set_option maxRecDepth 100000 in
theorem ek_27 : am_clm 27 := am_clm_of (n := 11) (f := cd_27) (by decide +kernel) (fun _ => rfl) (fun _ _ h => am_bd1 h)
set_option maxRecDepth 100000 in
theorem ek_28 : am_clm 28 := am_clm_of (n := 20) (f := cd_28) (by decide +kernel) (fun _ => rfl) (fun _ _ h => am_bd1 h)
set_option maxRecDepth 100000 in
theorem ek_29 : am_clm 29 := am_clm_of (n := 122) (f := cd_29) (by decide +kernel) (fun _ => rfl) (fun _ _ h => am_bd1 h)
set_option maxRecDepth 100000 in
theorem ek_30 : am_clm 30 := am_clm_of (n := 23) (f := cd_30) (by decide +kernel) (fun _ => rfl) (fun _ _ h => am_bd1 h)
set_option maxRecDepth 100000 in
theorem ek_31 : am_clm 31 := am_clm_of (n := 109) (f := cd_31) (by decide +kernel) (fun _ => rfl) (fun _ _ h => am_bd1 h)
set_option maxRecDepth 100000 in
theorem ek_32 : am_clm 32 := am_clm_of (n := 59) (f := cd_32) (by decide +kernel) (fun _ => rfl) (fun _ _ h => am_bd1 h)
set_option maxRecDepth 100000 in
theorem ek_33 : am_clm 33 := am_clm_of (n := 78) (f := cd_33) (by decide +kernel) (fun _ => rfl) (fun _ _ h => am_bd1 h)
set_option maxRecDepth 100000 in
theorem ek_34 : am_clm 34 := am_clm_of (n := 45) (f := cd_34) (by decide +kernel) (fun _ => rfl) (fun _ _ h => am_bd1 h)
set_option maxRecDepth 100000 in
theorem ek_35 : am_clm 35 := am_clm_of (n := 146) (f := cd_35) (by decide +kernel) (fun _ => rfl) (fun _ _ h => am_bd1 h)
set_option maxRecDepth 100000 in
theorem ek_36 : am_clm 36 := am_clm_of (n := 13) (f := cd_36) (by decide +kernel) (fun _ => rfl) (fun _ _ h => am_bd1 h)
set_option maxRecDepth 100000 in
theorem ek_37 : am_clm 37 := am_clm_of (n := 45) (f := cd_37) (by decide +kernel) (fun _ => rfl) (fun _ _ h => am_bd1 h)
set_option maxRecDepth 100000 in
theorem ek_38 : am_clm 38 := am_clm_of (n := 74) (f := cd_38) (by decide +kernel) (fun _ => rfl) (fun _ _ h => am_bd1 h)
set_option maxRecDepth 100000 in
theorem ek_39 : am_clm 39 := am_clm_of (n := 7) (f := cd_39) (by decide +kernel) (fun _ => rfl) (fun _ _ h => am_bd1 h)
set_option maxRecDepth 100000 in
theorem ek_40 : am_clm 40 := am_clm_of (n := 52) (f := cd_40) (by decide +kernel) (fun _ => rfl) (fun _ _ h => am_bd1 h)
set_option maxRecDepth 100000 in
theorem ek_41 : am_clm 41 := am_clm_of (n := 25) (f := cd_41) (by decide +kernel) (fun _ => rfl) (fun _ _ h => am_bd1 h)
set_option maxRecDepth 100000 in
theorem ek_42 : am_clm 42 := am_clm_of (n := 51) (f := cd_42) (by decide +kernel) (fun _ => rfl) (fun _ _ h => am_bd1 h)
set_option maxRecDepth 100000 in
theorem ek_43 : am_clm 43 := am_clm_of (n := 97) (f := cd_43) (by decide +kernel) (fun _ => rfl) (fun _ _ h => am_bd1 h)
set_option maxRecDepth 100000 in
theorem ek_44 : am_clm 44 := am_clm_of (n := 62) (f := cd_44) (by decide +kernel) (fun _ => rfl) (fun _ _ h => am_bd1 h)
set_option maxRecDepth 100000 in
theorem ek_45 : am_clm 45 := am_clm_of (n := 11) (f := cd_45) (by decide +kernel) (fun _ => rfl) (fun _ _ h => am_bd1 h)
set_option maxRecDepth 100000 in
theorem ek_46 : am_clm 46 := am_clm_of (n := 15) (f := cd_46) (by decide +kernel) (fun _ => rfl) (fun _ _ h => am_bd1 h)
set_option maxRecDepth 100000 in
theorem ek_47 : am_clm 47 := am_clm_of (n := 25) (f := cd_47) (by decide +kernel) (fun _ => rfl) (fun _ _ h => am_bd1 h)
set_option maxRecDepth 100000 in
theorem ek_48 : am_clm 48 := am_clm_of (n := 19) (f := cd_48) (by decide +kernel) (fun _ => rfl) (fun _ _ h => am_bd1 h)
set_option maxRecDepth 100000 in
theorem ek_49 : am_clm 49 := am_clm_of (n := 15) (f := cd_49) (by decide +kernel) (fun _ => rfl) (fun _ _ h => am_bd1 h)
set_option maxRecDepth 100000 in
theorem ek_50 : am_clm 50 := am_clm_of (n := 10) (f := cd_50) (by decide +kernel) (fun _ => rfl) (fun _ _ h => am_bd1 h)
set_option maxRecDepth 100000 in
theorem ek_51 : am_clm 51 := am_clm_of (n := 18) (f := cd_51) (by decide +kernel) (fun _ => rfl) (fun _ _ h => am_bd1 h)
set_option maxRecDepth 100000 in
theorem ek_52 : am_clm 52 := am_clm_of (n := 125) (f := cd_52) (by decide +kernel) (fun _ => rfl) (fun _ _ h => am_bd1 h)
set_option maxRecDepth 100000 in
theorem ek_53 : am_clm 53 := am_clm_of (n := 89) (f := cd_53) (by decide +kernel) (fun _ => rfl) (fun _ _ h => am_bd1 h)
set_option maxRecDepth 100000 in
theorem ek_54 : am_clm 54 := am_clm_of (n := 109) (f := cd_54) (by decide +kernel) (fun _ => rfl) (fun _ _ h => am_bd1 h)
set_option maxRecDepth 100000 in
theorem ek_55 : am_clm 55 := am_clm_of (n := 18) (f := cd_55) (by decide +kernel) (fun _ => rfl) (fun _ _ h => am_bd1 h)
set_option maxRecDepth 100000 in
theorem ek_56 : am_clm 56 := am_clm_of (n := 152) (f := cd_56) (by decide +kernel) (fun _ => rfl) (fun _ _ h => am_bd1 h)
set_option maxRecDepth 100000 in
theorem ek_57 : am_clm 57 := am_clm_of (n := 115) (f := cd_57) (by decide +kernel) (fun _ => rfl) (fun _ _ h => am_bd1 h)
set_option maxRecDepth 100000 in
theorem ek_58 : am_clm 58 := am_clm_of (n := 6) (f := cd_58) (by decide +kernel) (fun _ => rfl) (fun _ _ h => am_bd1 h)
set_option maxRecDepth 100000 in
theorem ek_59 : am_clm 59 := am_clm_of (n := 68) (f := cd_59) (by decide +kernel) (fun _ => rfl) (fun _ _ h => am_bd1 h)
set_option maxRecDepth 100000 in
theorem ek_60 : am_clm 60 := am_clm_of (n := 23) (f := cd_60) (by decide +kernel) (fun _ => rfl) (fun _ _ h => am_bd1 h)
set_option maxRecDepth 100000 in
theorem ek_61 : am_clm 61 := am_clm_of (n := 46) (f := cd_61) (by decide +kernel) (fun _ => rfl) (fun _ _ h => am_bd1 h)
set_option maxRecDepth 100000 in
theorem ek_62 : am_clm 62 := am_clm_of (n := 19) (f := cd_62) (by decide +kernel) (fun _ => rfl) (fun _ _ h => am_bd1 h)
set_option maxRecDepth 100000 in
theorem ek_63 : am_clm 63 := am_clm_of (n := 13) (f := cd_63) (by decide +kernel) (fun _ => rfl) (fun _ _ h => am_bd1 h)
set_option maxRecDepth 100000 in
theorem ek_64 : am_clm 64 := am_clm_of (n := 94) (f := cd_64) (by decide +kernel) (fun _ => rfl) (fun _ _ h => am_bd1 h)
set_option maxRecDepth 100000 in
theorem ek_65 : am_clm 65 := am_clm_of (n := 38) (f := cd_65) (by decide +kernel) (fun _ => rfl) (fun _ _ h => am_bd1 h)
set_option maxRecDepth 100000 in
theorem ek_66 : am_clm 66 := am_clm_of (n := 15) (f := cd_66) (by decide +kernel) (fun _ => rfl) (fun _ _ h => am_bd1 h)
set_option maxRecDepth 100000 in
theorem ek_67 : am_clm 67 := am_clm_of (n := 93) (f := cd_67) (by decide +kernel) (fun _ => rfl) (fun _ _ h => am_bd1 h)
set_option maxRecDepth 100000 in
theorem ek_68 : am_clm 68 := am_clm_of (n := 68) (f := cd_68) (by decide +kernel) (fun _ => rfl) (fun _ _ h => am_bd1 h)
set_option maxRecDepth 100000 in
theorem ek_69 : am_clm 69 := am_clm_of (n := 88) (f := cd_69) (by decide +kernel) (fun _ => rfl) (fun _ _ h => am_bd1 h)
set_option maxRecDepth 100000 in
theorem ek_70 : am_clm 70 := am_clm_of (n := 30) (f := cd_70) (by decide +kernel) (fun _ => rfl) (fun _ _ h => am_bd1 h)
set_option maxRecDepth 100000 in
theorem ek_71 : am_clm 71 := am_clm_of (n := 117) (f := cd_71) (by decide +kernel) (fun _ => rfl) (fun _ _ h => am_bd1 h)
set_option maxRecDepth 100000 in
theorem ek_72 : am_clm 72 := am_clm_of (n := 143) (f := cd_72) (by decide +kernel) (fun _ => rfl) (fun _ _ h => am_bd1 h)
set_option maxRecDepth 100000 in
theorem ek_73 : am_clm 73 := am_clm_of (n := 79) (f := cd_73) (by decide +kernel) (fun _ => rfl) (fun _ _ h => am_bd1 h)
set_option maxRecDepth 100000 in
theorem ek_74 : am_clm 74 := am_clm_of (n := 7) (f := cd_74) (by decide +kernel) (fun _ => rfl) (fun _ _ h => am_bd1 h)
set_option maxRecDepth 100000 in
theorem ek_75 : am_clm 75 := am_clm_of (n := 37) (f := cd_75) (by decide +kernel) (fun _ => rfl) (fun _ _ h => am_bd1 h)
set_option maxRecDepth 100000 in
theorem ek_76 : am_clm 76 := am_clm_of (n := 37) (f := cd_76) (by decide +kernel) (fun _ => rfl) (fun _ _ h => am_bd1 h)
set_option maxRecDepth 100000 in
theorem ek_77 : am_clm 77 := am_clm_of (n := 17) (f := cd_77) (by decide +kernel) (fun _ => rfl) (fun _ _ h => am_bd1 h)
set_option maxRecDepth 100000 in
theorem ek_78 : am_clm 78 := am_clm_of (n := 33) (f := cd_78) (by decide +kernel) (fun _ => rfl) (fun _ _ h => am_bd1 h)
set_option maxRecDepth 100000 in
theorem ek_79 : am_clm 79 := am_clm_of (n := 48) (f := cd_79) (by decide +kernel) (fun _ => rfl) (fun _ _ h => am_bd1 h)
set_option maxRecDepth 100000 in
theorem ek_80 : am_clm 80 := am_clm_of (n := 87) (f := cd_80) (by decide +kernel) (fun _ => rfl) (fun _ _ h => am_bd1 h)
set_option maxRecDepth 100000 in
theorem ek_81 : am_clm 81 := am_clm_of (n := 121) (f := cd_81) (by decide +kernel) (fun _ => rfl) (fun _ _ h => am_bd1 h)
set_option maxRecDepth 100000 in
theorem ek_82 : am_clm 82 := am_clm_of (n := 62) (f := cd_82) (by decide +kernel) (fun _ => rfl) (fun _ _ h => am_bd1 h)
set_option maxRecDepth 100000 in
theorem ek_83 : am_clm 83 := am_clm_of (n := 27) (f := cd_83) (by decide +kernel) (fun _ => rfl) (fun _ _ h => am_bd1 h)
set_option maxRecDepth 100000 in
theorem ek_84 : am_clm 84 := am_clm_of (n := 21) (f := cd_84) (by decide +kernel) (fun _ => rfl) (fun _ _ h => am_bd1 h)
set_option maxRecDepth 100000 in
theorem ek_85 : am_clm 85 := am_clm_of (n := 58) (f := cd_85) (by decide +kernel) (fun _ => rfl) (fun _ _ h => am_bd1 h)
set_option maxRecDepth 100000 in
theorem ek_86 : am_clm 86 := am_clm_of (n := 32) (f := cd_86) (by decide +kernel) (fun _ => rfl) (fun _ _ h => am_bd1 h)
set_option maxRecDepth 100000 in
theorem ek_87 : am_clm 87 := am_clm_of (n := 76) (f := cd_87) (by decide +kernel) (fun _ => rfl) (fun _ _ h => am_bd1 h)
set_option maxRecDepth 100000 in
theorem ek_88 : am_clm 88 := am_clm_of (n := 6) (f := cd_88) (by decide +kernel) (fun _ => rfl) (fun _ _ h => am_bd1 h)
set_option maxRecDepth 100000 in
theorem ek_89 : am_clm 89 := am_clm_of (n := 17) (f := cd_89) (by decide +kernel) (fun _ => rfl) (fun _ _ h => am_bd1 h)
set_option maxRecDepth 100000 in
theorem ek_90 : am_clm 90 := am_clm_of (n := 63) (f := cd_90) (by decide +kernel) (fun _ => rfl) (fun _ _ h => am_bd1 h)
