/-! A whole run of the small machine is a run of the model's: the walk of all methods at once. -/
section AMU
variable {p : Program} {l : Launch} {e : Env} {R : Room} {s : State} {m : MethodId} {args : Array Value} {below : List Frame} {meth : Method} {c : Code} {H : Heap} {locs : List Loc} {cells slots : Nat} {Q : State → Prop}
variable {pc : Nat} {ls : Array Slot} {G : am_G} {A : am_H} {d o mc ms : Nat}
theorem am_locs_or {locs' : List Loc} (hloc : ∀ q ∈ locs, G.2.1 ≤ q.base) (h : ∀ q ∈ locs', q ∈ locs ∨ G.2.1 ≤ q.base) : ∀ q ∈ locs', G.2.1 ≤ q.base := fun q hq => (h q hq).elim (hloc q) id
theorem am_step_sim (hB : am_B l p s m args meth c R G d o mc ms) (hI : am_I s G A H) {L : am_L} (hl : am_hl (am_mp G) ls (am_max o) L) {i : Instr} {len : Nat} {S : List Value} {f : am_F} (hc : am_code o pc = some (i, len)) (h : am_step d o i len pc L S A = some f)
    (hloc : ∀ q ∈ locs, G.2.1 ≤ q.base) (hcr : cells + (f.2.2.2.length - A.length) ≤ R.cells) (hsr : slots + (am_sl f.2.2.2 - am_sl A) ≤ R.slots)
    (k : ∀ H' ls' locs', am_I s G f.2.2.2 H' → am_hl (am_mp G) ls' (am_max o) f.2.1 → (∀ q ∈ locs', G.2.1 ≤ q.base) → W p l e R s m args below meth c H' locs' (cells + (f.2.2.2.length - A.length)) (slots + (am_sl f.2.2.2 - am_sl A)) Q (F0 m f.1 ls' (f.2.2.1.map (am_v (am_mp G))))) :
    W p l e R s m args below meth c H locs cells slots Q (F0 m pc ls (S.map (am_v (am_mp G)))) := by
  obtain ⟨hd, hk⟩ := am_code_ok hc
  simp only [am_chk, Bool.and_eq_true] at hk
  obtain ⟨k1, k2, k3, k4, k5⟩ := hk
  have hBB := hB
  obtain ⟨hx, hb, hml, hht, hr, hlocks, hini, hown, hts, hR, hst, hntr, hhw⟩ := hB
  have k0 : f.2.2.2 = A → ∀ ls' locs', am_hl (am_mp G) ls' (am_max o) f.2.1 → (∀ q ∈ locs', G.2.1 ≤ q.base) → W p l e R s m args below meth c H locs' cells slots Q (F0 m f.1 ls' (f.2.2.1.map (am_v (am_mp G)))) := fun e0 ls' locs' h1 h2 => by
    have h3 := k H ls' locs' (by rw [e0]; exact hI) h1 h2
    rw [e0, Nat.sub_self, Nat.sub_self, Nat.add_zero, Nat.add_zero] at h3
    exact h3
  have kS : f.2.2.2.length = A.length → am_sl f.2.2.2 = am_sl A → ∀ H' ls' locs', am_I s G f.2.2.2 H' → am_hl (am_mp G) ls' (am_max o) f.2.1 → (∀ q ∈ locs', G.2.1 ≤ q.base) → W p l e R s m args below meth c H' locs' cells slots Q (F0 m f.1 ls' (f.2.2.1.map (am_v (am_mp G)))) := fun e0 e1 H' ls' locs' h1 h2 h3 => by
    have h4 := k H' ls' locs' h1 h2 h3
    rw [e0, e1, Nat.sub_self, Nat.sub_self, Nat.add_zero, Nat.add_zero] at h4
    exact h4
  cases i with
  | getfield x =>
    obtain rfl : len = 3 := by simpa [am_iok] using k1
    obtain ⟨S', h1, rfl⟩ := Option.map_eq_some_iff.mp h
    exact am_getf_sim hx hb hts hown hI h1 hd (k0 rfl ls locs hl hloc)
  | putfield x =>
    obtain rfl : len = 3 := by simpa [am_iok] using k1
    obtain ⟨⟨S', A'⟩, h1, rfl⟩ := Option.map_eq_some_iff.mp h
    obtain ⟨v, a, q, vs, -, -, g1, -, -, -, g2⟩ := am_putf_inv h1
    exact am_putf_sim hx hb hts hown hI hini h1 k5 hd (fun H' locs' h2 h3 => kS (by show A'.length = _; rw [g2]; simp) (by show am_sl A' = _; rw [g2]; exact am_sl_set g1 (by simp)) H' ls locs' h2 hl (am_locs_or hloc h3))
  | getstatic x =>
    obtain rfl : len = 3 := by simpa [am_iok] using k1
    obtain ⟨v, h1, rfl⟩ := Option.map_eq_some_iff.mp h
    exact am_gets_sim hBB hI h1 hd (k0 rfl ls locs hl hloc)
  | ldc x =>
    obtain rfl : len = 2 := by simpa [am_iok] using k1
    obtain ⟨v, h1, rfl⟩ := Option.map_eq_some_iff.mp h
    exact am_con_sim hBB hI (Or.inl ⟨rfl, rfl⟩) h1 k2 hd (k0 rfl ls locs hl hloc)
  | ldc_w x => cases k2
  | ldc2_w x =>
    obtain rfl : len = 3 := by simpa [am_iok] using k1
    obtain ⟨v, h1, rfl⟩ := Option.map_eq_some_iff.mp h
    exact am_con_sim hBB hI (Or.inr ⟨rfl, rfl⟩) h1 k2 hd (k0 rfl ls locs hl hloc)
  | new x =>
    obtain rfl : len = 3 := by simpa [am_iok] using k1
    obtain ⟨kd, h1, rfl⟩ := Option.map_eq_some_iff.mp h
    have e1 : (A ++ [(kd, am_def kd)]).length - A.length = 1 := by simp
    have e2 : am_sl (A ++ [(kd, am_def kd)]) - am_sl A = (am_def kd).length := by rw [am_sl_app]; simp [am_sl]
    dsimp only at hcr hsr
    rw [e1] at hcr
    rw [e2] at hsr
    refine am_new_sim hx hb hts hown hI h1 hd hcr hsr (fun H' h2 => ?_)
    have h3 := k H' ls locs h2 hl hloc
    dsimp only at h3
    rw [e1, e2] at h3
    exact h3
  | newarray t =>
    obtain rfl : len = 2 := by simpa [am_iok] using k1
    obtain ⟨⟨S', A'⟩, h1, rfl⟩ := Option.map_eq_some_iff.mp h
    have g := am_newa_gr h1
    exact am_newa_sim hx hb hts hI (of_decide_eq_true k4) h1 hd (n1 := A'.length - A.length) (n2 := am_sl A' - am_sl A) (by have := g.1; dsimp only at this ⊢; omega) (by have := g.2; dsimp only at this ⊢; omega) hcr hsr (fun H' h2 => k H' ls locs h2 hl hloc)
  | anewarray x =>
    obtain rfl : len = 3 := by simpa [am_iok] using k1
    obtain ⟨kd, h0, h9⟩ := Option.bind_eq_some_iff.mp h
    obtain ⟨⟨S', A'⟩, h1, rfl⟩ := Option.map_eq_some_iff.mp h9
    have g := am_newa_gr h1
    exact am_anew_sim hx hb hts hown hI h0 h1 hd (n1 := A'.length - A.length) (n2 := am_sl A' - am_sl A) (by have := g.1; dsimp only at this ⊢; omega) (by have := g.2; dsimp only at this ⊢; omega) hcr hsr (fun H' h2 => k H' ls locs h2 hl hloc)
  | arraylength =>
    obtain rfl : len = 1 := by simpa [am_iok] using k1
    obtain ⟨S', h1, rfl⟩ := Option.map_eq_some_iff.mp h
    exact am_alen_sim hx hb hI h1 hd (k0 rfl ls locs hl hloc)
  | iaload =>
    obtain rfl : len = 1 := by simpa [am_iok] using k1
    obtain ⟨S', h1, rfl⟩ := Option.map_eq_some_iff.mp h
    exact am_ald_sim hx hb hI (Or.inl ⟨rfl, rfl⟩) h1 hd (k0 rfl ls locs hl hloc)
  | laload =>
    obtain rfl : len = 1 := by simpa [am_iok] using k1
    obtain ⟨S', h1, rfl⟩ := Option.map_eq_some_iff.mp h
    exact am_ald_sim hx hb hI (Or.inr (Or.inl ⟨rfl, rfl⟩)) h1 hd (k0 rfl ls locs hl hloc)
  | caload =>
    obtain rfl : len = 1 := by simpa [am_iok] using k1
    obtain ⟨S', h1, rfl⟩ := Option.map_eq_some_iff.mp h
    exact am_ald_sim hx hb hI (Or.inr (Or.inr (Or.inl ⟨rfl, rfl⟩))) h1 hd (k0 rfl ls locs hl hloc)
  | baload =>
    obtain rfl : len = 1 := by simpa [am_iok] using k1
    obtain ⟨S', h1, rfl⟩ := Option.map_eq_some_iff.mp h
    exact am_ald_sim hx hb hI (Or.inr (Or.inr (Or.inr (Or.inl ⟨rfl, rfl⟩)))) h1 hd (k0 rfl ls locs hl hloc)
  | aaload =>
    obtain rfl : len = 1 := by simpa [am_iok] using k1
    obtain ⟨S', h1, rfl⟩ := Option.map_eq_some_iff.mp h
    exact am_ald_sim hx hb hI (Or.inr (Or.inr (Or.inr (Or.inr ⟨rfl, rfl⟩)))) h1 hd (k0 rfl ls locs hl hloc)
  | iastore =>
    obtain rfl : len = 1 := by simpa [am_iok] using k1
    obtain ⟨⟨S', A'⟩, h1, rfl⟩ := Option.map_eq_some_iff.mp h
    have g := am_ast_same h1
    exact am_ast_sim hx hb hI (Or.inl ⟨rfl, rfl, rfl⟩) h1 hd (fun H' locs' h2 h3 => kS g.1 g.2 H' ls locs' h2 hl (am_locs_or hloc h3))
  | castore =>
    obtain rfl : len = 1 := by simpa [am_iok] using k1
    obtain ⟨⟨S', A'⟩, h1, rfl⟩ := Option.map_eq_some_iff.mp h
    have g := am_ast_same h1
    exact am_ast_sim hx hb hI (Or.inr (Or.inl ⟨rfl, rfl, rfl⟩)) h1 hd (fun H' locs' h2 h3 => kS g.1 g.2 H' ls locs' h2 hl (am_locs_or hloc h3))
  | bastore =>
    obtain rfl : len = 1 := by simpa [am_iok] using k1
    obtain ⟨⟨S', A'⟩, h1, rfl⟩ := Option.map_eq_some_iff.mp h
    have g := am_ast_same h1
    exact am_ast_sim hx hb hI (Or.inr (Or.inr ⟨rfl, rfl, rfl⟩)) h1 hd (fun H' locs' h2 h3 => kS g.1 g.2 H' ls locs' h2 hl (am_locs_or hloc h3))
  | lastore =>
    obtain rfl : len = 1 := by simpa [am_iok] using k1
    obtain ⟨⟨S', A'⟩, h1, rfl⟩ := Option.map_eq_some_iff.mp h
    have g := am_lst_same h1
    exact am_lst_sim hx hb hI h1 hd (fun H' locs' h2 h3 => kS g.1 g.2 H' ls locs' h2 hl (am_locs_or hloc h3))
  | aastore =>
    obtain rfl : len = 1 := by simpa [am_iok] using k1
    obtain ⟨⟨S', A'⟩, h1, rfl⟩ := Option.map_eq_some_iff.mp h
    have g := am_rst_same h1
    exact am_rst_sim hx hb hI h1 hd (fun H' locs' h2 h3 => kS g.1 g.2 H' ls locs' h2 hl (am_locs_or hloc h3))
  | invokespecial x =>
    obtain rfl : len = 3 := by simpa [am_iok] using k1
    obtain ⟨z, h0, h9⟩ := Option.bind_eq_some_iff.mp h
    obtain ⟨⟨S', A'⟩, h1, rfl⟩ := Option.map_eq_some_iff.mp h9
    obtain ⟨hz9, h1⟩ := am_bl_inv h1
    have hz9 := of_decide_eq_true hz9
    have g := am_blt_same h1
    have hz : ¬ (z.1 = 1002 ∨ z.1 = 1003 ∨ z.1 = 1004) := by omega
    exact am_blt_sim hBB hI hl.1 (by omega) (by omega) hloc (Or.inl rfl) h0 (fun _ => rfl) (fun h9 => absurd h9 hz) h1 hd (fun H' locs' h2 h3 => kS g.1 g.2 H' ls locs' h2 hl h3)
  | invokestatic x =>
    obtain rfl : len = 3 := by simpa [am_iok] using k1
    obtain ⟨z, h0, h9⟩ := Option.bind_eq_some_iff.mp h
    obtain ⟨⟨S', A'⟩, h1, rfl⟩ := Option.map_eq_some_iff.mp h9
    obtain ⟨hz9, h1⟩ := am_bl_inv h1
    have hz9 := of_decide_eq_true hz9
    have g := am_blt_same h1
    have hz : ¬ (z.1 = 1000 ∨ z.1 = 1001) := by omega
    exact am_blt_sim hBB hI hl.1 (by omega) (by omega) hloc (Or.inr rfl) h0 (fun h9 => absurd h9 hz) (fun _ => rfl) h1 hd (fun H' locs' h2 h3 => kS g.1 g.2 H' ls locs' h2 hl h3)
  | goto a => have h : (am_jmp (.goto a) pc S).map (fun q => (q.1, L, q.2, A)) = some f := h
              obtain ⟨⟨pc', S'⟩, h1, rfl⟩ := Option.map_eq_some_iff.mp h
              exact am_jmp_sim hx hb h1 k1 hd (k0 rfl ls locs hl hloc)
  | ifCond a b => obtain ⟨⟨pc', S'⟩, h1, rfl⟩ := Option.map_eq_some_iff.mp h
                  exact am_jmp_sim hx hb h1 k1 hd (k0 rfl ls locs hl hloc)
  | if_icmp a b => obtain ⟨⟨pc', S'⟩, h1, rfl⟩ := Option.map_eq_some_iff.mp h
                   exact am_jmp_sim hx hb h1 k1 hd (k0 rfl ls locs hl hloc)
  | ifnull a => obtain ⟨⟨pc', S'⟩, h1, rfl⟩ := Option.map_eq_some_iff.mp h
                exact am_jmp_sim hx hb h1 k1 hd (k0 rfl ls locs hl hloc)
  | ifnonnull a => obtain ⟨⟨pc', S'⟩, h1, rfl⟩ := Option.map_eq_some_iff.mp h
                   exact am_jmp_sim hx hb h1 k1 hd (k0 rfl ls locs hl hloc)
  | lookupswitch a b => obtain ⟨⟨pc', S'⟩, h1, rfl⟩ := Option.map_eq_some_iff.mp h
                        exact am_jmp_sim hx hb h1 k1 hd (k0 rfl ls locs hl hloc)
  | tableswitch a b a2 b2 => obtain ⟨⟨pc', S'⟩, h1, rfl⟩ := Option.map_eq_some_iff.mp h
                             exact am_jmp_sim hx hb h1 k1 hd (k0 rfl ls locs hl hloc)
  | _ => simp only [am_step] at h
         obtain ⟨⟨L', S'⟩, h1, rfl⟩ := Option.map_eq_some_iff.mp h
         exact am_lop_sim hx hb h1 k1 hd hl (fun ls' h2 => k0 rfl ls' locs h2 hloc)
end AMU
