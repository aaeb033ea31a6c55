/-! The reference's category is the class's. -/
theorem ct_ir_sh {l h l' h' : Nat → Nat} {W g : Nat} : ∀ k j f, (∀ i, j ≤ i → i < j + k → l' (g + i) = l i ∧ h' (g + i) = h i) → ct_ir l' h' W k (g + j) f = ct_ir l h W k j f
  | 0, j, f, _ => rfl
  | k + 1, j, f, q => by
    have := q j (by omega) (by omega)
    rw [ct_ir, ct_ir, this.1, this.2, Nat.add_assoc, ct_ir_sh k (j + 1) _ (fun i h1 h2 => q i (by omega) (by omega))]
theorem ct_in_sh {l h l' h' : Nat → Nat} {v k o m g a b : Nat} (q : ∀ i, a ≤ i → i < b → l' (g + i) = l i ∧ h' (g + i) = h i) : ct_in v k o m l' h' (g + a) (g + b) = ct_in v k o m l h a b := by
  unfold ct_in
  rw [show g + b - (g + a) = b - a by omega, ct_ir_sh (b - a) a false (fun i h1 h2 => q i h1 (by omega))]
theorem rf_cl_ct {S : rg} {v k g : Nat} {jn H : Nat → Bool} : ∀ q j al an, (∀ i, j ≤ i → i < j + q → jn (g + i) = !rg_g S i ∧ H (g + i) = ct_rel S v k i) → ((rf_cl jn H q (g + j) al an).2 || (rf_cl jn H q (g + j) al an).1) = (an || ct_cond S v k q j al)
  | 0, j, al, an, _ => rfl
  | q + 1, j, al, an, h => by
    have h1 := h j (by omega) (by omega)
    rw [rf_cl, ct_cond, Nat.add_assoc, rf_cl_ct q (j + 1) _ _ (fun i a b => h i (by omega) (by omega)), h1.1, h1.2]
    cases hg : rg_g S j <;> cases al <;> cases an <;> simp
theorem rf_cc_ct {S : rg} {v k g : Nat} {at9 mn : Nat → Nat} {jn H : Nat → Bool} (ha : ∀ c, c < 5 → at9 c = (if rg_hr S c = true then g + rg_f S c else 0) ∧ mn c = (if rg_hr S c = true then rg_e S c - rg_f S c else 0)) (hj : ∀ c i, c < 5 → rg_f S c ≤ i → i < rg_e S c → jn (g + i) = !rg_g S i ∧ H (g + i) = ct_rel S v k i) : ∀ q c, q + c = 5 → rf_cc at9 mn jn H q c = ct_cat S v k q c
  | 0, c, _ => rfl
  | q + 1, c, hq => by
    rw [rf_cc, ct_cat, rf_cc_ct ha hj q (c + 1) (by omega), (ha c (by omega)).1, (ha c (by omega)).2]
    by_cases hr : rg_hr S c = true
    · rw [if_pos hr, if_pos hr]
      have e : rf_cd jn H (rg_e S c - rg_f S c) (g + rg_f S c) = ct_cond S v k (rg_e S c - rg_f S c) (rg_f S c) false := by
        unfold rf_cd
        rw [rf_cl_ct _ _ _ _ (fun i a b => hj c i (by omega) a (by omega))]
        rfl
      rw [e]
      by_cases z : ct_cond S v k (rg_e S c - rg_f S c) (rg_f S c) false = true
      · rw [if_pos z, if_pos ⟨hr, z⟩]
      · rw [if_neg z, if_neg (fun y => z y.2)]
    · rw [if_neg hr, if_neg hr, if_neg (show ¬ rf_cd jn H 0 0 = true by unfold rf_cd rf_cl; decide), if_neg (fun y => hr y.1)]
/-- rules as a set of the reference holds them, within bounds -/
def rs_B (S : rg) : Prop := rg_R S ≤ 48 ∧ rg_G S ≤ 64 ∧ rg_wf S ∧ rg_ok S
theorem rn_catS {d b t k : Nat} {S : rg} {z : Int} {s : rf_S} {A : am_H} (hd : 2 ≤ d) (hk : k ≤ 6) (hz : z.natAbs < 9223372036854775808) (ht : t ≤ 1) (hK : rs_K s S t) (hB : rs_B S) (h : rf A b s) : am_go d 158 [.ref b, .int (Int32.ofNat t), .long (Int64.ofInt z), .int (Int32.ofNat k)] A (.inl (some (.int (Int32.ofNat (ct_cat S z.natAbs k 5 0)))), A) := by
  obtain ⟨hR, hG, hw, hok⟩ := hB
  obtain ⟨⟨h1, h2⟩, h3⟩ := hK
  have hr : ∀ c, rg_hr S c = true ↔ rg_f S c < rg_e S c := fun c => by unfold rg_hr; split <;> simp_all
  have e := rn_catz (d := d) (b := b) (t := t) (k := k) (at9 := fun c => if rg_hr S c = true then 48 * t + rg_f S c else 0) (mn := fun c => if rg_hr S c = true then rg_e S c - rg_f S c else 0) (jn := fun r => !rg_g S (r - 48 * t)) (H := fun r => ct_rel S z.natAbs k (r - 48 * t)) (s := s) (A := A) (z := z) hz (by omega) ht (fun c hc => ⟨(h3 c hc).1, (h3 c hc).2, by
      have := hw.2 c hc
      show (if rg_hr S c = true then 48 * t + rg_f S c else 0) + (if rg_hr S c = true then rg_e S c - rg_f S c else 0) ≤ 144
      by_cases q : rg_hr S c = true
      · have := (hr c).mp q
        rw [if_pos q, if_pos q]
        omega
      · rw [if_neg q, if_neg q]
        omega⟩) (fun c r hc a1 a2 => by
      split at a1
      · next q =>
        rw [if_pos q, if_pos q] at a2
        have := (hr c).mp q
        have := hw.2 c hc
        have e := (h1 (r - 48 * t) (by omega)).2.2.2.1
        rw [show 48 * t + (r - 48 * t) = r by omega] at e
        exact e
      · next q =>
        rw [if_neg q, if_neg q] at a2
        omega) (fun c r hc a1 a2 => by
      split at a1
      · next q =>
        rw [if_pos q, if_pos q] at a2
        have := (hr c).mp q
        have := hw.2 c hc
        have e := h1 (r - 48 * t) (by omega)
        rw [show 48 * t + (r - 48 * t) = r by omega] at e
        have hwr := hw.1 (r - 48 * t) (by omega)
        have g := rn_holds (d := d - 1) (b := b) (r := r) (v := z.natAbs) (k := k) (l := fun q => rg_l S (q - 64 * t)) (t := fun q => rg_h S (q - 64 * t)) (by omega) hk hz e.1 e.2.1 e.2.2.1 (hok.2.2.1 _) (hok.2.2.2.1 _) (by omega) e.2.2.2.2.1 e.2.2.2.2.2 (by omega) (fun q q1 q2 => by
          have f := h2 (q - 64 * t) (by omega)
          rw [show 64 * t + (q - 64 * t) = q by omega] at f
          exact ⟨f.1, f.2, hok.2.2.2.2.2.2.1 _, hok.2.2.2.2.2.2.2 _⟩) h
        have e2 : ct_in z.natAbs k (rg_o S (r - 48 * t)) (rg_m S (r - 48 * t)) (fun q => rg_l S (q - 64 * t)) (fun q => rg_h S (q - 64 * t)) (64 * t + rg_a S (r - 48 * t)) (64 * t + rg_a S (r - 48 * t) + (rg_b S (r - 48 * t) - rg_a S (r - 48 * t))) = ct_in z.natAbs k (rg_o S (r - 48 * t)) (rg_m S (r - 48 * t)) (rg_l S) (rg_h S) (rg_a S (r - 48 * t)) (rg_b S (r - 48 * t)) := by
          rw [show 64 * t + rg_a S (r - 48 * t) + (rg_b S (r - 48 * t) - rg_a S (r - 48 * t)) = 64 * t + rg_b S (r - 48 * t) by omega]
          exact ct_in_sh (fun i _ _ => ⟨by rw [Nat.add_sub_cancel_left], by rw [Nat.add_sub_cancel_left]⟩)
        rw [e2] at g
        exact g
      · next q =>
        rw [if_neg q, if_neg q] at a2
        omega) h
  rw [rf_cc_ct (S := S) (v := z.natAbs) (k := k) (g := 48 * t) (fun c _ => ⟨rfl, rfl⟩) (fun c i _ _ _ => ⟨by rw [Nat.add_sub_cancel_left], by rw [Nat.add_sub_cancel_left]⟩) 5 0 rfl] at e
  exact e
