/-! PluralMessages: its smaller methods. -/
theorem wp_goX {d m : Nat} {as : List Value} {A : am_H} {P : am_H → Nat → Prop} (h : am_wp d m (0, am_ent m as, [], A) (fun q => ∃ x, q.1 = .inr x ∧ P q.2 x)) : ∃ B x, am_go d m as A (.inr x, B) ∧ P B x := by
  obtain ⟨⟨o, B⟩, h1, x, h2, h3⟩ := h
  dsimp only at h2
  subst h2
  exact ⟨B, x, h1, h3⟩
theorem sl_val {x : Int32} (h : x = 0 ∨ x = 1) : sb_slot x = true := by unfold sb_slot; rw [if_pos h]
theorem cm_len {d m0 m1 m2 s0 s1 s2 u0 u1 n a nv : Nat} {f ff : Int32} {cs rs : List Nat} {xs : List sb_vt} {M0 M1 M2 : mg} {z0 z1 z2 : Bool} {S0 S1 S2 : rg} {w0 w1 : List Nat} {A : am_H} (h : cl_J A m0 m1 m2 s0 s1 s2 u0 u1 f cs n a ff rs xs nv M0 M1 M2 z0 z1 z2 S0 S1 S2 w0 w1) : am_go d 12 [.ref 45] A (.inl (some (.int (Int32.ofNat n))), A) := by
  refine wp_go ?_
  refine wp_st 1 (f' := (1, [some (.ref (45))], [.ref (45)], A)) rfl ?_
  refine wp_gf rfl rfl h.oc rfl rfl ?_
  refine wp_gf rfl rfl (show _ = some (1, [.ref 47, .int (Int32.ofNat n), .int (Int32.ofNat a), .int ff]) from h.2.1.1) rfl rfl ?_
  refine wp_rt rfl rfl rfl ?_
  rfl
theorem cm_fault {d m0 m1 m2 s0 s1 s2 u0 u1 n a nv : Nat} {f ff : Int32} {cs rs : List Nat} {xs : List sb_vt} {M0 M1 M2 : mg} {z0 z1 z2 : Bool} {S0 S1 S2 : rg} {w0 w1 : List Nat} {A : am_H} (h : cl_J A m0 m1 m2 s0 s1 s2 u0 u1 f cs n a ff rs xs nv M0 M1 M2 z0 z1 z2 S0 S1 S2 w0 w1) : am_go d 13 [.ref 45] A (.inl (some (.int f)), A) := by
  refine wp_go ?_
  refine wp_st 1 (f' := (1, [some (.ref (45))], [.ref (45)], A)) rfl ?_
  refine wp_gf rfl rfl h.oc rfl rfl ?_
  refine wp_rt rfl rfl rfl ?_
  rfl
theorem cm_size {d m0 m1 m2 s0 s1 s2 u0 u1 n a nv : Nat} {f ff : Int32} {cs rs : List Nat} {xs : List sb_vt} {M0 M1 M2 : mg} {z0 z1 z2 : Bool} {S0 S1 S2 : rg} {w0 w1 : List Nat} {A : am_H} (h : cl_J A m0 m1 m2 s0 s1 s2 u0 u1 f cs n a ff rs xs nv M0 M1 M2 z0 z1 z2 S0 S1 S2 w0 w1) : am_go d 18 [.ref 45] A (.inl (some (.int (Int32.ofNat w1.length))), A) := by
  obtain ⟨cs9, hO⟩ := h.2.2.2.2.2.2.2.2.2.2.2.2.2.2.2.1
  unfold sb_oc at hO
  refine wp_go ?_
  refine wp_st 1 (f' := (1, [some (.ref (45))], [.ref (45)], A)) rfl ?_
  refine wp_gf rfl rfl h.oc rfl rfl ?_
  refine wp_gf rfl rfl hO.1 rfl rfl ?_
  refine wp_rt rfl rfl rfl ?_
  rfl
theorem sb_take_get {cs w : List Nat} {k : Nat} (h : cs.take w.length = w) (hk : k < w.length) : cs.getD k 0 = w.getD k 0 := by
  have h1 : (cs.take w.length)[k]? = w[k]? := by rw [h]
  rw [List.getElem?_take_of_lt hk] at h1
  rw [List.getD_eq_getElem?_getD, List.getD_eq_getElem?_getD, h1]
theorem cm_out {d m0 m1 m2 s0 s1 s2 u0 u1 n a nv : Nat} {f ff : Int32} {cs rs : List Nat} {xs : List sb_vt} {M0 M1 M2 : mg} {z0 z1 z2 : Bool} {S0 S1 S2 : rg} {w0 w1 : List Nat} {A : am_H} {k : Nat} (hk : k < 2147483648) (h : cl_J A m0 m1 m2 s0 s1 s2 u0 u1 f cs n a ff rs xs nv M0 M1 M2 z0 z1 z2 S0 S1 S2 w0 w1) : am_go d 19 [.ref 45, .int (Int32.ofNat k)] A (.inl (some (.int (if k < w1.length then Int32.ofNat (w1.getD k 0) else -1))), A) := by
  obtain ⟨cs9, hO⟩ := h.2.2.2.2.2.2.2.2.2.2.2.2.2.2.2.1
  unfold sb_oc at hO
  have hwl := hO.2.2.2.1
  have hcl := hO.2.2.1
  refine wp_go ?_
  refine wp_st 1 (f' := (1, [some (.ref (45)), some (.int (Int32.ofNat k))], [.int (Int32.ofNat k)], A)) rfl ?_
  refine wp_izF rfl rfl (Int32.ofNat_not_neg (by omega)) ?_
  refine wp_st 2 (f' := (6, [some (.ref (45)), some (.int (Int32.ofNat k))], [.ref (45), .int (Int32.ofNat k)], A)) rfl ?_
  refine wp_gf rfl rfl h.oc rfl rfl ?_
  refine wp_gf rfl rfl hO.1 rfl rfl ?_
  refine wp_if rfl rfl rfl (fun (h1 : (Int32.ofNat (w1.length)) ≤ (Int32.ofNat k)) => ?_) (fun (h1 : ¬ ((Int32.ofNat (w1.length)) ≤ (Int32.ofNat k))) => ?_)
  · skip
    rw [i32_le (by omega) (by omega)] at h1
    refine wp_st 1 (f' := (28, [some (.ref (45)), some (.int (Int32.ofNat k))], [.int ((-1))], A)) rfl ?_
    refine wp_rt rfl rfl rfl ?_
    rw [if_neg (by omega)]
  · skip
    rw [i32_le (by omega) (by omega)] at h1
    refine wp_st 1 (f' := (16, [some (.ref (45)), some (.int (Int32.ofNat k))], [.ref (45)], A)) rfl ?_
    refine wp_gf rfl rfl h.oc rfl rfl ?_
    refine wp_gf rfl rfl hO.1 rfl rfl ?_
    refine wp_st 1 (f' := (23, [some (.ref (45)), some (.int (Int32.ofNat k))], [.int (Int32.ofNat k), .ref (u1 + 1)], A)) rfl ?_
    refine wp_al rfl (Or.inr (Or.inr (Or.inl ⟨rfl, rfl⟩))) rfl hO.2.1 (by omega) (sb_gd 0 (by omega)) rfl ?_
    refine wp_st 1 (f' := (28, [some (.ref (45)), some (.int (Int32.ofNat k))], [.int (Int32.ofNat (cs9.getD k 0))], A)) rfl ?_
    refine wp_rt rfl rfl rfl ?_
    rw [if_pos (by omega), ← sb_take_get hO.2.2.2.2.1 (by omega)]
theorem cm_outn {d m0 m1 m2 s0 s1 s2 u0 u1 n a nv : Nat} {f ff : Int32} {cs rs : List Nat} {xs : List sb_vt} {M0 M1 M2 : mg} {z0 z1 z2 : Bool} {S0 S1 S2 : rg} {w0 w1 : List Nat} {A : am_H} {x : Int32} (hx : x < 0) (h : cl_J A m0 m1 m2 s0 s1 s2 u0 u1 f cs n a ff rs xs nv M0 M1 M2 z0 z1 z2 S0 S1 S2 w0 w1) : am_go d 19 [.ref 45, .int x] A (.inl (some (.int (-1))), A) := by
  refine wp_go ?_
  refine wp_st 1 (f' := (1, [some (.ref (45)), some (.int (x))], [.int (x)], A)) rfl ?_
  refine wp_izT rfl rfl (hx) ?_
  refine wp_st 1 (f' := (28, [some (.ref (45)), some (.int (x))], [.int ((-1))], A)) rfl ?_
  refine wp_rt rfl rfl rfl ?_
  rfl
theorem cm_wipe {d m0 m1 m2 s0 s1 s2 u0 u1 n a nv : Nat} {f ff : Int32} {cs rs : List Nat} {xs : List sb_vt} {M0 M1 M2 : mg} {z0 z1 z2 : Bool} {S0 S1 S2 : rg} {w0 w1 : List Nat} {A : am_H} (h : cl_J A m0 m1 m2 s0 s1 s2 u0 u1 f cs n a ff rs xs nv M0 M1 M2 z0 z1 z2 S0 S1 S2 w0 w1) : ∃ B, am_go d 11 [.ref 45] A (.inl (none), B) ∧ cl_J B m0 m1 m2 s0 s1 s2 u0 u1 f cs (0) a ff rs xs nv M0 M1 M2 z0 z1 z2 S0 S1 S2 w0 w1 ∧ cl_F A B 0 := by
  refine wp_goE ?_
  refine wp_st 1 (f' := (1, [some (.ref (45))], [.ref (45)], A)) rfl ?_
  refine wp_gf rfl rfl h.oc rfl rfl ?_
  refine wp_st 1 (f' := (5, [some (.ref (45))], [.int (Int32.ofNat 0), .ref (46)], A)) rfl ?_
  obtain ⟨A1, e1⟩ : ∃ B, B = A.set 46 (sb_tc 46 0 a ff) := ⟨_, rfl⟩
  refine wp_pf (A' := A1) rfl rfl (show _ = some (1, [.ref 47, .int (Int32.ofNat n), .int (Int32.ofNat a), .int ff]) from h.2.1.1) rfl rfl rfl rfl e1.symm ?_
  obtain ⟨t1, t2, t3, t4, t5, t6, t7⟩ := h.2.1
  have hT : sb_T A1 46 cs 0 a ff := by rw [e1]; exact ⟨sb_ss t1, sb_so (by omega) t2, t3, by omega, t5, t6, t7⟩
  have hf : sb_fr A A1 46 48 := (sb_fr.refl A 46 48).set e1 t1 rfl (by omega) (by omega)
  refine wp_rt rfl rfl rfl ?_
  exact ⟨rfl, h.text hT hf, cl_F.fr hf (by omega) (by omega)⟩
/-- whether a word is typed: its characters, and there is room -/
def cl_ty (n : Nat) (w : Int32) : Bool := if sb_all 32 126 (sb_bl w 4) = true then (if n + (sb_bl w 4).length ≤ 120 then true else false) else false
def cl_tc (cs : List Nat) (n : Nat) (w : Int32) : List Nat := bif cl_ty n w then sb_plc cs n (sb_bl w 4) else cs
def cl_tn (n : Nat) (w : Int32) : Nat := bif cl_ty n w then n + (sb_bl w 4).length else n
theorem cm_type {d m0 m1 m2 s0 s1 s2 u0 u1 n a nv : Nat} {f ff : Int32} {cs rs : List Nat} {xs : List sb_vt} {M0 M1 M2 : mg} {z0 z1 z2 : Bool} {S0 S1 S2 : rg} {w0 w1 : List Nat} {A : am_H} {w : Int32} (hd : 1 ≤ d) (h : cl_J A m0 m1 m2 s0 s1 s2 u0 u1 f cs n a ff rs xs nv M0 M1 M2 z0 z1 z2 S0 S1 S2 w0 w1) : ∃ B, am_go d 8 [.ref 45, .int w] A (.inl (some (.int (sb_i (cl_ty n w)))), B) ∧ cl_J B m0 m1 m2 s0 s1 s2 u0 u1 f (cl_tc cs n w) (cl_tn n w) a ff rs xs nv M0 M1 M2 z0 z1 z2 S0 S1 S2 w0 w1 ∧ cl_F A B 0 := by
  refine wp_goE ?_
  refine wp_st 3 (f' := (5, [some (.ref (45)), some (.int (w)), none], [.int (Int32.ofNat 126), .int (Int32.ofNat 32), .int (w)], A)) rfl ?_
  by_cases hall : sb_all 32 126 (sb_bl w 4) = true
  · skip
    refine wp_cs (n := 0) (A' := A) (v := some (.int (sb_fp 0 (sb_bl w 4)))) rfl rfl rfl (by omega) (by have e := pb_go (d := d - 1) (lo := 32) (hi := 126) (w := w) (A := A) (by omega) (by omega); rw [hall] at e; exact e) rfl ?_
    show am_wp d 8 (8, [some (.ref (45)), some (.int (w)), none], [.int (sb_fp 0 (sb_bl w 4))], A) _
    refine wp_st 3 (f' := (11, [some (.ref (45)), some (.int (w)), some (.int (sb_fp 0 (sb_bl w 4)))], [.int ((-1)), .int (sb_fp 0 (sb_bl w 4))], A)) rfl ?_
    refine wp_ifF rfl rfl (by rw [(sb_fp_N (sb_bl_len w 4) (sb_all_in hall)).1]; exact i32_neg1 (sb_fp_N (sb_bl_len w 4) (sb_all_in hall)).2) ?_
    refine wp_st 1 (f' := (15, [some (.ref (45)), some (.int (w)), some (.int (sb_fp 0 (sb_bl w 4)))], [.ref (45)], A)) rfl ?_
    refine wp_gf rfl rfl h.oc rfl rfl ?_
    refine wp_st 1 (f' := (19, [some (.ref (45)), some (.int (w)), some (.int (sb_fp 0 (sb_bl w 4)))], [.int (sb_fp 0 (sb_bl w 4)), .ref (46)], A)) rfl ?_
    have hap := tx_app (d := d - 1) (l := sb_bl w 4) (sb_bl_len w 4) (sb_all_in hall) h.2.1
    by_cases hfit : n + (sb_bl w 4).length ≤ 120
    · skip
      obtain ⟨A1, g1, t1, f1⟩ := hap.1 hfit
      have h1 := h.text t1 f1
      refine wp_cv (A' := A1) (v := some (.int (Int32.ofNat 1))) rfl rfl rfl rfl rfl (show _ = some (1, [.ref 47, .int (Int32.ofNat n), .int (Int32.ofNat a), .int ff]) from h.2.1.1) (by omega) (g1) rfl ?_
      show am_wp d 8 (22, [some (.ref (45)), some (.int (w)), some (.int (sb_fp 0 (sb_bl w 4)))], [.int (Int32.ofNat 1)], A1) _
      refine wp_izF rfl rfl (show ¬ ((Int32.ofNat 1) = (Int32.ofNat 0)) from by decide) ?_
      refine wp_st 2 (f' := (30, [some (.ref (45)), some (.int (w)), some (.int (sb_fp 0 (sb_bl w 4)))], [.int (Int32.ofNat 1)], A1)) rfl ?_
      refine wp_rt rfl rfl rfl ?_
      have hty : cl_ty n w = true := by simp [cl_ty, hall, hfit]
      unfold cl_tc cl_tn
      rw [hty]
      exact ⟨rfl, h1, (cl_F.fr f1 (by omega) (by omega))⟩
    · skip
      refine wp_cv (A' := A) (v := some (.int (Int32.ofNat 0))) rfl rfl rfl rfl rfl (show _ = some (1, [.ref 47, .int (Int32.ofNat n), .int (Int32.ofNat a), .int ff]) from h.2.1.1) (by omega) (hap.2 hfit) rfl ?_
      show am_wp d 8 (22, [some (.ref (45)), some (.int (w)), some (.int (sb_fp 0 (sb_bl w 4)))], [.int (Int32.ofNat 0)], A) _
      refine wp_izT rfl rfl (show (Int32.ofNat 0) = (Int32.ofNat 0) from by decide) ?_
      refine wp_st 1 (f' := (30, [some (.ref (45)), some (.int (w)), some (.int (sb_fp 0 (sb_bl w 4)))], [.int (Int32.ofNat 0)], A)) rfl ?_
      refine wp_rt rfl rfl rfl ?_
      have hty : cl_ty n w = false := by simp [cl_ty, hall, hfit]
      unfold cl_tc cl_tn
      rw [hty]
      exact ⟨rfl, h, (cl_F.refl A)⟩
  · skip
    have hal2 : sb_all 32 126 (sb_bl w 4) = false := by simpa using hall
    refine wp_cs (n := 0) (A' := A) (v := some (.int ((-1)))) rfl rfl rfl (by omega) (by have e := pb_go (d := d - 1) (lo := 32) (hi := 126) (w := w) (A := A) (by omega) (by omega); rw [hal2] at e; exact e) rfl ?_
    show am_wp d 8 (8, [some (.ref (45)), some (.int (w)), none], [.int ((-1))], A) _
    refine wp_st 3 (f' := (11, [some (.ref (45)), some (.int (w)), some (.int ((-1)))], [.int ((-1)), .int ((-1))], A)) rfl ?_
    refine wp_ifT rfl rfl (rfl) ?_
    refine wp_st 1 (f' := (30, [some (.ref (45)), some (.int (w)), some (.int ((-1)))], [.int (Int32.ofNat 0)], A)) rfl ?_
    refine wp_rt rfl rfl rfl ?_
    have hty : cl_ty n w = false := by simp [cl_ty, hal2]
    unfold cl_tc cl_tn
    rw [hty]
    exact ⟨rfl, h, (cl_F.refl A)⟩
/-- where a name lies among the values -/
def cl_dx (xs : List sb_vt) (nv : Nat) (nm : Int32) : Option Nat := if sb_pl xs nm nv 0 = -1 then none else some (sb_pl xs nm nv 0).toNatClampNeg
theorem cl_dx_s {xs : List sb_vt} {nv i : Nat} {nm : Int32} (hi : i < 1000) (h : sb_pl xs nm nv 0 = Int32.ofNat i) : cl_dx xs nv nm = some i := by
  unfold cl_dx
  rw [h, if_neg (i32_neg1 (by omega)), Int32.toNatClampNeg_ofNat_of_lt (by omega)]
theorem cl_dx_n {xs : List sb_vt} {nv : Nat} {nm : Int32} (h : sb_pl xs nm nv 0 = -1) : cl_dx xs nv nm = none := by
  unfold cl_dx
  rw [if_pos h]
theorem cm_drop_w {d m0 m1 m2 s0 s1 s2 u0 u1 n a nv : Nat} {f ff : Int32} {cs rs : List Nat} {xs : List sb_vt} {M0 M1 M2 : mg} {z0 z1 z2 : Bool} {S0 S1 S2 : rg} {w0 w1 : List Nat} {A : am_H} {w : Int32} (hd : 2 ≤ d) (h : cl_J A m0 m1 m2 s0 s1 s2 u0 u1 f cs n a ff rs xs nv M0 M1 M2 z0 z1 z2 S0 S1 S2 w0 w1) : am_wp d 14 (0, am_ent 14 [.ref 45, .int w], [], A) (fun q => ∃ ok : Bool, q.1 = .inl (some (.int (sb_i ok))) ∧ ((ok = false ∧ (sb_pn w = -1 ∨ cl_dx xs nv (sb_pn w) = none) ∧ cl_J q.2 m0 m1 m2 s0 s1 s2 u0 u1 f cs n a ff rs xs nv M0 M1 M2 z0 z1 z2 S0 S1 S2 w0 w1) ∨ (ok = true ∧ ∃ i, cl_dx xs nv (sb_pn w) = some i ∧ i < nv ∧ ∃ rs9, cl_J q.2 m0 m1 m2 s0 s1 s2 u0 u1 f cs n a ff (rs9) (sb_sw xs i (nv - 1) sb_v0) (nv - 1) M0 M1 M2 z0 z1 z2 S0 S1 S2 w0 w1)) ∧ cl_F A q.2 0) := by
  have hnv := h.2.2.1.2.2.2.2.1
  refine wp_st 1 (f' := (1, [some (.ref (45)), some (.int (w)), none], [.int (w)], A)) rfl ?_
  by_cases hpn : sb_pn w = -1
  · skip
    refine wp_cs (n := 0) (A' := A) (v := some (.int ((-1)))) rfl rfl rfl (by omega) (by have e := pn_go (d := d - 1) (w := w) (A := A) (by omega); rw [hpn] at e; exact e) rfl ?_
    show am_wp d 14 (4, [some (.ref (45)), some (.int (w)), none], [.int ((-1))], A) _
    refine wp_st 3 (f' := (7, [some (.ref (45)), some (.int (w)), some (.int ((-1)))], [.int ((-1)), .int ((-1))], A)) rfl ?_
    refine wp_ifT rfl rfl (rfl) ?_
    refine wp_st 1 (f' := (26, [some (.ref (45)), some (.int (w)), some (.int ((-1)))], [.int (Int32.ofNat 0)], A)) rfl ?_
    refine wp_rt rfl rfl rfl ?_
    exact ⟨false, rfl, Or.inl ⟨rfl, Or.inl hpn, h⟩, (cl_F.refl A)⟩
  · skip
    refine wp_cs (n := 0) (A' := A) (v := some (.int (sb_pn w))) rfl rfl rfl (by omega) (pn_go (by omega)) rfl ?_
    show am_wp d 14 (4, [some (.ref (45)), some (.int (w)), none], [.int (sb_pn w)], A) _
    refine wp_st 3 (f' := (7, [some (.ref (45)), some (.int (w)), some (.int (sb_pn w))], [.int ((-1)), .int (sb_pn w)], A)) rfl ?_
    refine wp_ifF rfl rfl (hpn) ?_
    refine wp_st 1 (f' := (11, [some (.ref (45)), some (.int (w)), some (.int (sb_pn w))], [.ref (45)], A)) rfl ?_
    refine wp_gf rfl rfl h.oc rfl rfl ?_
    refine wp_st 1 (f' := (15, [some (.ref (45)), some (.int (w)), some (.int (sb_pn w))], [.int (sb_pn w), .ref (48)], A)) rfl ?_
    rcases vl_plx xs (sb_pn w) nv 0 with hpl | ⟨i, hi1, hi2, hpl⟩
    · skip
      refine wp_cv (A' := A) (v := some (.int (Int32.ofNat 0))) rfl rfl rfl rfl rfl (show _ = some (2, [.ref 49, .int (Int32.ofNat nv)]) from h.2.2.1.1) (by omega) (vl_rem0 (by omega) hpl h.2.2.1) rfl ?_
      show am_wp d 14 (18, [some (.ref (45)), some (.int (w)), some (.int (sb_pn w))], [.int (Int32.ofNat 0)], A) _
      refine wp_izT rfl rfl (show (Int32.ofNat 0) = (Int32.ofNat 0) from by decide) ?_
      refine wp_st 1 (f' := (26, [some (.ref (45)), some (.int (w)), some (.int (sb_pn w))], [.int (Int32.ofNat 0)], A)) rfl ?_
      refine wp_rt rfl rfl rfl ?_
      exact ⟨false, rfl, Or.inl ⟨rfl, Or.inr (cl_dx_n hpl), h⟩, (cl_F.refl A)⟩
    · skip
      have hcl : cl_dx xs nv (sb_pn w) = some i := cl_dx_s (by omega) hpl
      obtain ⟨A1, g1, v1, f1⟩ := vl_rem1 (d := d - 1) (by omega) (by omega) hpl h.2.2.1
      have h1 := h.vals v1 f1
      refine wp_cv (A' := A1) (v := some (.int (Int32.ofNat 1))) rfl rfl rfl rfl rfl (show _ = some (2, [.ref 49, .int (Int32.ofNat nv)]) from h.2.2.1.1) (by omega) (g1) rfl ?_
      show am_wp d 14 (18, [some (.ref (45)), some (.int (w)), some (.int (sb_pn w))], [.int (Int32.ofNat 1)], A1) _
      refine wp_izF rfl rfl (show ¬ ((Int32.ofNat 1) = (Int32.ofNat 0)) from by decide) ?_
      refine wp_st 2 (f' := (26, [some (.ref (45)), some (.int (w)), some (.int (sb_pn w))], [.int (Int32.ofNat 1)], A1)) rfl ?_
      refine wp_rt rfl rfl rfl ?_
      exact ⟨true, rfl, Or.inr ⟨rfl, i, hcl, by omega, _, h1⟩, (cl_F.fr f1 (by omega) (by omega))⟩
theorem cm_isn {d : Nat} {y : Int64} {c : Int32} {A : am_H} : am_go d 86 [.long y, .int c] A (.inl (some (.int (sb_i (sb_isn y c)))), A) := by
  refine wp_go ?_
  refine wp_st 1 (f' := (1, [some (.long (y)), none, some (.int (c))], [.int (c)], A)) rfl ?_
  refine wp_iz rfl rfl rfl (fun (h1 : c < (Int32.ofNat 0)) => ?_) (fun (h1 : ¬ (c < (Int32.ofNat 0))) => ?_)
  · skip
    have h1e : c < 0 := h1
    refine wp_st 1 (f' := (31, [some (.long (y)), none, some (.int (c))], [.int (Int32.ofNat 0)], A)) rfl ?_
    refine wp_rt rfl rfl rfl ?_
    rw [show sb_isn y c = false from by simp only [sb_isn, h1e, ↓reduceIte]]
    rfl
  · skip
    have h1e : ¬ c < 0 := h1
    refine wp_st 2 (f' := (7, [some (.long (y)), none, some (.int (c))], [.int (Int32.ofNat 6), .int (c)], A)) rfl ?_
    refine wp_if rfl rfl rfl (fun (h2 : (Int32.ofNat 6) < c) => ?_) (fun (h2 : ¬ ((Int32.ofNat 6) < c)) => ?_)
    · skip
      have h2e : 6 < c := h2
      refine wp_st 1 (f' := (31, [some (.long (y)), none, some (.int (c))], [.int (Int32.ofNat 0)], A)) rfl ?_
      refine wp_rt rfl rfl rfl ?_
      rw [show sb_isn y c = false from by simp only [sb_isn, h1e, h2e, ↓reduceIte]]
      rfl
    · skip
      have h2e : ¬ 6 < c := h2
      refine wp_st 3 (f' := (15, [some (.long (y)), none, some (.int (c))], [.int (lg_cmp y (-1000000000000000))], A)) rfl ?_
      refine wp_iz rfl rfl rfl (fun (h3 : (lg_cmp y (-1000000000000000)) < (Int32.ofNat 0)) => ?_) (fun (h3 : ¬ ((lg_cmp y (-1000000000000000)) < (Int32.ofNat 0))) => ?_)
      · skip
        have h3e : y < -1000000000000000 := (lg_cmp_lt _ _).mp h3
        refine wp_st 1 (f' := (31, [some (.long (y)), none, some (.int (c))], [.int (Int32.ofNat 0)], A)) rfl ?_
        refine wp_rt rfl rfl rfl ?_
        rw [show sb_isn y c = false from by simp only [sb_isn, h1e, h2e, h3e, ↓reduceIte]]
        rfl
      · skip
        have h3e : ¬ y < -1000000000000000 := fun q => h3 ((lg_cmp_lt _ _).mpr q)
        refine wp_st 3 (f' := (23, [some (.long (y)), none, some (.int (c))], [.int (lg_cmp y (1000000000000000))], A)) rfl ?_
        refine wp_iz rfl rfl rfl (fun (h4 : (Int32.ofNat 0) < (lg_cmp y (1000000000000000))) => ?_) (fun (h4 : ¬ ((Int32.ofNat 0) < (lg_cmp y (1000000000000000)))) => ?_)
        · skip
          have h4e : 1000000000000000 < y := (lg_cmp_gt _ _).mp h4
          refine wp_st 1 (f' := (31, [some (.long (y)), none, some (.int (c))], [.int (Int32.ofNat 0)], A)) rfl ?_
          refine wp_rt rfl rfl rfl ?_
          rw [show sb_isn y c = false from by simp only [sb_isn, h1e, h2e, h3e, h4e, ↓reduceIte]]
          rfl
        · skip
          have h4e : ¬ 1000000000000000 < y := fun q => h4 ((lg_cmp_gt _ _).mpr q)
          refine wp_st 2 (f' := (31, [some (.long (y)), none, some (.int (c))], [.int (Int32.ofNat 1)], A)) rfl ?_
          refine wp_rt rfl rfl rfl ?_
          rw [show sb_isn y c = true from by simp only [sb_isn, h1e, h2e, h3e, h4e, ↓reduceIte]]
          rfl
