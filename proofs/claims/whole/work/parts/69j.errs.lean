/-! A fault lies within the text. -/
theorem rd_num_er {cs : List Nat} {n mo a e : Nat} (h : a ≤ n) (hr : rd_num cs n mo a = .error e) : e ≤ n := by
  have h1 := sb_re_le (lo := 48) (hi := 57) (cs := cs) (n := n) (a := a)
  have h2 := h1.2.1 h
  unfold rd_num at hr
  split at hr
  · cases hr; exact h
  split at hr
  · cases hr; omega
  cases hr
theorem rd_name_er {cs : List Nat} {n a e : Nat} (h : a ≤ n) (hr : rd_name cs n a = .error e) : e ≤ n := by
  have h1 := sb_re_le (lo := 97) (hi := 122) (cs := cs) (n := n) (a := a)
  have h2 := h1.2.1 h
  unfold rd_name at hr
  split at hr
  · cases hr; exact h
  split at hr
  · cases hr; omega
  cases hr
theorem rd_sel_er {cs : List Nat} {n a e : Nat} {nu : Bool} (h : a ≤ n) (hr : rd_sel cs n nu a = .error e) : e ≤ n := by
  have h1 := sb_re_le (lo := 97) (hi := 122) (cs := cs) (n := n) (a := a)
  have h2 := h1.2.1 h
  unfold rd_sel at hr
  split at hr
  · next hc =>
    have h3 : a < n := sb_lk_pos (cs := cs) (by omega)
    split at hr
    · next e' he => cases hr; exact rd_num_er (by omega) he
    · cases hr
  split at hr
  · cases hr; exact h
  split at hr
  · cases hr; omega
  cases hr
theorem rd_off_er {cs : List Nat} {n i a e : Nat} {M : mg} (h : a ≤ n) (hr : rd_off cs n i a M = .error e) : e ≤ n := by
  have h1 := sb_re_le (lo := 97) (hi := 122) (cs := cs) (n := n) (a := a)
  have h2 := h1.2.1 h
  unfold rd_off at hr
  split at hr
  · next hc =>
    have h3 : sb_re 97 122 cs n a < n := sb_lk_pos (cs := cs) (by omega)
    split at hr
    · next e' he => cases hr; exact rd_num_er (by omega) he
    · cases hr
  · cases hr
def rd_ine (n : Nat) (inner : Option (Bool → Nat → mg → rd_R)) : Prop := ∀ f, inner = some f → ∀ sg a M e, a ≤ n → f sg a M = .error e → e ≤ n
theorem rd_branch_er {cs : List Nat} {n i a e : Nat} {nu : Bool} {M : mg} {inner : Option (Bool → Nat → mg → rd_R)} (hi : rd_inn n inner) (he : rd_ine n inner) (h : a ≤ n) (hr : rd_branch cs n inner i nu a M = .error e) : e ≤ n := by
  unfold rd_branch at hr
  split at hr
  · next e' hs => cases hr; exact rd_sel_er h hs
  next a1 se hs =>
  have h1 := rd_sel_le h hs
  have h2 := rd_sk_le (cs := cs) (n := n) (a := a1) (by omega)
  split at hr
  · cases hr; exact h2.2
  next h3 =>
  have h4 : rd_sk cs n a1 < n := sb_lk_pos (cs := cs) (by omega)
  split at hr
  · cases hr; exact h2.2
  next f =>
  split at hr
  · next e' hf => cases hr; exact he f rfl _ _ _ _ (by omega) hf
  next a3 M3 hf =>
  have h5 := hi f rfl _ _ _ _ _ (by omega) hf
  split at hr
  · cases hr
  · cases hr; exact h5.2.1
theorem rd_fin_er {cs : List Nat} {n i a e : Nat} {M : mg} (h : a ≤ n) (hr : rd_fin cs n i a M = .error e) : e ≤ n := by
  unfold rd_fin at hr
  split at hr
  · cases hr; exact h
  split at hr
  · cases hr
  · cases hr; exact h
theorem rd_brs_er {cs : List Nat} {n i k : Nat} {inner : Option (Bool → Nat → mg → rd_R)} (hi : rd_inn n inner) (he : rd_ine n inner) : ∀ f a M e, a ≤ n → rd_brs cs n inner i k f a M = .error e → e ≤ n
  | 0, a, M, e, h, hr => rd_fin_er h hr
  | f + 1, a, M, e, h, hr => by
    rw [rd_brs] at hr
    split at hr
    · exact rd_fin_er h hr
    split at hr
    · next e' hb => cases hr; exact rd_branch_er hi he h hb
    next a1 M1 hb =>
    have h1 := rd_branch_le hi h hb
    exact rd_brs_er hi he f a1 M1 e h1.1.2.1 hr
theorem rd_rest_er {cs : List Nat} {n i k a e : Nat} {M : mg} {inner : Option (Bool → Nat → mg → rd_R)} (hi : rd_inn n inner) (he : rd_ine n inner) (h : a ≤ n) (hr : rd_rest cs n inner i k a M = .error e) : e ≤ n := by
  have h1 := rd_sk_le (cs := cs) (n := n) (a := a) h
  unfold rd_rest at hr
  split at hr
  · exact rd_brs_er hi he _ _ _ _ (rd_sk_le (cs := cs) (n := n) (a := rd_sk cs n a) h1.2).2 hr
  split at hr
  · next e' ho => cases hr; exact rd_off_er h1.2 ho
  next a1 M1 ho =>
  have h2 := rd_off_le h1.2 ho
  exact rd_brs_er hi he _ _ _ _ (rd_sk_le (cs := cs) (n := n) (a := a1) h2.2.1).2 hr
theorem rd_typed_er {cs : List Nat} {n a e : Nat} {x : Int32} {M : mg} {inner : Option (Bool → Nat → mg → rd_R)} (hi : rd_inn n inner) (he : rd_ine n inner) (h : a ≤ n) (hr : rd_typed cs n inner x a M = .error e) : e ≤ n := by
  have h1 := sb_re_le (lo := 97) (hi := 122) (cs := cs) (n := n) (a := a)
  have h2 := h1.2.1 h
  have h3 := rd_sk_le (cs := cs) (n := n) (a := sb_re 97 122 cs n a) h2
  unfold rd_typed at hr
  split at hr
  · cases hr; exact h
  split at hr
  · split at hr
    · cases hr
    · cases hr; exact h3.2
  split at hr
  · next h5 =>
    have h6 : rd_sk cs n (sb_re 97 122 cs n a) < n := sb_lk_pos (cs := cs) (by omega)
    exact rd_rest_er hi he (by omega) hr
  · cases hr; exact h3.2
theorem rd_arg_er {cs : List Nat} {n a e : Nat} {M : mg} {inner : Option (Bool → Nat → mg → rd_R)} (hi : rd_inn n inner) (he : rd_ine n inner) (h : a ≤ n) (hr : rd_arg cs n inner a M = .error e) : e ≤ n := by
  have h1 := rd_sk_le (cs := cs) (n := n) (a := a) h
  unfold rd_arg at hr
  split at hr
  · next e' hn => cases hr; exact rd_name_er h1.2 hn
  next a2 x hnm =>
  have h2 := rd_name_le h1.2 hnm
  have h3 := rd_sk_le (cs := cs) (n := n) (a := a2) (by omega)
  split at hr
  · cases hr
  split at hr
  · next h5 =>
    have h6 : rd_sk cs n a2 < n := sb_lk_pos (cs := cs) (by omega)
    exact rd_typed_er hi he (rd_sk_le (cs := cs) (n := n) (a := rd_sk cs n a2 + 1) (by omega)).2 hr
  · cases hr; exact h3.2
theorem rd_loop_er {cs : List Nat} {n : Nat} {dbl top signs : Bool} {inner : Option (Bool → Nat → mg → rd_R)} (hi : rd_inn n inner) (he : rd_ine n inner) : ∀ f a M e, a ≤ n → rd_loop cs n dbl inner top signs f a M = .error e → e ≤ n
  | 0, a, M, e, h, hr => by cases hr
  | f + 1, a, M, e, h, hr => by
    rw [rd_loop] at hr
    split at hr
    · cases hr
    next h1 =>
    split at hr
    · have h2 := rd_apos_le (cs := cs) (M := M) (dbl := dbl) (signs := signs) (show a < n by omega)
      exact rd_loop_er hi he f _ _ e h2.1.2.1 hr
    split at hr
    · split at hr
      · next e' ha => cases hr; exact rd_arg_er hi he (by omega) ha
      next a1 M1 ha =>
      have h2 := rd_arg_le hi (by omega) ha
      exact rd_loop_er hi he f _ _ e h2.1.2.1 hr
    · exact rd_loop_er hi he f _ _ e (by omega) hr
theorem rd_msg_er {cs : List Nat} {n : Nat} {dbl : Bool} : ∀ D top signs a M e, a ≤ n → rd_msg cs n dbl D top signs a M = .error e → e ≤ n
  | 0, top, signs, a, M, e, h, hr => rd_loop_er (fun f hf => by cases hf) (fun f hf => by cases hf) 120 a M e h hr
  | D + 1, top, signs, a, M, e, h, hr => rd_loop_er (fun f hf sg a M a' M' h hr => by cases hf; exact rd_msg_le D false sg a M a' M' h hr) (fun f hf sg a M e h hr => by cases hf; exact rd_msg_er D false sg a M e h hr) 120 a M e h hr
theorem ru_range_er {cs : List Nat} {n a e : Nat} {S : rg} (h : a ≤ n) (hr : ru_range cs n a S = .error e) : e ≤ n := by
  have h1 := rd_sk_le (cs := cs) (n := n) (a := a) h
  unfold ru_range at hr
  split at hr
  · next e' he => cases hr; exact rd_num_er h1.2 he
  next a2 l hl =>
  have h2 := rd_num_le (by omega) hl
  have h3 := rd_sk_le (cs := cs) (n := n) (a := a2) (by omega)
  split at hr
  · next h5 =>
    have h9 : rd_sk cs n a2 < n := sb_lk_pos (cs := cs) (by omega)
    split at hr
    · next h6 =>
      have h7 : rd_sk cs n a2 + 1 < n := sb_lk_pos (cs := cs) (by omega)
      have h8 := rd_sk_le (cs := cs) (n := n) (a := rd_sk cs n a2 + 1 + 1) (by omega)
      split at hr
      · next e' he => cases hr; exact rd_num_er h8.2 he
      split at hr
      · cases hr; exact h8.2
      cases hr
    · cases hr; omega
  · cases hr
theorem ru_mod_er {cs : List Nat} {n a e : Nat} (h : a ≤ n) (hr : ru_mod cs n a = .error e) : e ≤ n := by
  have h1 := rd_sk_le (cs := cs) (n := n) (a := a) h
  unfold ru_mod at hr
  split at hr
  · next e' he => cases hr; exact rd_num_er h1.2 he
  split at hr
  · cases hr; exact h1.2
  cases hr
theorem ru_opnd_er {cs : List Nat} {n a e : Nat} (h : a ≤ n) (hr : ru_opnd cs n a = .error e) : e ≤ n := by
  unfold ru_opnd at hr
  split at hr
  · split at hr
    · cases hr; exact h
    · cases hr
  · cases hr; exact h
theorem ru_rngs_er {cs : List Nat} {n : Nat} : ∀ k a S e, a ≤ n → ru_rngs cs n k a S = .error e → e ≤ n
  | 0, a, S, e, h, hr => by cases hr; exact h
  | k + 1, a, S, e, h, hr => by
    rw [ru_rngs] at hr
    split at hr
    · next e' he => cases hr; exact ru_range_er h he
    next a1 S1 h1 =>
    have h2 := ru_range_le h h1
    split at hr
    · next h3 =>
      have h4 : a1 < n := sb_lk_pos (cs := cs) (by omega)
      exact ru_rngs_er k (a1 + 1) S1 e (by omega) hr
    · cases hr
theorem ru_rel2_er {cs : List Nat} {n o m a e : Nat} {og : Bool} {S : rg} (h : a ≤ n) (hr : ru_rel2 cs n og o m a S = .error e) : e ≤ n := by
  unfold ru_rel2 at hr
  split at hr
  · next h1 =>
    have h0 : a < n := sb_lk_pos (cs := cs) (by omega)
    split at hr
    · next h2 =>
      have h3 : a + 1 < n := sb_lk_pos (cs := cs) (by omega)
      exact ru_rngs_er _ _ _ _ (by omega) hr
    · cases hr; omega
  · split at hr
    · next h1 h2 =>
      have h3 : a < n := sb_lk_pos (cs := cs) (by omega)
      exact ru_rngs_er _ _ _ _ (by omega) hr
    · cases hr; exact h
theorem ru_rel_er {cs : List Nat} {n a e : Nat} {og : Bool} {S : rg} (h : a ≤ n) (hr : ru_rel cs n og a S = .error e) : e ≤ n := by
  have h1 := rd_sk_le (cs := cs) (n := n) (a := a) h
  unfold ru_rel at hr
  split at hr
  · next e' he => cases hr; exact ru_opnd_er h1.2 he
  next a2 o ho =>
  have h2 := ru_opnd_le (by omega) ho
  have h3 := rd_sk_le (cs := cs) (n := n) (a := a2) (by omega)
  split at hr
  · next h4 =>
    have h5 : rd_sk cs n a2 < n := sb_lk_pos (cs := cs) (by omega)
    split at hr
    · next e' he => cases hr; exact ru_mod_er (by omega) he
    next a4 m hm =>
    have h6 := ru_mod_le (by omega) hm
    exact ru_rel2_er h6.2.1 hr
  · exact ru_rel2_er h3.2 hr
theorem ru_cond_er {cs : List Nat} {n : Nat} : ∀ k og a S e, a ≤ n → ru_cond cs n k og a S = .error e → e ≤ n
  | 0, og, a, S, e, h, hr => by cases hr; exact h
  | k + 1, og, a, S, e, h, hr => by
    rw [ru_cond] at hr
    split at hr
    · next e' he => cases hr; exact ru_rel_er h he
    next a1 S1 h1 =>
    have h2 := ru_rel_le h h1
    have h3 := sb_re_le (lo := 97) (hi := 122) (cs := cs) (n := n) (a := a1)
    have h4 := h3.2.1 h2.1.2.1
    split at hr
    · cases hr
    split at hr
    · exact ru_cond_er k _ _ _ _ h4 hr
    split at hr
    · exact ru_cond_er k _ _ _ _ h4 hr
    cases hr; exact h2.1.2.1
theorem ru_cat_er {cs : List Nat} {n a e : Nat} {S : rg} (h : a ≤ n) (hr : ru_cat cs n a S = .error e) : e ≤ n := by
  unfold ru_cat at hr
  split at hr
  · cases hr; exact h
  split at hr
  · cases hr; exact h
  cases hr
theorem ru_rule_er {cs : List Nat} {n a e : Nat} {S : rg} (h : a ≤ n) (hr : ru_rule cs n a S = .error e) : e ≤ n := by
  have h1 := rd_sk_le (cs := cs) (n := n) (a := a) h
  unfold ru_rule at hr
  split at hr
  · next e' he => cases hr; exact ru_cat_er h1.2 he
  next a2 c hc =>
  have h2 := ru_cat_le (by omega) hc
  have h3 := rd_sk_le (cs := cs) (n := n) (a := a2) (by omega)
  split at hr
  · next h4 =>
    have h5 : rd_sk cs n a2 < n := sb_lk_pos (cs := cs) (by omega)
    split at hr
    · next e' he => cases hr; exact ru_cond_er _ _ _ _ _ (by omega) he
    cases hr
  · cases hr; exact h3.2
theorem ru_loop_er {cs : List Nat} {n : Nat} : ∀ k a S e, a ≤ n → ru_loop cs n k a S = .error e → e ≤ n
  | 0, a, S, e, h, hr => by cases hr
  | k + 1, a, S, e, h, hr => by
    rw [ru_loop] at hr
    split at hr
    · next e' he => cases hr; exact ru_rule_er h he
    next a1 S1 h1 =>
    have h2 := ru_rule_le h h1
    split at hr
    · cases hr
    split at hr
    · next h3 h4 => exact ru_loop_er k _ _ _ (by omega) hr
    cases hr; exact h2.1.2.1
theorem ru_all_er {cs : List Nat} {n e : Nat} {S : rg} (hr : ru_all cs n S = .error e) : e ≤ n := by
  unfold ru_all at hr
  split at hr
  · cases hr
  · exact ru_loop_er _ _ _ _ (rd_sk_le (cs := cs) (n := n) (a := 0) (by omega)).2 hr
