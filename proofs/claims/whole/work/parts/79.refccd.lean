/-! The reference: a category's condition. -/
/-- all, any behind k relations from r on -/
def rf_cl (jn H : Nat → Bool) : Nat → Nat → Bool → Bool → Bool × Bool
  | 0, _, al, an => (al, an)
  | k + 1, r, al, an => rf_cl jn H k (r + 1) ((!jn r || al) && H r) (an || (!jn r && al))
def rf_cd (jn H : Nat → Bool) (k r : Nat) : Bool := (rf_cl jn H k r false false).2 || (rf_cl jn H k r false false).1
def rf_cc (at' mn : Nat → Nat) (jn H : Nat → Bool) : Nat → Nat → Nat
  | 0, _ => 5
  | q + 1, c => if rf_cd jn H (mn c) (at' c) = true then c else rf_cc at' mn jn H q (c + 1)
