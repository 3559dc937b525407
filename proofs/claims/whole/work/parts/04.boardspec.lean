/-! what the board's methods answer and do -/
def b_inl (v : Nat → Nat → Nat) : Nat := (if v 3 0 = NON then 0 else 1) + (if v 3 1 = NON then 0 else 1) + (if v 3 2 = NON then 0 else 1)
def b_who (v : Nat → Nat → Nat) : Nat := if v 3 0 = 0 then 0 else if v 3 1 = 0 then 1 else if v 3 2 = 0 then 2 else NON
def b_doing (v : Nat → Nat → Nat) (c : Nat) : Nat := if v 3 c = NON then 0 else if v 3 c = 0 then 1 else 2
def b_ahead (v : Nat → Nat → Nat) (c : Nat) : Nat := if 0 < v 3 c ∧ v 3 c < 2 ^ 31 then v 3 c - 1 else NON
def b_num (v : Nat → Nat → Nat) : Nat → Nat → Nat := va_up v 0 (va_up (v 0) 0 (v 0 0 + 1))
def b_enter (v : Nat → Nat → Nat) (c : Nat) : Nat → Nat → Nat := if b_inl v = 0 then va_up (va_up v 0 (va_up (v 0) 0 (v 0 0 + 1))) 3 (va_up (v 3) c (b_inl v)) else va_up v 3 (va_up (v 3) c (b_inl v))
def b_write (v : Nat → Nat → Nat) (f x : Nat) : Nat → Nat → Nat := va_up v 1 (va_up (v 1) f x)
def b_stp (x : Nat) : Nat := if 0 < x ∧ x < 2 ^ 31 then x - 1 else NON
def b_step (v : Nat → Nat → Nat) : Nat → Nat → Nat := va_up v 3 (va_up (va_up (va_up (v 3) 0 (b_stp (v 3 0))) 1 (b_stp (v 3 1))) 2 (b_stp (v 3 2)))
def b_keep (v : Nat → Nat → Nat) : Nat → Nat → Nat := va_up v 4 (va_cpy (v 1) (v 4) 0 (v 0 0 / 2 % 16 * 5) 5)
def b_leave0 (v : Nat → Nat → Nat) (c : Nat) : Nat → Nat → Nat := b_keep (b_num (b_step (va_up v 2 (va_up (v 2) c (v 2 c + 1)))))
def b_leave (v : Nat → Nat → Nat) (c : Nat) : Nat → Nat → Nat := if 0 < b_inl (b_leave0 v c) then b_num (b_leave0 v c) else b_leave0 v c
def b_kv (v : Nat → Nat → Nat) (n f : Nat) : Nat := if n < v 0 0 / 2 - 15 then NON else if v 0 0 / 2 < n then NON else v 4 (n % 16 * 5 + f)
/-- five values are the same -/
def b_same (kp w : Nat → Nat) (a : Nat) : Prop := nI (kp a) = nI (w 0) ∧ nI (kp (a + 1)) = nI (w 1) ∧ nI (kp (a + 2)) = nI (w 2) ∧ nI (kp (a + 3)) = nI (w 3) ∧ nI (kp (a + 4)) = nI (w 4)
noncomputable def b_sm (kp w : Nat → Nat) (a : Nat) : Nat := if nI (kp a) = nI (w 0) then if nI (kp (a + 1)) = nI (w 1) then if nI (kp (a + 2)) = nI (w 2) then if nI (kp (a + 3)) = nI (w 3) then if nI (kp (a + 4)) = nI (w 4) then 1 else 0 else 0 else 0 else 0 else 0
/-- the latest kept notice, from 'back' ones ago on, that is the same -/
noncomputable def b_ls (kp w : Nat → Nat) (m : Nat) : Nat → Nat → Nat
  | 0, _ => NON
  | f + 1, back => if back ≤ m then (if b_sm kp w ((m - back) % 16 * 5) = 1 then m - back else b_ls kp w m f (back + 1)) else NON
