/-! what a reader's methods answer and do: comp 0 heeds, reads, holds, noted, taken, failedInRow, failed, well; comp 1 held, comp 2 values -/
def r_anew (u : Nat → Nat → Nat) (h : Nat) : Nat → Nat → Nat := va_up u 0 (va_up (va_up (va_up (va_up (u 0) 0 h) 1 0) 2 0) 5 0)
def r_doing (u : Nat → Nat → Nat) (st : Nat) : Nat := if u 0 1 = 0 then (if ¬ u 0 0 = 0 ∧ u 0 1 = 0 ∧ st ≤ u 0 5 then 2 else 0) else 1
def r_fail (u : Nat → Nat → Nat) : Nat → Nat → Nat := va_up u 0 (va_up (va_up (va_up (u 0) 1 0) 5 (u 0 5 + 1)) 6 (u 0 6 + 1))
/-- whether the number makes the try fail -/
abbrev r_wf (u v : Nat → Nat → Nat) : Prop := ¬ u 0 0 = 0 ∧ (¬ u 0 1 = 0 ∧ ¬ u 0 3 = v 0 0 ∨ u 0 1 = 0 ∧ v 0 0 % 2 = 1)
def r_open (u v : Nat → Nat → Nat) : Nat → Nat → Nat := va_up u 0 (if r_wf u v then va_up (va_up (va_up (u 0) 1 0) 5 (u 0 5 + 1)) 6 (u 0 6 + 1) else va_up (va_up (va_up (u 0) 1 1) 3 (v 0 0)) 4 0)
def r_take (u v : Nat → Nat → Nat) : Nat → Nat → Nat := va_up (va_up u 0 (va_up (u 0) 4 (u 0 4 + 1))) 2 (va_up (u 2) (u 0 4) (v 1 (u 0 4)))
def r_well (u : Nat → Nat → Nat) : Nat → Nat → Nat := va_up (va_up u 0 (va_up (va_up (va_up (va_up (u 0) 1 0) 2 1) 5 0) 7 (u 0 7 + 1))) 1 (u 2)
/-- what would be taken -/
def r_would (u v : Nat → Nat → Nat) : Nat → Nat := fun k => if ¬ u 0 1 = 0 ∧ k < u 0 4 then u 2 k else v 1 k
/-- the first i places as they would be taken, the others as they were -/
def r_fill (u v : Nat → Nat → Nat) (w : Nat → Nat) (i : Nat) : Nat → Nat := fun k => if k < i then r_would u v k else w k
theorem r_fill_0 (u v : Nat → Nat → Nat) (w : Nat → Nat) : r_fill u v w 0 = w := by
  funext k
  simp [r_fill]
theorem r_fill_s (u v : Nat → Nat → Nat) (w : Nat → Nat) (i x : Nat) (h : r_would u v i = x) : va_up (r_fill u v w i) i x = r_fill u v w (i + 1) := by
  funext k
  unfold va_up r_fill
  by_cases q : k = i
  · subst q
    rw [if_pos rfl, if_pos (Nat.lt_succ_self _), h]
  · rw [if_neg q]
    by_cases q2 : k < i
    · rw [if_pos q2, if_pos (by omega)]
    · rw [if_neg q2, if_neg (by omega)]
