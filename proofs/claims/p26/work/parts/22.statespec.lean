/-! a state of the class; v: comp 0 number, halves, setting; 1 fields, 2 done, 3 place, 4 kept; 5 + 3 r .. reader r (heeds, reads, holds, noted, taken, row, failed, well; held; values) -/
def s_IR (b : Nat) (v : Nat → Nat → Nat) (r : Nat) : Prop := v (5 + 3 * r) 0 ≤ 1 ∧ v (5 + 3 * r) 1 ≤ 1 ∧ v (5 + 3 * r) 2 ≤ 1 ∧ v (5 + 3 * r) 3 ≤ 2 * b ∧ v (5 + 3 * r) 4 ≤ 5 ∧ v (5 + 3 * r) 5 ≤ b ∧ v (5 + 3 * r) 6 ≤ b ∧ v (5 + 3 * r) 7 ≤ b
def s_I (b : Nat) (v : Nat → Nat → Nat) : Prop := (v 0 0 ≤ 2 * b ∧ v 0 1 ≤ b ∧ v 0 2 ≤ 20 ∧ ∀ c, c < 3 → v 3 c = 4294967295 ∨ v 3 c ≤ 3) ∧ ∀ r, r < 4 → s_IR b v r
/-- a reader has given up -/
abbrev s_gu (v : Nat → Nat → Nat) (r : Nat) : Prop := ¬ v (5 + 3 * r) 0 = 0 ∧ v (5 + 3 * r) 1 = 0 ∧ v 0 2 ≤ v (5 + 3 * r) 5
/-- a reader's try would fail -/
abbrev s_wf (v : Nat → Nat → Nat) (r : Nat) : Prop := ¬ v (5 + 3 * r) 0 = 0 ∧ (¬ v (5 + 3 * r) 1 = 0 ∧ ¬ v (5 + 3 * r) 3 = v 0 0 ∨ v (5 + 3 * r) 1 = 0 ∧ v 0 0 % 2 = 1)
abbrev s_mb (v : Nat → Nat → Nat) (r : Nat) : Prop := v (5 + 3 * r) 1 = 0 ∧ ¬ s_gu v r
def s_out (v : Nat → Nat → Nat) (r : Nat) : Nat := if s_gu v r then 4294967295 else if s_wf v r then 0 else 1
def s_sum (v : Nat → Nat → Nat) (k : Nat) : Nat := v 5 k + v 8 k + v 11 k + v 14 k
/-- what a look does; r's part first -/
def s_tk (v : Nat → Nat → Nat) (r : Nat) : Nat → Nat → Nat := va_up (va_up v (5 + 3 * r) (va_up (v (5 + 3 * r)) 4 (v (5 + 3 * r) 4 + 1))) (7 + 3 * r) (va_up (v (7 + 3 * r)) (v (5 + 3 * r) 4) (v 1 (v (5 + 3 * r) 4)))
def s_fl (v : Nat → Nat → Nat) (r : Nat) : Nat → Nat → Nat := va_up v (5 + 3 * r) (va_up (va_up (va_up (v (5 + 3 * r)) 1 0) 5 (v (5 + 3 * r) 5 + 1)) 6 (v (5 + 3 * r) 6 + 1))
def s_wl (v : Nat → Nat → Nat) (r : Nat) : Nat → Nat → Nat := va_up (va_up v (5 + 3 * r) (va_up (va_up (va_up (va_up (v (5 + 3 * r)) 1 0) 2 1) 5 0) 7 (v (5 + 3 * r) 7 + 1))) (6 + 3 * r) (v (7 + 3 * r))
noncomputable def s_gl (v : Nat → Nat → Nat) (r : Nat) : Nat → Nat → Nat := if v (5 + 3 * r) 4 < 5 then s_tk v r else if s_wf v r then s_fl v r else va_up (s_wl v r) 0 (va_up (v 0) 1 (if b_ls (v 4) (v (7 + 3 * r)) (v 0 0 / 2) 16 0 = 4294967295 then v 0 1 + 1 else v 0 1))
def s_glr (v : Nat → Nat → Nat) (r : Nat) : Nat := if v (5 + 3 * r) 4 < 5 then v 1 (v (5 + 3 * r) 4) else if s_wf v r then 100 else 101
theorem s_IRn {b : Nat} {v : Nat → Nat → Nat} (h : s_I b v) : s_IR b v 0 ∧ s_IR b v 1 ∧ s_IR b v 2 ∧ s_IR b v 3 := ⟨h.2 0 (by omega), h.2 1 (by omega), h.2 2 (by omega), h.2 3 (by omega)⟩
theorem b_ls_lt {kp w : Nat → Nat} {m : Nat} (hm : m < 2 ^ 31) : ∀ n i, b_ls kp w m n i < 2 ^ 32 := by
  intro n
  induction n with
  | zero => intro i; rw [b_ls]; omega
  | succ n ih =>
    intro i
    rw [b_ls]
    (repeat' split) <;> first | exact ih _ | omega
/-- a state by its parts, each with numbers of its own -/
abbrev wP (q : Nat → Nat) (cI cR : ClassId) (h b r0 r1 r2 r3 : Nat → Nat → Nat) : va_W := (q 0, .inr (2, [.ref (q 1), .ref (q 6), .int (nI (h 0 1)), .int (nI (h 0 2))])) :: oq cR (q 6) 4 (fun k => q (7 + 3 * k)) :: (wB (fun k => q (k + 1)) cI b ++ (wR (fun k => q (k + 7)) cI r0 ++ (wR (fun k => q (k + 10)) cI r1 ++ (wR (fun k => q (k + 13)) cI r2 ++ wR (fun k => q (k + 16)) cI r3))))
