/-! what the class answers -/
def c_clk (v : Nat → Nat → Nat) (c : Nat) : Nat → Nat
  | 0 => b_doing (v 3) c
  | 1 => b_ahead (v 3) c
  | _ => v 2 c
noncomputable def c_rdr (v : Nat → Nat → Nat) (r : Nat) : Nat → Nat
  | 0 => r_doing (fun j => v (j + (5 + 3 * r))) (v 0 2)
  | 1 => if v (5 + 3 * r) 1 = 0 then 4294967295 else v (5 + 3 * r) 3
  | 2 => if v (5 + 3 * r) 1 = 0 then 4294967295 else v (5 + 3 * r) 4
  | 3 => v (5 + 3 * r) 5
  | 4 => v (5 + 3 * r) 6
  | 5 => v (5 + 3 * r) 7
  | 6 => if v (5 + 3 * r) 2 = 0 then 4294967295 else b_ls (v 4) (v (6 + 3 * r)) (v 0 0 / 2) 16 0
  | _ => if v (5 + 3 * r) 0 = 0 then 0 else 1
def c_cnt (v : Nat → Nat → Nat) (sc : Nat) : Nat → Nat
  | 0 => v 0 0
  | 1 => b_who (v 3)
  | 2 => b_inl (v 3) - 1
  | 3 => s_sum v 1
  | 4 => s_sum v 6
  | 5 => s_sum v 7
  | 6 => v 0 1
  | 7 => v 0 2
  | _ => sc
def c_has (v : Nat → Nat → Nat) (r f : Nat) : Nat := if v (5 + 3 * r) 2 = 0 then 4294967295 else v (6 + 3 * r) f
/-- the row of what would be taken, after it has been asked for -/
def c_wtf (v : Nat → Nat → Nat) (r : Nat) (w : Nat → Nat) : Nat → Nat := if s_out v r = 1 then r_fill (fun j => v (j + (5 + 3 * r))) v w 5 else w
noncomputable def c_half (v : Nat → Nat → Nat) (r : Nat) : Nat := if s_out v r = 1 then (if b_ls (v 4) (r_would (fun j => v (j + (5 + 3 * r))) v) (v 0 0 / 2) 16 0 = 4294967295 then 1 else 0) else 0
theorem b_sm_fill (kp : Nat → Nat) (u v : Nat → Nat → Nat) (w : Nat → Nat) (a : Nat) : b_sm kp (r_fill u v w 5) a = b_sm kp (r_would u v) a := by
  have e : ∀ k, k < 5 → r_fill u v w 5 k = r_would u v k := fun k h => if_pos h
  unfold b_sm
  rw [e 0 (by decide), e 1 (by decide), e 2 (by decide), e 3 (by decide), e 4 (by decide)]
theorem b_ls_fill (kp : Nat → Nat) (u v : Nat → Nat → Nat) (w : Nat → Nat) (m : Nat) : ∀ n i, b_ls kp (r_fill u v w 5) m n i = b_ls kp (r_would u v) m n i := by
  intro n
  induction n with
  | zero => intro i; rfl
  | succ n ih =>
    intro i
    rw [b_ls, b_ls, b_sm_fill, ih]
theorem o_max1 {m : Nat} (h : m ≤ 3) : (if nI 0 < nI m - nI 1 then nI m - nI 1 else nI 0) = nI (m - 1) := by
  rcases (show m = 0 ∨ m = 1 ∨ m = 2 ∨ m = 3 by omega) with rfl | rfl | rfl | rfl <;> decide
theorem s_out_or (v : Nat → Nat → Nat) (r : Nat) : s_out v r = 4294967295 ∨ s_out v r ≤ 1 := by
  unfold s_out
  (repeat' split) <;> omega
theorem s_sum_le {b : Nat} {v : Nat → Nat → Nat} {k : Nat} (h : s_I b v) (hk : k = 6 ∨ k = 7) : s_sum v k ≤ 4 * b := by
  obtain ⟨h0, h1, h2, h3⟩ := s_IRn h
  unfold s_IR at h0 h1 h2 h3
  simp only [Nat.reduceMul, Nat.reduceAdd] at h0 h1 h2 h3
  unfold s_sum
  rcases hk with rfl | rfl <;> omega
noncomputable def c_share (v : Nat → Nat → Nat) : UInt64 := if s_sum v 7 + s_sum v 6 = 0 then FP.dconst1 else FP.ddiv (FP.i2d (nI (s_sum v 7))) (FP.i2d (nI (s_sum v 7 + s_sum v 6)))
