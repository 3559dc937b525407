/-! what the board's methods answer and do -/
def b_inl (pl : Nat → Nat) : Nat := (if pl 0 = 4294967295 then 0 else 1) + (if pl 1 = 4294967295 then 0 else 1) + (if pl 2 = 4294967295 then 0 else 1)
def b_who (pl : Nat → Nat) : Nat := if pl 0 = 0 then 0 else if pl 1 = 0 then 1 else if pl 2 = 0 then 2 else 4294967295
def b_doing (pl : Nat → Nat) (c : Nat) : Nat := if pl c = 4294967295 then 0 else if pl c = 0 then 1 else 2
def b_ahead (pl : Nat → Nat) (c : Nat) : Nat := if 0 < pl c ∧ ¬ pl c = 4294967295 then pl c - 1 else 4294967295
def b_enter (v : Nat → Nat → Nat) (c : Nat) : Nat → Nat → Nat := va_up (va_up v 0 (va_up (v 0) 0 (if b_inl (v 3) = 0 then v 0 0 + 1 else v 0 0))) 3 (va_up (v 3) c (b_inl (v 3)))
def b_write (v : Nat → Nat → Nat) (f x : Nat) : Nat → Nat → Nat := va_up v 1 (va_up (v 1) f x)
def b_stp (x : Nat) : Nat := if 0 < x ∧ ¬ x = 4294967295 then x - 1 else 4294967295
def b_stpf (pl : Nat → Nat) : Nat → Nat := va_up (va_up (va_up pl 0 (b_stp (pl 0))) 1 (b_stp (pl 1))) 2 (b_stp (pl 2))
def b_leave (v : Nat → Nat → Nat) (c : Nat) : Nat → Nat → Nat := va_up (va_up (va_up (va_up v 0 (va_up (v 0) 0 (if 0 < b_inl (b_stpf (v 3)) then v 0 0 + 2 else v 0 0 + 1))) 2 (va_up (v 2) c (v 2 c + 1))) 3 (b_stpf (v 3))) 4 (va_cpy (v 1) (v 4) 0 ((v 0 0 + 1) / 2 % 16 * 5) 5)
def b_kv (v : Nat → Nat → Nat) (n f : Nat) : Nat := if n < v 0 0 / 2 - 15 then 4294967295 else if v 0 0 / 2 < n then 4294967295 else v 4 (n % 16 * 5 + f)
/-- five values are the same: 1, otherwise 0 -/
noncomputable def b_sm (kp w : Nat → Nat) (a : Nat) : Nat := if nI (kp a) = nI (w 0) then if nI (kp (a + 1)) = nI (w 1) then if nI (kp (a + 2)) = nI (w 2) then if nI (kp (a + 3)) = nI (w 3) then if nI (kp (a + 4)) = nI (w 4) then 1 else 0 else 0 else 0 else 0 else 0
/-- the latest kept notice, from 'back' ones ago on, that is the same -/
noncomputable def b_ls (kp w : Nat → Nat) (m : Nat) : Nat → Nat → Nat
  | 0, _ => 4294967295
  | f + 1, back => if back ≤ m then (if b_sm kp w ((m - back) % 16 * 5) = 1 then m - back else b_ls kp w m f (back + 1)) else 4294967295
theorem b_sm_le (kp w : Nat → Nat) (a : Nat) : b_sm kp w a ≤ 1 := by
  unfold b_sm
  (repeat' split) <;> omega
theorem b_ls_end (kp w : Nat → Nat) (m i : Nat) (h : 16 ≤ i) : b_ls kp w m (16 - i) i = 4294967295 := by
  rw [show 16 - i = 0 by omega]
  rfl
theorem b_ls_out (kp w : Nat → Nat) (m i : Nat) (h : m < i) : b_ls kp w m (16 - i) i = 4294967295 := by
  cases h2 : 16 - i with
  | zero => rfl
  | succ k => simp only [b_ls]; rw [if_neg (by omega)]
theorem b_ls_hit (kp w : Nat → Nat) (m i : Nat) (h : i < 16) (h2 : i ≤ m) (h3 : b_sm kp w ((m - i) % 16 * 5) = 1) : b_ls kp w m (16 - i) i = m - i := by
  rw [show 16 - i = (15 - i) + 1 by omega]
  simp only [b_ls]
  rw [if_pos h2, if_pos h3]
theorem b_ls_next (kp w : Nat → Nat) (m i : Nat) (h : i < 16) (h2 : i ≤ m) (h3 : ¬ b_sm kp w ((m - i) % 16 * 5) = 1) : b_ls kp w m (16 - i) i = b_ls kp w m (16 - (i + 1)) (i + 1) := by
  rw [show 16 - i = (16 - (i + 1)) + 1 by omega]
  rw [b_ls]
  rw [if_pos h2, if_neg h3]
theorem b_stp_pm {x : Nat} (h : x = 4294967295 ∨ x < 2 ^ 31) : b_stp x = 4294967295 ∨ b_stp x < 2 ^ 31 := by
  unfold b_stp
  split <;> omega
theorem b_stpf_pl {pl : Nat → Nat} (hp : ∀ c, c < 3 → pl c = 4294967295 ∨ pl c < 2 ^ 31) : ∀ c, c < 3 → b_stpf pl c = 4294967295 ∨ b_stpf pl c < 2 ^ 31 := by
  intro c hc
  rcases o_lt3 hc with rfl | rfl | rfl
  · exact b_stp_pm (hp 0 (by omega))
  · exact b_stp_pm (hp 1 (by omega))
  · exact b_stp_pm (hp 2 (by omega))
theorem b_inl_le (pl : Nat → Nat) : b_inl pl ≤ 3 := by
  unfold b_inl
  (repeat' split) <;> omega
theorem o_xor {a b : Nat} (ha : a < 2 ^ 31) (hb : b < 2 ^ 31) : 0 ≤ nI a ^^^ nI b := by
  rw [Int32.le_iff_toInt_le]
  show 0 ≤ ((nI a).toBitVec ^^^ (nI b).toBitVec).toInt
  rw [BitVec.toInt_eq_toNat_cond, BitVec.toNat_xor, pk_tn (by omega), pk_tn (by omega)]
  have := Nat.xor_lt_two_pow ha hb
  split <;> omega
theorem o_max0 {m : Nat} (h : m < 2 ^ 30) : (if nI 0 < nI m - nI 16 + nI 1 then nI m - nI 16 + nI 1 else nI 0) = nI (m - 15) := by
  by_cases q : 16 ≤ m
  · rw [pk_sub q, nI_add, if_pos ((nI_ltI (by omega) (by omega)).mpr (by omega))]
    congr 1
    omega
  · have e : nI m - nI 16 + nI 1 = nI (m + (2 ^ 32 - 16) + 1) := by
      rw [show nI m - nI 16 = nI (m + (2 ^ 32 - 16)) by rw [← nI_add]; rw [Int32.sub_eq_add_neg]; rfl, nI_add]
    rw [e]
    by_cases q2 : m = 15
    · subst q2
      rfl
    · have hz : ¬ nI 0 < nI (m + (2 ^ 32 - 16) + 1) := fun z => absurd (o_neg_lt (a := m + (2 ^ 32 - 16) + 1) (by omega) (by omega)) (Int32.not_lt.mpr (Int32.le_of_lt z))
      rw [if_neg hz]
      congr 1
      omega
