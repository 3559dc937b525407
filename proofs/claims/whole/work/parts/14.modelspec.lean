/-! the last sixteen, one by one; folds of 64 bits -/
noncomputable def m_wh (w : Nat → Nat) (r tk m : Nat) : Nat → Nat
  | 0 => 0
  | j + 1 => if m_wh w r tk m j = 1 ∨ ((m_ng m j ≤ m ∧ m - m_ng m j < 16) ∧ m_hs w r tk (m_ng m j) = 1) then 1 else 0
noncomputable def m_half (w : Nat → Nat) (r : Nat) : Nat := if m_tries w r = 1 then (if m_wh w r (m_tk w r) (w 0 / 2) 16 = 1 then 0 else 1) else 0
theorem m_wh_le (w : Nat → Nat) (r tk m j : Nat) : m_wh w r tk m j ≤ 1 := by
  cases j with
  | zero => exact Nat.zero_le _
  | succ j => rw [m_wh]; split <;> omega
theorem m_half_le (w : Nat → Nat) (r : Nat) : m_half w r ≤ 1 := by
  unfold m_half
  (repeat' split) <;> omega
def o_fold (g : Nat → Nat) (h : Int64) : Nat → Int64
  | 0 => h
  | j + 1 => 31 * o_fold g h j + (nI (g j)).toInt64
def o_folh (g : Nat → Int64 → Int64) (h : Int64) : Nat → Int64
  | 0 => h
  | j + 1 => g j (o_folh g h j)
def m_dn (j : Nat) : Nat := if j < 16 then 15 - j else 4294967295
theorem m_dn_or (j : Nat) : (j < 16 ∧ m_dn j = 15 - j) ∨ (16 ≤ j ∧ m_dn j = 4294967295) := by
  unfold m_dn
  split <;> omega
theorem m_dn_s {j : Nat} (h : j < 16) : nI (m_dn j) + Int32.ofInt (-1) = nI (m_dn (j + 1)) := by
  rcases m_dn_or j with ⟨h1, h2⟩ | ⟨h1, h2⟩
  · rcases m_dn_or (j + 1) with ⟨h3, h4⟩ | ⟨h3, h4⟩
    · rw [h2, h4, show 15 - j = 15 - (j + 1) + 1 by omega]
      exact o_dec1 _
    · rw [h2, h4, show j = 15 by omega]
      decide
  · omega
theorem m_its_lt {w : Nat → Nat} (h : ∀ k, w k < 2 ^ 32) (r tk f : Nat) : m_its w r tk f < 2 ^ 32 := by
  unfold m_its
  split <;> exact h _
/-! the digest, part by part -/
def m_g1 (w : Nat → Nat) (st : Nat) : Nat → Nat := fun k => m_cnt w st k
def m_g2 (w : Nat → Nat) : Nat → Nat := fun k => w (7 + k)
def m_g3 (w : Nat → Nat) : Nat → Nat := fun k => m_ofc w (k / 3) (k % 3)
noncomputable def m_g4 (w : Nat → Nat) (r : Nat) : Nat → Nat := fun k => m_ofrd w r k
def m_g5 (w : Nat → Nat) (r : Nat) : Nat → Nat := fun k => m_had w r k
noncomputable def m_hr (w : Nat → Nat) (r : Nat) (h : Int64) : Int64 := 31 * (31 * o_fold (m_g5 w r) (o_fold (m_g4 w r) h 8) 5 + (nI (m_tries w r)).toInt64) + (nI (m_half w r)).toInt64
def m_hk (w : Nat → Nat) (j : Nat) (h : Int64) : Int64 := if m_ng (w 0 / 2) (m_dn j) ≤ w 0 / 2 ∧ w 0 / 2 - m_ng (w 0 / 2) (m_dn j) < 16 then o_fold (fun f => w (83 + 5 * (m_ng (w 0 / 2) (m_dn j) % 16) + f)) h 5 else h
noncomputable def m_share (w : Nat → Nat) : UInt64 := if m_all w 5 + m_all w 4 = 0 then FP.dconst1 else FP.ddiv (FP.i2d (nI (m_all w 5))) (FP.i2d (nI (m_all w 5 + m_all w 4)))
noncomputable def m_dig (v : Nat → Nat → Nat) : Int64 := o_fold (v 3) (31 * (31 * (31 * o_folh (m_hk (v 1)) (o_folh (m_hr (v 1)) (o_fold (m_g3 (v 1)) (o_fold (m_g2 (v 1)) (o_fold (m_g1 (v 1) (v 0 0)) 3359 9) 5) 9) 4) 16 + (nI (if v 1 0 % 2 = 1 then 1 + v 1 4 else 0)).toInt64) + (m_share (v 1)).toInt64) + (nI (v 0 1)).toInt64) (v 0 1)
theorem m_all_le {b : Nat} {w : Nat → Nat} {k : Nat} (hI : m_I b w) (hk : k = 4 ∨ k = 5) : m_all w k ≤ 4 * b := by
  have h0 := hI.2.2 0 (by omega)
  have h1 := hI.2.2 1 (by omega)
  have h2 := hI.2.2 2 (by omega)
  have h3 := hI.2.2 3 (by omega)
  unfold m_all
  rcases hk with rfl | rfl
  · rw [if_neg (by decide)]
    exact (show w (15 + 17 * 0 + 4) + w (15 + 17 * 1 + 4) + w (15 + 17 * 2 + 4) + w (15 + 17 * 3 + 4) ≤ 4 * b by omega)
  · rw [if_neg (by decide)]
    exact (show w (15 + 17 * 0 + 5) + w (15 + 17 * 1 + 5) + w (15 + 17 * 2 + 5) + w (15 + 17 * 3 + 5) ≤ 4 * b by omega)
theorem o_n64 {r : UInt64} (h : FP.Core.dIsNaN r = false) : vf_n64 r := by
  have h1 : ¬ 9218868437227405312 < r.toNat % 2 ^ 63 := fun z => by
    rw [← FP.Core.isNaN_bits] at z
    rw [h] at z
    exact Bool.noConfusion z
  unfold vf_n64
  rw [UInt64.le_iff_toNat_le, UInt64.toNat_and]
  rw [show (0x7fffffffffffffff : UInt64).toNat = 2 ^ 63 - 1 from rfl, Nat.and_two_pow_sub_one_eq_mod]
  exact Nat.not_lt.mp h1
theorem o_n64' {r : UInt64} (h : vf_n64 r) : FP.Core.dIsNaN r = false := by
  unfold vf_n64 at h
  rw [UInt64.le_iff_toNat_le, UInt64.toNat_and, show (0x7fffffffffffffff : UInt64).toNat = 2 ^ 63 - 1 from rfl, Nat.and_two_pow_sub_one_eq_mod] at h
  cases q : FP.Core.dIsNaN r with
  | false => rfl
  | true =>
    rw [FP.Core.isNaN_bits] at q
    exact absurd h (Nat.not_le.mpr q)
theorem o_div_n {a b : Nat} (hb : ¬ b = 0) (hb2 : b < 2 ^ 31) : vf_n64 (FP.ddiv (FP.i2d (nI a)) (FP.i2d (nI b))) := by
  have hne : (nI b : Int32) ≠ 0 := nI_ne0 (Nat.pos_of_ne_zero hb) hb2
  refine o_n64 (FP.Core.ddiv_out ?_ (FP.Core.i2d_fin _) ?_)
  · have h1 := FP.Core.i2d_mag (nI a)
    cases q : FP.Core.dIsNaN (FP.i2d (nI a)) with
    | false => rfl
    | true =>
      have h2 := (FP.Core.isNaN_bits _).mp q
      have h3 : (FP.Core.i2d (nI a)).toNat % 2 ^ 63 < 1056 * 2 ^ 52 := h1
      exact absurd h2 (by show ¬ 9218868437227405312 < (FP.Core.i2d (nI a)).toNat % 2 ^ 63; omega)
  · intro z
    have h1 := FP.Core.i2d_ne_zero hne
    rw [FP.Core.zero_bits2] at z
    exact h1 z
theorem m_share_n {b : Nat} {w : Nat → Nat} (hI : m_I b w) (hb : b < 2 ^ 28) : vf_n64 (m_share w) := by
  have h4 := m_all_le hI (Or.inl rfl)
  have h5 := m_all_le hI (Or.inr rfl)
  unfold m_share
  split
  · unfold vf_n64
    decide
  · exact o_div_n (by omega) (by omega)
theorem o_dcmp_self {x : UInt64} (h : vf_n64 x) : Op.cmpValue (FP.dcmp x x) .l = 0 := by
  have h1 := (FP.Core.notNaN_iff _).mp (o_n64' h)
  rw [show FP.dcmp x x = some .eq from FP.Core.dcmp_self h1]
  rfl
