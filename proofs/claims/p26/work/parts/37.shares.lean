theorem c_share_n {b : Nat} {v : Nat → Nat → Nat} (h : s_I b v) (hb : b < 2 ^ 28) : ∃ n, c_share v = UInt64.ofNat n ∧ (n = 0 ∨ (4503599627370496 ≤ n ∧ n ≤ 4607182418800017408)) := by
  have h6 := s_sum_le h (Or.inl rfl)
  have h7 := s_sum_le h (Or.inr rfl)
  unfold c_share
  split
  · exact ⟨4607182418800017408, rfl, Or.inr ⟨by omega, by omega⟩⟩
  · exact f_share (by omega) (by omega) (by assumption)
