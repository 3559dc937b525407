theorem b_stpf_at {pl : Nat → Nat} {c : Nat} (hc : c < 3) : b_stpf pl c = b_stp (pl c) := by
  rcases o_lt3 hc with rfl | rfl | rfl <;> rfl
