theorem c_sv_lo {x : Nat → Nat} {k : Nat} (hk : k < 3) : c_sv x k = x k := by
  unfold c_sv
  split
  · exact n_up_ne (by omega)
  · exact n_up_ne (by omega)
