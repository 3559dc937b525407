theorem n_up_at {f : Nat → Nat} {i x : Nat} : va_up f i x i = x := if_pos rfl
theorem n_up_ne {f : Nat → Nat} {i x k : Nat} (h : ¬ k = i) : va_up f i x k = f k := if_neg h
