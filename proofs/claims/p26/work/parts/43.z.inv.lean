theorem s_anew_I {b r h : Nat} {v : Nat → Nat → Nat} (hI : s_I b v) (hr : r < 4) (hh : h ≤ 1) : s_I (b + 1) (va_up v (5 + 3 * r) (r_anew (fun j => v (j + (5 + 3 * r))) h 0)) := by
  have h0 := hI
  obtain ⟨⟨h1, h2, h3, h4⟩, h5⟩ := hI
  have hq := h5 r hr
  unfold s_IR at hq
  refine s_I_rd h0 hr (n_up_ne2 (by omega)) (by rw [n_up_ne2 (by omega)]) (by rw [n_up_ne2 (by omega)]; omega) (by rw [n_up_ne2 (by omega)]) (fun k hk q => n_up_ne2 (by omega)) ?_
  unfold s_IR
  rw [n_up_at2]
  unfold r_anew
  rw [n_up_at2]
  simp only [va_up, Nat.zero_add, Nat.reduceEqDiff, if_true, if_false]
  omega
theorem s_set_I {b y : Nat} {v : Nat → Nat → Nat} (hI : s_I b v) (hy : y ≤ 20) : s_I (b + 1) (va_up v 0 (va_up (v 0) 2 y)) := by
  obtain ⟨⟨h1, h2, h3, h4⟩, h5⟩ := hI
  refine ⟨⟨?_, ?_, ?_, fun c hc => ?_⟩, fun r hr => s_IR_eq (s_IR_up (h5 r hr) (by omega)) (n_up_ne2 (by omega))⟩
  · rw [n_up_at2, n_up_ne (by omega)]; omega
  · rw [n_up_at2, n_up_ne (by omega)]; omega
  · rw [n_up_at2, n_up_at]; exact hy
  · rw [n_up_ne2 (by omega)]; exact h4 c hc
