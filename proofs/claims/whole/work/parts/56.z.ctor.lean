set_option maxHeartbeats 8000000 in
set_option maxRecDepth 100000 in
theorem n_X4_init (l : Launch) (D : va_G) (cI cR cS cL : ClassId) (sz : Nat) (h : Nat) : Met l yX4_init wsX4_init ({ frames := 3, cells := 137, slots := 1363, locals := 54 }) (va_Pc [.ref h] (o_J D (o_T cI cR cS cL) [(h, .inr (4, [.null, .null, .int (nI 0), .int (nI 0), .null, .null]))] sz)) (o_qJ D (h, .inr (4, [.null, .null, .int (nI 0), .int (nI 0), .null, .null])) sz (fun u => wO u cI cR cS x_0 s_0 (wV u cI cR (fun _ => s_0)))) 137 1363 (va_A [(h, .inr (4, [.null, .null, .int (nI 0), .int (nI 0), .null, .null]))] sz) := by
  sorry
