set_option maxHeartbeats 4000000 in
set_option maxRecDepth 100000 in
theorem k_X5_in (l : Launch) (D : va_G) (cI cR cS cL : ClassId) (n : Nat) (lo : Nat) (hi : Nat) (h1 : n < 2 ^ 32) (h2 : lo < 2 ^ 31) (h3 : hi < 2 ^ 31) : Met l yX5_in wsX5_in ({ frames := 0, cells := 0, slots := 0, locals := 0 }) (va_Pc [.int (nI n), .int (nI lo), .int (nI hi)] (o_R D (o_T cI cR cS cL) [])) (vp_Si (fun rz => rz = nI (bn (lo ≤ n ∧ n ≤ hi)))) 0 0 (fun _ => False) := by
  refine Met.ofW (cc := cX5_in) (maxL := 3) (ret := (some .boolean)) (by decide) rfl ?_
  intro p e s m args below meth cd s₁ B hml hv
  obtain ⟨rfl, hP, hK, hN⟩ := hv
  have hx := B.exec
  have hb := B.bytes
  have hrt := B.returns
  have hts := atoms_spec (ws := wsX5_in) B.pre
  have hown : s.vm.findClass RX5 = some m.cls := findClass_of_methodNamed B.named
  have hlocks := B.notSynchronized
  have hl := lv_entry ([.int (nI n), .int (nI lo), .int (nI hi)]) (n := 3) (Nat.le_of_ble_eq_true rfl)
  rw [lg_entry_eq]
  generalize (lg_sl ([.int (nI n), .int (nI lo), .int (nI hi)]) ++ List.replicate (3 - (lg_sl ([.int (nI n), .int (nI lo), .int (nI hi)])).length) Slot.unset).toArray = ls at hl ⊢
  have hl : lv_has ls 3 [(0, .int (nI n)), (1, .int (nI lo)), (2, .int (nI hi))] := hl
  refine lv_iload_n hx hb dX5_in_0 rfl (lv_at hl 0 rfl) ?_
  refine lv_iload_n hx hb dX5_in_1 rfl (lv_at hl 1 rfl) ?_
  refine o_icmp_lt_s (tgt := 14) hx hb dX5_in_2 (by decide) (by omega) (by omega) (fun c_1 => ?_) (fun c_1 => ?_)
  · skip
    refine o_const (k := 0) hx hb dX5_in_14 (by decide) ?_
    exact W.zret (v := nI 0) hx hb hrt rfl (fun t ht hW => ⟨_, rfl, (congrArg nI (Eq.symm (bn_f (by omega)))), ht⟩) (fun _ h => nomatch h) dX5_in_15
  · skip
    refine lv_iload_n hx hb dX5_in_5 rfl (lv_at hl 0 rfl) ?_
    refine lv_iload_n hx hb dX5_in_6 rfl (lv_at hl 2 rfl) ?_
    refine o_icmp_gt_s (tgt := 14) hx hb dX5_in_7 (by decide) (by omega) (by omega) (fun c_2 => ?_) (fun c_2 => ?_)
    · skip
      refine o_const (k := 0) hx hb dX5_in_14 (by decide) ?_
      exact W.zret (v := nI 0) hx hb hrt rfl (fun t ht hW => ⟨_, rfl, (congrArg nI (Eq.symm (bn_f (by omega)))), ht⟩) (fun _ h => nomatch h) dX5_in_15
    · skip
      refine o_const (k := 1) hx hb dX5_in_10 (by decide) ?_
      refine lv_goto (tgt := 15) hx hb dX5_in_11 (by decide) ?_
      exact W.zret (v := nI 1) hx hb hrt rfl (fun t ht hW => ⟨_, rfl, (congrArg nI (Eq.symm (bn_t (by omega)))), ht⟩) (fun _ h => nomatch h) dX5_in_15
set_option maxHeartbeats 4000000 in
set_option maxRecDepth 100000 in
theorem k_X5_isField (l : Launch) (D : va_G) (cI cR cS cL : ClassId) (n : Nat) (h1 : n < 2 ^ 32) : Met l yX5_isField wsX5_isField ({ frames := 1, cells := 0, slots := 0, locals := 22 }) (va_Pc [.int (nI n)] (o_R D (o_T cI cR cS cL) [])) (vp_Si (fun rz => rz = nI (bn (n < 5)))) 0 0 (fun _ => False) := by
  refine Met.ofW (cc := cX5_isField) (maxL := 1) (ret := (some .boolean)) (by decide) rfl ?_
  intro p e s m args below meth cd s₁ B hml hv
  obtain ⟨rfl, hP, hK, hN⟩ := hv
  have hx := B.exec
  have hb := B.bytes
  have hrt := B.returns
  have hts := atoms_spec (ws := wsX5_isField) B.pre
  have hown : s.vm.findClass RX5 = some m.cls := findClass_of_methodNamed B.named
  have hlocks := B.notSynchronized
  have hl := lv_entry ([.int (nI n)]) (n := 1) (Nat.le_of_ble_eq_true rfl)
  rw [lg_entry_eq]
  generalize (lg_sl ([.int (nI n)]) ++ List.replicate (1 - (lg_sl ([.int (nI n)])).length) Slot.unset).toArray = ls at hl ⊢
  have hl : lv_has ls 1 [(0, .int (nI n))] := hl
  refine lv_iload_n hx hb dX5_isField_0 rfl (lv_at hl 0 rfl) ?_
  refine o_const (k := 0) hx hb dX5_isField_1 (by decide) ?_
  refine o_const (k := 4) hx hb dX5_isField_2 (by decide) ?_
  refine o_ri (va_runS (As := [.int (nI n), .int (nI 0), .int (nI 4)]) (rest := []) ⟨hx, hb, hml, hown, hts⟩ (k_X5_in l D cI cR cS cL n 0 4 (by show n < 2 ^ 32; first | assumption | omega) (by show 0 < 2 ^ 31; first | assumption | omega) (by show 4 < 2 ^ 31; first | assumption | omega)) (va_cwS 3 hts gX5_isField_X5_in rfl rfl rfl (by decide +kernel) ⟨Nat.le_of_ble_eq_true rfl, Nat.le_of_ble_eq_true rfl⟩) (o_pR hK hN (hP.sub (ws' := []) [] rfl)) rfl rfl hl.1 rfl (lv_room (Nat.le_of_ble_eq_true rfl)) dX5_isField_3 ⟨Nat.zero_le _, Nat.zero_le _⟩) (fun r_2 e_1 => ?_)
  have e_1 : r_2 = nI (bn (0 ≤ n ∧ n ≤ 4)) := e_1
  subst e_1
  exact W.zret (v := nI (bn (0 ≤ n ∧ n ≤ 4))) hx hb hrt (o_nz (bn_le _)) (fun t ht hW => ⟨_, rfl, (congrArg nI (bn_e (bn_le _) (by constructor <;> intro hz <;> first | (rw [bn_t (by omega)]) | (by_cases hy : n < 5; exact hy; rw [bn_f (by omega)] at hz; omega)))), ht⟩) (fun _ h => nomatch h) dX5_isField_6
set_option maxHeartbeats 4000000 in
set_option maxRecDepth 100000 in
theorem k_X5_isClerk (l : Launch) (D : va_G) (cI cR cS cL : ClassId) (n : Nat) (h1 : n < 2 ^ 32) : Met l yX5_isClerk wsX5_isClerk ({ frames := 1, cells := 0, slots := 0, locals := 22 }) (va_Pc [.int (nI n)] (o_R D (o_T cI cR cS cL) [])) (vp_Si (fun rz => rz = nI (bn (n < 3)))) 0 0 (fun _ => False) := by
  refine Met.ofW (cc := cX5_isClerk) (maxL := 1) (ret := (some .boolean)) (by decide) rfl ?_
  intro p e s m args below meth cd s₁ B hml hv
  obtain ⟨rfl, hP, hK, hN⟩ := hv
  have hx := B.exec
  have hb := B.bytes
  have hrt := B.returns
  have hts := atoms_spec (ws := wsX5_isClerk) B.pre
  have hown : s.vm.findClass RX5 = some m.cls := findClass_of_methodNamed B.named
  have hlocks := B.notSynchronized
  have hl := lv_entry ([.int (nI n)]) (n := 1) (Nat.le_of_ble_eq_true rfl)
  rw [lg_entry_eq]
  generalize (lg_sl ([.int (nI n)]) ++ List.replicate (1 - (lg_sl ([.int (nI n)])).length) Slot.unset).toArray = ls at hl ⊢
  have hl : lv_has ls 1 [(0, .int (nI n))] := hl
  refine lv_iload_n hx hb dX5_isClerk_0 rfl (lv_at hl 0 rfl) ?_
  refine o_const (k := 0) hx hb dX5_isClerk_1 (by decide) ?_
  refine o_const (k := 2) hx hb dX5_isClerk_2 (by decide) ?_
  refine o_ri (va_runS (As := [.int (nI n), .int (nI 0), .int (nI 2)]) (rest := []) ⟨hx, hb, hml, hown, hts⟩ (k_X5_in l D cI cR cS cL n 0 2 (by show n < 2 ^ 32; first | assumption | omega) (by show 0 < 2 ^ 31; first | assumption | omega) (by show 2 < 2 ^ 31; first | assumption | omega)) (va_cwS 3 hts gX5_isClerk_X5_in rfl rfl rfl (by decide +kernel) ⟨Nat.le_of_ble_eq_true rfl, Nat.le_of_ble_eq_true rfl⟩) (o_pR hK hN (hP.sub (ws' := []) [] rfl)) rfl rfl hl.1 rfl (lv_room (Nat.le_of_ble_eq_true rfl)) dX5_isClerk_3 ⟨Nat.zero_le _, Nat.zero_le _⟩) (fun r_2 e_1 => ?_)
  have e_1 : r_2 = nI (bn (0 ≤ n ∧ n ≤ 2)) := e_1
  subst e_1
  exact W.zret (v := nI (bn (0 ≤ n ∧ n ≤ 2))) hx hb hrt (o_nz (bn_le _)) (fun t ht hW => ⟨_, rfl, (congrArg nI (bn_e (bn_le _) (by constructor <;> intro hz <;> first | (rw [bn_t (by omega)]) | (by_cases hy : n < 3; exact hy; rw [bn_f (by omega)] at hz; omega)))), ht⟩) (fun _ h => nomatch h) dX5_isClerk_6
set_option maxHeartbeats 4000000 in
set_option maxRecDepth 100000 in
theorem k_X5_isReader (l : Launch) (D : va_G) (cI cR cS cL : ClassId) (n : Nat) (h1 : n < 2 ^ 32) : Met l yX5_isReader wsX5_isReader ({ frames := 1, cells := 0, slots := 0, locals := 22 }) (va_Pc [.int (nI n)] (o_R D (o_T cI cR cS cL) [])) (vp_Si (fun rz => rz = nI (bn (n < 4)))) 0 0 (fun _ => False) := by
  refine Met.ofW (cc := cX5_isReader) (maxL := 1) (ret := (some .boolean)) (by decide) rfl ?_
  intro p e s m args below meth cd s₁ B hml hv
  obtain ⟨rfl, hP, hK, hN⟩ := hv
  have hx := B.exec
  have hb := B.bytes
  have hrt := B.returns
  have hts := atoms_spec (ws := wsX5_isReader) B.pre
  have hown : s.vm.findClass RX5 = some m.cls := findClass_of_methodNamed B.named
  have hlocks := B.notSynchronized
  have hl := lv_entry ([.int (nI n)]) (n := 1) (Nat.le_of_ble_eq_true rfl)
  rw [lg_entry_eq]
  generalize (lg_sl ([.int (nI n)]) ++ List.replicate (1 - (lg_sl ([.int (nI n)])).length) Slot.unset).toArray = ls at hl ⊢
  have hl : lv_has ls 1 [(0, .int (nI n))] := hl
  refine lv_iload_n hx hb dX5_isReader_0 rfl (lv_at hl 0 rfl) ?_
  refine o_const (k := 0) hx hb dX5_isReader_1 (by decide) ?_
  refine o_const (k := 3) hx hb dX5_isReader_2 (by decide) ?_
  refine o_ri (va_runS (As := [.int (nI n), .int (nI 0), .int (nI 3)]) (rest := []) ⟨hx, hb, hml, hown, hts⟩ (k_X5_in l D cI cR cS cL n 0 3 (by show n < 2 ^ 32; first | assumption | omega) (by show 0 < 2 ^ 31; first | assumption | omega) (by show 3 < 2 ^ 31; first | assumption | omega)) (va_cwS 3 hts gX5_isReader_X5_in rfl rfl rfl (by decide +kernel) ⟨Nat.le_of_ble_eq_true rfl, Nat.le_of_ble_eq_true rfl⟩) (o_pR hK hN (hP.sub (ws' := []) [] rfl)) rfl rfl hl.1 rfl (lv_room (Nat.le_of_ble_eq_true rfl)) dX5_isReader_3 ⟨Nat.zero_le _, Nat.zero_le _⟩) (fun r_2 e_1 => ?_)
  have e_1 : r_2 = nI (bn (0 ≤ n ∧ n ≤ 3)) := e_1
  subst e_1
  exact W.zret (v := nI (bn (0 ≤ n ∧ n ≤ 3))) hx hb hrt (o_nz (bn_le _)) (fun t ht hW => ⟨_, rfl, (congrArg nI (bn_e (bn_le _) (by constructor <;> intro hz <;> first | (rw [bn_t (by omega)]) | (by_cases hy : n < 4; exact hy; rw [bn_f (by omega)] at hz; omega)))), ht⟩) (fun _ h => nomatch h) dX5_isReader_6
theorem inX5_thrown_X5 : ∀ w ∈ wsX50, w ∈ wsX5_thrown := by decide +kernel
set_option maxHeartbeats 4000000 in
set_option maxRecDepth 100000 in
theorem k_X5_thrown (l : Launch) (D : va_G) (cI cR cS cL : ClassId) (q : Nat → Nat) (v : Nat → Nat → Nat) : Met l yX5_thrown wsX5_thrown ({ frames := 0, cells := 0, slots := 0, locals := 0 }) (va_Pc [.ref (q 0)] (o_R D (o_T cI cR cS cL) (wM q cI v))) (vp_Si (fun rz => rz = nI (v 0 2))) 0 0 (fun _ => False) := by
  refine Met.ofW (cc := cX5_thrown) (maxL := 1) (ret := (some .int)) (by decide) rfl ?_
  intro p e s m args below meth cd s₁ B hml hv
  obtain ⟨rfl, hP, hK, hN⟩ := hv
  have hx := B.exec
  have hb := B.bytes
  have hrt := B.returns
  have hts := atoms_spec (ws := wsX5_thrown) B.pre
  have hown : s.vm.findClass RX5 = some m.cls := findClass_of_methodNamed B.named
  have hlocks := B.notSynchronized
  have hl := lv_entry ([.ref (q 0)]) (n := 1) (Nat.le_of_ble_eq_true rfl)
  rw [lg_entry_eq]
  generalize (lg_sl ([.ref (q 0)]) ++ List.replicate (1 - (lg_sl ([.ref (q 0)])).length) Slot.unset).toArray = ls at hl ⊢
  have hl : lv_has ls 1 [(0, .ref (q 0))] := hl
  refine lv_aload_n hx hb dX5_thrown_0 rfl (lv_at hl 0 rfl) ?_
  refine va_get (D := D) (ci := 5) (v := .int (nI (v 0 2))) (C := RX5) (T := TX5) (N := 10) hx hb hts inX5_thrown_X5 hown hK hP 0 rfl rfl 5 (by decide) (hts (.fieldLink RX5 22 "OddNoticeModel" "thrown" "I") (List.mem_of_getElem? (i := 1) (by decide +kernel))) (fun _ h9 => h9) rfl dX5_thrown_1 ?_
  exact W.iret (v := nI (v 0 2)) hx hb hrt (fun t ht hW => ⟨_, rfl, rfl, ht⟩) (fun _ h => nomatch h) dX5_thrown_4
theorem inX5_fails_X5 : ∀ w ∈ wsX50, w ∈ wsX5_fails := by decide +kernel
set_option maxHeartbeats 4000000 in
set_option maxRecDepth 100000 in
theorem k_X5_fails (l : Launch) (D : va_G) (cI cR cS cL : ClassId) (sz : Nat) (q : Nat → Nat) (v : Nat → Nat → Nat) (so : Nat) : Met l yX5_fails wsX5_fails ({ frames := 0, cells := 0, slots := 0, locals := 0 }) (va_Pc [.ref (q 0), .int (nI so)] (o_B D (o_T cI cR cS cL) (wM q cI v) sz)) (va_Qi (fun rz (_ : Unit) => rz = nI 0) (fun (_ : Unit) t => va_P D vwCl (wM q cI (va_up v 0 (va_up (v 0) 2 so))) t.heap) (va_A (wM q cI v) sz)) 0 0 (va_A (wM q cI v) sz) := by
  refine Met.ofW (cc := cX5_fails) (maxL := 2) (ret := (some .int)) (by decide) rfl ?_
  intro p e s m args below meth cd s₁ B hml hv
  obtain ⟨rfl, hsz, hP, hK, hD0, hN⟩ := hv
  have hx := B.exec
  have hb := B.bytes
  have hrt := B.returns
  have hts := atoms_spec (ws := wsX5_fails) B.pre
  have hown : s.vm.findClass RX5 = some m.cls := findClass_of_methodNamed B.named
  have hlocks := B.notSynchronized
  subst hsz
  have hD := hD0.self (sz := s.heap.size)
  generalize hAe : va_A (wM q cI v) s.heap.size = A at hD ⊢
  have hA : ∀ q : Nat, s.heap.size ≤ q → A q := fun q h => by rw [← hAe]; exact Or.inr h
  have hS : va_S A s.heap s.heap [] := va_S.rf
  have hl := lv_entry ([.ref (q 0), .int (nI so)]) (n := 2) (Nat.le_of_ble_eq_true rfl)
  rw [lg_entry_eq]
  generalize (lg_sl ([.ref (q 0), .int (nI so)]) ++ List.replicate (2 - (lg_sl ([.ref (q 0), .int (nI so)])).length) Slot.unset).toArray = ls at hl ⊢
  have hl : lv_has ls 2 [(0, .ref (q 0)), (1, .int (nI so))] := hl
  refine lv_aload_n hx hb dX5_fails_0 rfl (lv_at hl 0 rfl) ?_
  refine lv_iload_n hx hb dX5_fails_1 rfl (lv_at hl 1 rfl) ?_
  refine va_put (D := D) (ci := 5) (v := .int (nI so)) (ty := .int) (C := RX5) (T := TX5) (N := 10) hx hb hts inX5_fails_X5 tyX5 tyX5_ok nmX5 hown hK hP hD hS 0 rfl rfl 5 (by decide) (hts (.fieldLink RX5 22 "OddNoticeModel" "thrown" "I") (List.mem_of_getElem? (i := 1) (by decide +kernel))) (fun _ h9 => h9) rfl (by decide +kernel) rfl rfl (Nat.le_of_ble_eq_true rfl) dX5_fails_2 (fun H locs hP hD hS => ?_)
  have hP : va_P D vwCl (wM q cI (va_up v 0 (va_up (v 0) 2 so))) H := hP
  have hD : va_D A (wM q cI (va_up v 0 (va_up (v 0) 2 so))) := hD
  refine o_const (k := 0) hx hb dX5_fails_5 (by decide) ?_
  exact W.iret (v := nI 0) hx hb hrt (fun t ht hW => ⟨⟨_, (), rfl, rfl, by show va_P D vwCl _ t.heap; rw [ht]; exact hP⟩, hS.F ht⟩) hS.2.2 dX5_fails_6
theorem inX5_of_X5 : ∀ w ∈ wsX50, w ∈ wsX5_of := by decide +kernel
set_option maxHeartbeats 4000000 in
set_option maxRecDepth 100000 in
theorem k_X5_of (l : Launch) (D : va_G) (cI cR cS cL : ClassId) (q : Nat → Nat) (v : Nat → Nat → Nat) (r : Nat) (k : Nat) (hr : r < 4) (hk : k < 17) : Met l yX5_of wsX5_of ({ frames := 0, cells := 0, slots := 0, locals := 0 }) (va_Pc [.ref (q 0), .int (nI r), .int (nI k)] (o_R D (o_T cI cR cS cL) (wM q cI v))) (vp_Si (fun rz => rz = nI (v 1 (15 + 17 * r + k)))) 0 0 (fun _ => False) := by
  refine Met.ofW (cc := cX5_of) (maxL := 3) (ret := (some .int)) (by decide) rfl ?_
  intro p e s m args below meth cd s₁ B hml hv
  obtain ⟨rfl, hP, hK, hN⟩ := hv
  have hx := B.exec
  have hb := B.bytes
  have hrt := B.returns
  have hts := atoms_spec (ws := wsX5_of) B.pre
  have hown : s.vm.findClass RX5 = some m.cls := findClass_of_methodNamed B.named
  have hlocks := B.notSynchronized
  have hl := lv_entry ([.ref (q 0), .int (nI r), .int (nI k)]) (n := 3) (Nat.le_of_ble_eq_true rfl)
  rw [lg_entry_eq]
  generalize (lg_sl ([.ref (q 0), .int (nI r), .int (nI k)]) ++ List.replicate (3 - (lg_sl ([.ref (q 0), .int (nI r), .int (nI k)])).length) Slot.unset).toArray = ls at hl ⊢
  have hl : lv_has ls 3 [(0, .ref (q 0)), (1, .int (nI r)), (2, .int (nI k))] := hl
  refine lv_aload_n hx hb dX5_of_0 rfl (lv_at hl 0 rfl) ?_
  refine va_get (D := D) (ci := 5) (v := .ref (q 1)) (C := RX5) (T := TX5) (N := 10) hx hb hts inX5_of_X5 hown hK hP 0 rfl rfl 0 (by decide) (hts (.fieldLink RX5 7 "OddNoticeModel" "now" "[I") (List.mem_of_getElem? (i := 1) (by decide +kernel))) (fun _ h9 => h9) rfl dX5_of_1 ?_
  refine o_bipush (k := 15) hx hb dX5_of_4 (by decide) ?_
  refine o_bipush (k := 17) hx hb dX5_of_6 (by decide) ?_
  refine lv_iload_n hx hb dX5_of_8 rfl (lv_at hl 1 rfl) ?_
  refine o_imul (a := 17) (b := r) (k := (17 * r)) hx hb dX5_of_9 rfl ?_
  refine o_iadd (a := 15) (b := (17 * r)) (k := (15 + 17 * r)) hx hb dX5_of_10 rfl ?_
  refine lv_iload_n hx hb dX5_of_11 rfl (lv_at hl 2 rfl) ?_
  refine o_iadd (a := (15 + 17 * r)) (b := k) (k := (15 + 17 * r + k)) hx hb dX5_of_12 rfl ?_
  refine o_iald (v := nI (v 1 (15 + 17 * r + k))) hx hb hK hP 1 0 rfl rfl (by omega) (Nat.le_of_ble_eq_true rfl) rfl dX5_of_13 ?_
  exact W.iret (v := nI (v 1 (15 + 17 * r + k))) hx hb hrt (fun t ht hW => ⟨_, rfl, rfl, ht⟩) (fun _ h => nomatch h) dX5_of_14
theorem inX5_saves_X5 : ∀ w ∈ wsX50, w ∈ wsX5_saves := by decide +kernel
set_option maxHeartbeats 4000000 in
set_option maxRecDepth 100000 in
theorem k_X5_saves (l : Launch) (D : va_G) (cI cR cS cL : ClassId) (sz : Nat) (q : Nat → Nat) (v : Nat → Nat → Nat) (hs : v 0 0 ≤ 6) : Met l yX5_saves wsX5_saves ({ frames := 0, cells := 0, slots := 0, locals := 0 }) (va_Pc [.ref (q 0)] (o_B D (o_T cI cR cS cL) (wM q cI v) sz)) (va_Qv (fun (_ : Unit) => True) (fun (_ : Unit) t => va_P D vwCl (wM q cI (va_up (va_up v 0 (va_up (v 0) 0 (m_svs (v 0 0)))) 2 (m_svp (v 0 0) (v 1) (v 2)))) t.heap) (va_A (wM q cI v) sz)) 0 0 (va_A (wM q cI v) sz) := by
  refine Met.ofW (cc := cX5_saves) (maxL := 2) (ret := none) (by decide) rfl ?_
  intro p e s m args below meth cd s₁ B hml hv
  obtain ⟨rfl, hsz, hP, hK, hD0, hN⟩ := hv
  have hx := B.exec
  have hb := B.bytes
  have hrt := B.returns
  have hts := atoms_spec (ws := wsX5_saves) B.pre
  have hown : s.vm.findClass RX5 = some m.cls := findClass_of_methodNamed B.named
  have hlocks := B.notSynchronized
  subst hsz
  have hD := hD0.self (sz := s.heap.size)
  generalize hAe : va_A (wM q cI v) s.heap.size = A at hD ⊢
  have hA : ∀ q : Nat, s.heap.size ≤ q → A q := fun q h => by rw [← hAe]; exact Or.inr h
  have hS : va_S A s.heap s.heap [] := va_S.rf
  have hl := lv_entry ([.ref (q 0)]) (n := 2) (Nat.le_of_ble_eq_true rfl)
  rw [lg_entry_eq]
  generalize (lg_sl ([.ref (q 0)]) ++ List.replicate (2 - (lg_sl ([.ref (q 0)])).length) Slot.unset).toArray = ls at hl ⊢
  have hl : lv_has ls 2 [(0, .ref (q 0))] := hl
  refine lv_aload_n hx hb dX5_saves_0 rfl (lv_at hl 0 rfl) ?_
  refine va_get (D := D) (ci := 5) (v := .int (nI (v 0 0))) (C := RX5) (T := TX5) (N := 10) hx hb hts inX5_saves_X5 hown hK hP 0 rfl rfl 2 (by decide) (hts (.fieldLink RX5 30 "OddNoticeModel" "states" "I") (List.mem_of_getElem? (i := 1) (by decide +kernel))) (fun _ h9 => h9) rfl dX5_saves_1 ?_
  refine o_bipush (k := 6) hx hb dX5_saves_4 (by decide) ?_
  refine o_icmp_ne (tgt := 50) hx hb dX5_saves_6 (by decide) (by omega) (Nat.le_of_ble_eq_true rfl) (fun c_1 => ?_) (fun c_1 => ?_)
  · skip
    refine o_const (k := 0) hx hb dX5_saves_50 (by decide) ?_
    refine lv_istore_n (lv' := [(1, .int (nI 0)), (0, .ref (q 0))]) hx hb dX5_saves_51 rfl hl (by decide) rfl (fun ls hl => ?_)
    have lp_1 : ∀ (fu : Nat) (i : Nat), i ≤ 163 → 163 - i < fu → ∀ (H : Heap) (locs : List Loc) (hP : va_P D vwCl (wM q cI (va_up v 2 (m_put (v 1) (v 2) (v 0 0) i))) H) (hD : va_D A (wM q cI (va_up v 2 (m_put (v 1) (v 2) (v 0 0) i)))) (hS : va_S A s.heap H locs) (ls : Array Slot) (hl : lv_has ls 2 [(1, .int (nI i)), (0, .ref (q 0))]), W p l e (headSpec wsX5_saves ({ frames := 0, cells := 0, slots := 0, locals := 0 })).room s m ([.ref (q 0)] : List Value).toArray below meth cd H locs 0 0 (MQ below (va_Qv (fun (_ : Unit) => True) (fun (_ : Unit) t => va_P D vwCl (wM q cI (va_up (va_up v 0 (va_up (v 0) 0 (m_svs (v 0 0)))) 2 (m_svp (v 0 0) (v 1) (v 2)))) t.heap) A) ([.ref (q 0)] : List Value).toArray s 0 0 A) (F0 m 52 ls []) := by
      intro fu
      induction fu with
      | zero => intro i hi hm; exact absurd hm (Nat.not_lt_zero _)
      | succ fu ih_1 =>
        intro i hi hm_1 H locs hP hD hS ls hl
        refine lv_iload_n hx hb dX5_saves_52 rfl (lv_at hl 0 rfl) ?_
        refine o_sipush (k := 163) hx hb dX5_saves_53 (by decide) ?_
        refine o_icmp_ge (tgt := 86) hx hb dX5_saves_56 (by decide) (by omega) (Nat.le_of_ble_eq_true rfl) (fun c_2 => ?_) (fun c_2 => ?_)
        · skip
          refine lv_aload_n hx hb dX5_saves_86 rfl (lv_at hl 1 rfl) ?_
          refine lv_dup hx hb dX5_saves_87 rfl ?_
          refine va_get (D := D) (ci := 5) (v := .int (nI (v 0 0))) (C := RX5) (T := TX5) (N := 10) hx hb hts inX5_saves_X5 hown hK hP 0 rfl rfl 2 (by decide) (hts (.fieldLink RX5 30 "OddNoticeModel" "states" "I") (List.mem_of_getElem? (i := 1) (by decide +kernel))) (fun _ h9 => h9) rfl dX5_saves_88 ?_
          refine o_const (k := 1) hx hb dX5_saves_91 (by decide) ?_
          refine o_iadd (a := (v 0 0)) (b := 1) (k := ((v 0 0) + 1)) hx hb dX5_saves_92 rfl ?_
          refine va_put (D := D) (ci := 5) (v := .int (nI ((v 0 0) + 1))) (ty := .int) (C := RX5) (T := TX5) (N := 10) hx hb hts inX5_saves_X5 tyX5 tyX5_ok nmX5 hown hK hP hD hS 0 rfl rfl 2 (by decide) (hts (.fieldLink RX5 30 "OddNoticeModel" "states" "I") (List.mem_of_getElem? (i := 1) (by decide +kernel))) (fun _ h9 => h9) rfl (by decide +kernel) rfl rfl (Nat.le_of_ble_eq_true rfl) dX5_saves_93 (fun H locs hP hD hS => ?_)
          have hP : va_P D vwCl (wM q cI (va_up (va_up v 0 (va_up (v 0) 0 ((v 0 0) + 1))) 2 (m_put (v 1) (v 2) (v 0 0) i))) H := hP
          have hD : va_D A (wM q cI (va_up (va_up v 0 (va_up (v 0) 0 ((v 0 0) + 1))) 2 (m_put (v 1) (v 2) (v 0 0) i))) := hD
          have w_3 : (wM q cI (va_up (va_up v 0 (va_up (v 0) 0 (m_svs (v 0 0)))) 2 (m_svp (v 0 0) (v 1) (v 2)))) = (wM q cI (va_up (va_up v 0 (va_up (v 0) 0 ((v 0 0) + 1))) 2 (m_put (v 1) (v 2) (v 0 0) i))) := (by rw [show i = 163 by omega]; unfold m_svs m_svp; rw [if_neg c_1, if_neg c_1]; first | done | rfl)
          rw [← w_3] at hP
          exact W.vret hx hb hrt (fun t ht hW => ⟨⟨(), rfl, trivial, by show va_P D vwCl _ t.heap; rw [ht]; exact hP⟩, hS.F ht⟩) hS.2.2 dX5_saves_96
        · skip
          refine lv_aload_n hx hb dX5_saves_59 rfl (lv_at hl 1 rfl) ?_
          refine va_get (D := D) (ci := 5) (v := .ref (q 2)) (C := RX5) (T := TX5) (N := 10) hx hb hts inX5_saves_X5 hown hK hP 0 rfl rfl 1 (by decide) (hts (.fieldLink RX5 13 "OddNoticeModel" "past" "[I") (List.mem_of_getElem? (i := 2) (by decide +kernel))) (fun _ h9 => h9) rfl dX5_saves_60 ?_
          refine o_sipush (k := 163) hx hb dX5_saves_63 (by decide) ?_
          refine lv_aload_n hx hb dX5_saves_66 rfl (lv_at hl 1 rfl) ?_
          refine va_get (D := D) (ci := 5) (v := .int (nI (v 0 0))) (C := RX5) (T := TX5) (N := 10) hx hb hts inX5_saves_X5 hown hK hP 0 rfl rfl 2 (by decide) (hts (.fieldLink RX5 30 "OddNoticeModel" "states" "I") (List.mem_of_getElem? (i := 1) (by decide +kernel))) (fun _ h9 => h9) rfl dX5_saves_67 ?_
          refine o_imul (a := 163) (b := (v 0 0)) (k := (163 * (v 0 0))) hx hb dX5_saves_70 rfl ?_
          refine lv_iload_n hx hb dX5_saves_71 rfl (lv_at hl 0 rfl) ?_
          refine o_iadd (a := (163 * (v 0 0))) (b := i) (k := (163 * (v 0 0) + i)) hx hb dX5_saves_72 rfl ?_
          refine lv_aload_n hx hb dX5_saves_73 rfl (lv_at hl 1 rfl) ?_
          refine va_get (D := D) (ci := 5) (v := .ref (q 1)) (C := RX5) (T := TX5) (N := 10) hx hb hts inX5_saves_X5 hown hK hP 0 rfl rfl 0 (by decide) (hts (.fieldLink RX5 7 "OddNoticeModel" "now" "[I") (List.mem_of_getElem? (i := 3) (by decide +kernel))) (fun _ h9 => h9) rfl dX5_saves_74 ?_
          refine lv_iload_n hx hb dX5_saves_77 rfl (lv_at hl 0 rfl) ?_
          refine o_iald (v := nI (v 1 i)) hx hb hK hP 1 0 rfl rfl (by omega) (Nat.le_of_ble_eq_true rfl) rfl dX5_saves_78 ?_
          refine o_iast (g := (m_put (v 1) (v 2) (v 0 0) i)) hx hb hK hP hD hS 2 0 rfl rfl (by omega) (Nat.le_of_ble_eq_true rfl) dX5_saves_79 (fun H locs hP hD hS => ?_)
          have hP : va_P D vwCl (wM q cI (va_up v 2 (va_up (m_put (v 1) (v 2) (v 0 0) i) (163 * (v 0 0) + i) (v 1 i)))) H := hP
          have hD : va_D A (wM q cI (va_up v 2 (va_up (m_put (v 1) (v 2) (v 0 0) i) (163 * (v 0 0) + i) (v 1 i)))) := hD
          refine lv_iinc (v := nI (i + 1)) (lv' := [(1, .int (nI (i + 1))), (0, .ref (q 0))]) hx hb dX5_saves_80 hl (k := 0) rfl (o_inc1 _) (by decide) rfl (fun ls hl => ?_)
          refine lv_goto (tgt := 52) hx hb dX5_saves_83 (by decide) ?_
          have w_4 : (wM q cI (va_up v 2 (va_up (m_put (v 1) (v 2) (v 0 0) i) (163 * (v 0 0) + i) (v 1 i)))) = (wM q cI (va_up v 2 (m_put (v 1) (v 2) (v 0 0) (i + 1)))) := by rw [m_put_s]
          rw [w_4] at hP hD
          exact ih_1  (i + 1) (by omega) (by omega) _ _ hP hD hS ls (lv_sub hl [0, 1] rfl)
    have w_5 : (wM q cI v) = (wM q cI (va_up v 2 (m_put (v 1) (v 2) (v 0 0) 0))) := by rw [m_put_0]; first | done | rfl
    rw [w_5] at hP hD
    exact lp_1 _ 0 (by omega) (Nat.lt_succ_self _) _ _ hP hD hS ls (lv_sub hl [0, 1] rfl)
  · skip
    refine o_const (k := 0) hx hb dX5_saves_9 (by decide) ?_
    refine lv_istore_n (lv' := [(1, .int (nI 0)), (0, .ref (q 0))]) hx hb dX5_saves_10 rfl hl (by decide) rfl (fun ls hl => ?_)
    have lp_2 : ∀ (fu : Nat) (i : Nat), i ≤ 815 → 815 - i < fu → ∀ (H : Heap) (locs : List Loc) (hP : va_P D vwCl (wM q cI (va_up v 2 (m_shift (v 2) i))) H) (hD : va_D A (wM q cI (va_up v 2 (m_shift (v 2) i)))) (hS : va_S A s.heap H locs) (ls : Array Slot) (hl : lv_has ls 2 [(1, .int (nI i)), (0, .ref (q 0))]), W p l e (headSpec wsX5_saves ({ frames := 0, cells := 0, slots := 0, locals := 0 })).room s m ([.ref (q 0)] : List Value).toArray below meth cd H locs 0 0 (MQ below (va_Qv (fun (_ : Unit) => True) (fun (_ : Unit) t => va_P D vwCl (wM q cI (va_up (va_up v 0 (va_up (v 0) 0 (m_svs (v 0 0)))) 2 (m_svp (v 0 0) (v 1) (v 2)))) t.heap) A) ([.ref (q 0)] : List Value).toArray s 0 0 A) (F0 m 11 ls []) := by
      intro fu
      induction fu with
      | zero => intro i hi hm; exact absurd hm (Nat.not_lt_zero _)
      | succ fu ih_2 =>
        intro i hi hm_2 H locs hP hD hS ls hl
        refine lv_iload_n hx hb dX5_saves_11 rfl (lv_at hl 0 rfl) ?_
        refine o_sipush (k := 815) hx hb dX5_saves_12 (by decide) ?_
        refine o_icmp_ge (tgt := 40) hx hb dX5_saves_15 (by decide) (by omega) (Nat.le_of_ble_eq_true rfl) (fun c_6 => ?_) (fun c_6 => ?_)
        · skip
          refine lv_aload_n hx hb dX5_saves_40 rfl (lv_at hl 1 rfl) ?_
          refine lv_dup hx hb dX5_saves_41 rfl ?_
          refine va_get (D := D) (ci := 5) (v := .int (nI (v 0 0))) (C := RX5) (T := TX5) (N := 10) hx hb hts inX5_saves_X5 hown hK hP 0 rfl rfl 2 (by decide) (hts (.fieldLink RX5 30 "OddNoticeModel" "states" "I") (List.mem_of_getElem? (i := 1) (by decide +kernel))) (fun _ h9 => h9) rfl dX5_saves_42 ?_
          refine o_const (k := 1) hx hb dX5_saves_45 (by decide) ?_
          refine o_isub (a := (v 0 0)) (b := 1) (k := ((v 0 0) - 1)) hx hb dX5_saves_46 (by omega) rfl ?_
          refine va_put (D := D) (ci := 5) (v := .int (nI ((v 0 0) - 1))) (ty := .int) (C := RX5) (T := TX5) (N := 10) hx hb hts inX5_saves_X5 tyX5 tyX5_ok nmX5 hown hK hP hD hS 0 rfl rfl 2 (by decide) (hts (.fieldLink RX5 30 "OddNoticeModel" "states" "I") (List.mem_of_getElem? (i := 1) (by decide +kernel))) (fun _ h9 => h9) rfl (by decide +kernel) rfl rfl (Nat.le_of_ble_eq_true rfl) dX5_saves_47 (fun H locs hP hD hS => ?_)
          have hP : va_P D vwCl (wM q cI (va_up (va_up v 0 (va_up (v 0) 0 ((v 0 0) - 1))) 2 (m_shift (v 2) i))) H := hP
          have hD : va_D A (wM q cI (va_up (va_up v 0 (va_up (v 0) 0 ((v 0 0) - 1))) 2 (m_shift (v 2) i))) := hD
          refine o_const (k := 0) hx hb dX5_saves_50 (by decide) ?_
          refine lv_istore_n (lv' := [(1, .int (nI 0)), (0, .ref (q 0))]) hx hb dX5_saves_51 rfl hl (by decide) rfl (fun ls hl => ?_)
          have lp_3 : ∀ (fu : Nat) (i : Nat), i ≤ 163 → 163 - i < fu → ∀ (H : Heap) (locs : List Loc) (hP : va_P D vwCl (wM q cI (va_up (va_up v 0 (va_up (v 0) 0 ((v 0 0) - 1))) 2 (m_put (v 1) (m_shift (v 2) 815) ((v 0 0) - 1) i))) H) (hD : va_D A (wM q cI (va_up (va_up v 0 (va_up (v 0) 0 ((v 0 0) - 1))) 2 (m_put (v 1) (m_shift (v 2) 815) ((v 0 0) - 1) i)))) (hS : va_S A s.heap H locs) (ls : Array Slot) (hl : lv_has ls 2 [(1, .int (nI i)), (0, .ref (q 0))]), W p l e (headSpec wsX5_saves ({ frames := 0, cells := 0, slots := 0, locals := 0 })).room s m ([.ref (q 0)] : List Value).toArray below meth cd H locs 0 0 (MQ below (va_Qv (fun (_ : Unit) => True) (fun (_ : Unit) t => va_P D vwCl (wM q cI (va_up (va_up v 0 (va_up (v 0) 0 (m_svs (v 0 0)))) 2 (m_svp (v 0 0) (v 1) (v 2)))) t.heap) A) ([.ref (q 0)] : List Value).toArray s 0 0 A) (F0 m 52 ls []) := by
            intro fu
            induction fu with
            | zero => intro i hi hm; exact absurd hm (Nat.not_lt_zero _)
            | succ fu ih_3 =>
              intro i hi hm_3 H locs hP hD hS ls hl
              refine lv_iload_n hx hb dX5_saves_52 rfl (lv_at hl 0 rfl) ?_
              refine o_sipush (k := 163) hx hb dX5_saves_53 (by decide) ?_
              refine o_icmp_ge (tgt := 86) hx hb dX5_saves_56 (by decide) (by omega) (Nat.le_of_ble_eq_true rfl) (fun c_7 => ?_) (fun c_7 => ?_)
              · skip
                refine lv_aload_n hx hb dX5_saves_86 rfl (lv_at hl 1 rfl) ?_
                refine lv_dup hx hb dX5_saves_87 rfl ?_
                refine va_get (D := D) (ci := 5) (v := .int (nI ((v 0 0) - 1))) (C := RX5) (T := TX5) (N := 10) hx hb hts inX5_saves_X5 hown hK hP 0 rfl rfl 2 (by decide) (hts (.fieldLink RX5 30 "OddNoticeModel" "states" "I") (List.mem_of_getElem? (i := 1) (by decide +kernel))) (fun _ h9 => h9) rfl dX5_saves_88 ?_
                refine o_const (k := 1) hx hb dX5_saves_91 (by decide) ?_
                refine o_iadd (a := ((v 0 0) - 1)) (b := 1) (k := ((v 0 0) - 1 + 1)) hx hb dX5_saves_92 rfl ?_
                refine va_put (D := D) (ci := 5) (v := .int (nI ((v 0 0) - 1 + 1))) (ty := .int) (C := RX5) (T := TX5) (N := 10) hx hb hts inX5_saves_X5 tyX5 tyX5_ok nmX5 hown hK hP hD hS 0 rfl rfl 2 (by decide) (hts (.fieldLink RX5 30 "OddNoticeModel" "states" "I") (List.mem_of_getElem? (i := 1) (by decide +kernel))) (fun _ h9 => h9) rfl (by decide +kernel) rfl rfl (Nat.le_of_ble_eq_true rfl) dX5_saves_93 (fun H locs hP hD hS => ?_)
                have hP : va_P D vwCl (wM q cI (va_up (va_up v 0 (va_up (v 0) 0 ((v 0 0) - 1 + 1))) 2 (m_put (v 1) (m_shift (v 2) 815) ((v 0 0) - 1) i))) H := hP
                have hD : va_D A (wM q cI (va_up (va_up v 0 (va_up (v 0) 0 ((v 0 0) - 1 + 1))) 2 (m_put (v 1) (m_shift (v 2) 815) ((v 0 0) - 1) i))) := hD
                have w_8 : (wM q cI (va_up (va_up v 0 (va_up (v 0) 0 (m_svs (v 0 0)))) 2 (m_svp (v 0 0) (v 1) (v 2)))) = (wM q cI (va_up (va_up v 0 (va_up (v 0) 0 ((v 0 0) - 1 + 1))) 2 (m_put (v 1) (m_shift (v 2) 815) ((v 0 0) - 1) i))) := (by rw [show i = 163 by omega]; unfold m_svs m_svp; rw [if_pos c_1, if_pos c_1]; first | done | rfl)
                rw [← w_8] at hP
                exact W.vret hx hb hrt (fun t ht hW => ⟨⟨(), rfl, trivial, by show va_P D vwCl _ t.heap; rw [ht]; exact hP⟩, hS.F ht⟩) hS.2.2 dX5_saves_96
              · skip
                refine lv_aload_n hx hb dX5_saves_59 rfl (lv_at hl 1 rfl) ?_
                refine va_get (D := D) (ci := 5) (v := .ref (q 2)) (C := RX5) (T := TX5) (N := 10) hx hb hts inX5_saves_X5 hown hK hP 0 rfl rfl 1 (by decide) (hts (.fieldLink RX5 13 "OddNoticeModel" "past" "[I") (List.mem_of_getElem? (i := 2) (by decide +kernel))) (fun _ h9 => h9) rfl dX5_saves_60 ?_
                refine o_sipush (k := 163) hx hb dX5_saves_63 (by decide) ?_
                refine lv_aload_n hx hb dX5_saves_66 rfl (lv_at hl 1 rfl) ?_
                refine va_get (D := D) (ci := 5) (v := .int (nI ((v 0 0) - 1))) (C := RX5) (T := TX5) (N := 10) hx hb hts inX5_saves_X5 hown hK hP 0 rfl rfl 2 (by decide) (hts (.fieldLink RX5 30 "OddNoticeModel" "states" "I") (List.mem_of_getElem? (i := 1) (by decide +kernel))) (fun _ h9 => h9) rfl dX5_saves_67 ?_
                refine o_imul (a := 163) (b := ((v 0 0) - 1)) (k := (163 * ((v 0 0) - 1))) hx hb dX5_saves_70 rfl ?_
                refine lv_iload_n hx hb dX5_saves_71 rfl (lv_at hl 0 rfl) ?_
                refine o_iadd (a := (163 * ((v 0 0) - 1))) (b := i) (k := (163 * ((v 0 0) - 1) + i)) hx hb dX5_saves_72 rfl ?_
                refine lv_aload_n hx hb dX5_saves_73 rfl (lv_at hl 1 rfl) ?_
                refine va_get (D := D) (ci := 5) (v := .ref (q 1)) (C := RX5) (T := TX5) (N := 10) hx hb hts inX5_saves_X5 hown hK hP 0 rfl rfl 0 (by decide) (hts (.fieldLink RX5 7 "OddNoticeModel" "now" "[I") (List.mem_of_getElem? (i := 3) (by decide +kernel))) (fun _ h9 => h9) rfl dX5_saves_74 ?_
                refine lv_iload_n hx hb dX5_saves_77 rfl (lv_at hl 0 rfl) ?_
                refine o_iald (v := nI (v 1 i)) hx hb hK hP 1 0 rfl rfl (by omega) (Nat.le_of_ble_eq_true rfl) rfl dX5_saves_78 ?_
                refine o_iast (g := (m_put (v 1) (m_shift (v 2) 815) ((v 0 0) - 1) i)) hx hb hK hP hD hS 2 0 rfl rfl (by omega) (Nat.le_of_ble_eq_true rfl) dX5_saves_79 (fun H locs hP hD hS => ?_)
                have hP : va_P D vwCl (wM q cI (va_up (va_up v 0 (va_up (v 0) 0 ((v 0 0) - 1))) 2 (va_up (m_put (v 1) (m_shift (v 2) 815) ((v 0 0) - 1) i) (163 * ((v 0 0) - 1) + i) (v 1 i)))) H := hP
                have hD : va_D A (wM q cI (va_up (va_up v 0 (va_up (v 0) 0 ((v 0 0) - 1))) 2 (va_up (m_put (v 1) (m_shift (v 2) 815) ((v 0 0) - 1) i) (163 * ((v 0 0) - 1) + i) (v 1 i)))) := hD
                refine lv_iinc (v := nI (i + 1)) (lv' := [(1, .int (nI (i + 1))), (0, .ref (q 0))]) hx hb dX5_saves_80 hl (k := 0) rfl (o_inc1 _) (by decide) rfl (fun ls hl => ?_)
                refine lv_goto (tgt := 52) hx hb dX5_saves_83 (by decide) ?_
                have w_9 : (wM q cI (va_up (va_up v 0 (va_up (v 0) 0 ((v 0 0) - 1))) 2 (va_up (m_put (v 1) (m_shift (v 2) 815) ((v 0 0) - 1) i) (163 * ((v 0 0) - 1) + i) (v 1 i)))) = (wM q cI (va_up (va_up v 0 (va_up (v 0) 0 ((v 0 0) - 1))) 2 (m_put (v 1) (m_shift (v 2) 815) ((v 0 0) - 1) (i + 1)))) := by rw [m_put_s]
                rw [w_9] at hP hD
                exact ih_3  (i + 1) (by omega) (by omega) _ _ hP hD hS ls (lv_sub hl [0, 1] rfl)
          have w_10 : (wM q cI (va_up (va_up v 0 (va_up (v 0) 0 ((v 0 0) - 1))) 2 (m_shift (v 2) i))) = (wM q cI (va_up (va_up v 0 (va_up (v 0) 0 ((v 0 0) - 1))) 2 (m_put (v 1) (m_shift (v 2) 815) ((v 0 0) - 1) 0))) := by rw [show i = 815 by omega, m_put_0]; first | done | rfl
          rw [w_10] at hP hD
          exact lp_3 _ 0 (by omega) (Nat.lt_succ_self _) _ _ hP hD hS ls (lv_sub hl [0, 1] rfl)
        · skip
          refine lv_aload_n hx hb dX5_saves_18 rfl (lv_at hl 1 rfl) ?_
          refine va_get (D := D) (ci := 5) (v := .ref (q 2)) (C := RX5) (T := TX5) (N := 10) hx hb hts inX5_saves_X5 hown hK hP 0 rfl rfl 1 (by decide) (hts (.fieldLink RX5 13 "OddNoticeModel" "past" "[I") (List.mem_of_getElem? (i := 2) (by decide +kernel))) (fun _ h9 => h9) rfl dX5_saves_19 ?_
          refine lv_iload_n hx hb dX5_saves_22 rfl (lv_at hl 0 rfl) ?_
          refine lv_aload_n hx hb dX5_saves_23 rfl (lv_at hl 1 rfl) ?_
          refine va_get (D := D) (ci := 5) (v := .ref (q 2)) (C := RX5) (T := TX5) (N := 10) hx hb hts inX5_saves_X5 hown hK hP 0 rfl rfl 1 (by decide) (hts (.fieldLink RX5 13 "OddNoticeModel" "past" "[I") (List.mem_of_getElem? (i := 2) (by decide +kernel))) (fun _ h9 => h9) rfl dX5_saves_24 ?_
          refine lv_iload_n hx hb dX5_saves_27 rfl (lv_at hl 0 rfl) ?_
          refine o_sipush (k := 163) hx hb dX5_saves_28 (by decide) ?_
          refine o_iadd (a := i) (b := 163) (k := (i + 163)) hx hb dX5_saves_31 rfl ?_
          refine o_iald (v := nI ((m_shift (v 2) i) (i + 163))) hx hb hK hP 2 0 rfl rfl (by omega) (Nat.le_of_ble_eq_true rfl) rfl dX5_saves_32 ?_
          refine o_iast (g := (m_shift (v 2) i)) hx hb hK hP hD hS 2 0 rfl rfl (by omega) (Nat.le_of_ble_eq_true rfl) dX5_saves_33 (fun H locs hP hD hS => ?_)
          have hP : va_P D vwCl (wM q cI (va_up v 2 (va_up (m_shift (v 2) i) i ((m_shift (v 2) i) (i + 163))))) H := hP
          have hD : va_D A (wM q cI (va_up v 2 (va_up (m_shift (v 2) i) i ((m_shift (v 2) i) (i + 163))))) := hD
          refine lv_iinc (v := nI (i + 1)) (lv' := [(1, .int (nI (i + 1))), (0, .ref (q 0))]) hx hb dX5_saves_34 hl (k := 0) rfl (o_inc1 _) (by decide) rfl (fun ls hl => ?_)
          refine lv_goto (tgt := 11) hx hb dX5_saves_37 (by decide) ?_
          have w_11 : (wM q cI (va_up v 2 (va_up (m_shift (v 2) i) i ((m_shift (v 2) i) (i + 163))))) = (wM q cI (va_up v 2 (m_shift (v 2) (i + 1)))) := by rw [m_shift_s]
          rw [w_11] at hP hD
          exact ih_2  (i + 1) (by omega) (by omega) _ _ hP hD hS ls (lv_sub hl [0, 1] rfl)
    have w_12 : (wM q cI v) = (wM q cI (va_up v 2 (m_shift (v 2) 0))) := by rw [m_shift_0]; first | done | rfl
    rw [w_12] at hP hD
    exact lp_2 _ 0 (by omega) (Nat.lt_succ_self _) _ _ hP hD hS ls (lv_sub hl [0, 1] rfl)
theorem inX5_isOdd_X5 : ∀ w ∈ wsX50, w ∈ wsX5_isOdd := by decide +kernel
set_option maxHeartbeats 4000000 in
set_option maxRecDepth 100000 in
theorem k_X5_isOdd (l : Launch) (D : va_G) (cI cR cS cL : ClassId) (q : Nat → Nat) (v : Nat → Nat → Nat) (hn : v 1 0 < 2 ^ 31) : Met l yX5_isOdd wsX5_isOdd ({ frames := 0, cells := 0, slots := 0, locals := 0 }) (va_Pc [.ref (q 0)] (o_R D (o_T cI cR cS cL) (wM q cI v))) (vp_Si (fun rz => rz = nI (bn (v 1 0 % 2 = 1)))) 0 0 (fun _ => False) := by
  refine Met.ofW (cc := cX5_isOdd) (maxL := 1) (ret := (some .boolean)) (by decide) rfl ?_
  intro p e s m args below meth cd s₁ B hml hv
  obtain ⟨rfl, hP, hK, hN⟩ := hv
  have hx := B.exec
  have hb := B.bytes
  have hrt := B.returns
  have hts := atoms_spec (ws := wsX5_isOdd) B.pre
  have hown : s.vm.findClass RX5 = some m.cls := findClass_of_methodNamed B.named
  have hlocks := B.notSynchronized
  have hl := lv_entry ([.ref (q 0)]) (n := 1) (Nat.le_of_ble_eq_true rfl)
  rw [lg_entry_eq]
  generalize (lg_sl ([.ref (q 0)]) ++ List.replicate (1 - (lg_sl ([.ref (q 0)])).length) Slot.unset).toArray = ls at hl ⊢
  have hl : lv_has ls 1 [(0, .ref (q 0))] := hl
  refine lv_aload_n hx hb dX5_isOdd_0 rfl (lv_at hl 0 rfl) ?_
  refine va_get (D := D) (ci := 5) (v := .ref (q 1)) (C := RX5) (T := TX5) (N := 10) hx hb hts inX5_isOdd_X5 hown hK hP 0 rfl rfl 0 (by decide) (hts (.fieldLink RX5 7 "OddNoticeModel" "now" "[I") (List.mem_of_getElem? (i := 1) (by decide +kernel))) (fun _ h9 => h9) rfl dX5_isOdd_1 ?_
  refine o_const (k := 0) hx hb dX5_isOdd_4 (by decide) ?_
  refine o_iald (v := nI (v 1 0)) hx hb hK hP 1 0 rfl rfl (Nat.le_of_ble_eq_true rfl) (Nat.le_of_ble_eq_true rfl) rfl dX5_isOdd_5 ?_
  refine o_const (k := 2) hx hb dX5_isOdd_6 (by decide) ?_
  refine o_irem (a := (v 1 0)) (b := 2) (k := ((v 1 0) % 2)) hx hb dX5_isOdd_7 (by omega) (by decide) (Nat.le_of_ble_eq_true rfl) rfl ?_
  refine o_const (k := 1) hx hb dX5_isOdd_8 (by decide) ?_
  refine o_icmp_ne (tgt := 16) hx hb dX5_isOdd_9 (by decide) (by omega) (Nat.le_of_ble_eq_true rfl) (fun c_1 => ?_) (fun c_1 => ?_)
  · skip
    refine o_const (k := 0) hx hb dX5_isOdd_16 (by decide) ?_
    exact W.zret (v := nI 0) hx hb hrt rfl (fun t ht hW => ⟨_, rfl, (congrArg nI (Eq.symm (bn_f (by omega)))), ht⟩) (fun _ h => nomatch h) dX5_isOdd_17
  · skip
    refine o_const (k := 1) hx hb dX5_isOdd_12 (by decide) ?_
    refine lv_goto (tgt := 17) hx hb dX5_isOdd_13 (by decide) ?_
    exact W.zret (v := nI 1) hx hb hrt rfl (fun t ht hW => ⟨_, rfl, (congrArg nI (Eq.symm (bn_t (by omega)))), ht⟩) (fun _ h => nomatch h) dX5_isOdd_17
theorem inX5_mode_X5 : ∀ w ∈ wsX50, w ∈ wsX5_mode := by decide +kernel
set_option maxHeartbeats 4000000 in
set_option maxRecDepth 100000 in
theorem k_X5_mode (l : Launch) (D : va_G) (cI cR cS cL : ClassId) (q : Nat → Nat) (v : Nat → Nat → Nat) (c : Nat) (hc : c < 3) (hw : ∀ k, v 1 k < 2 ^ 32) (h4 : v 1 4 < 2 ^ 31) : Met l yX5_mode wsX5_mode ({ frames := 0, cells := 0, slots := 0, locals := 0 }) (va_Pc [.ref (q 0), .int (nI c)] (o_R D (o_T cI cR cS cL) (wM q cI v))) (vp_Si (fun rz => rz = nI (m_mode (v 1) c))) 0 0 (fun _ => False) := by
  refine Met.ofW (cc := cX5_mode) (maxL := 3) (ret := (some .int)) (by decide) rfl ?_
  intro p e s m args below meth cd s₁ B hml hv
  obtain ⟨rfl, hP, hK, hN⟩ := hv
  have hx := B.exec
  have hb := B.bytes
  have hrt := B.returns
  have hts := atoms_spec (ws := wsX5_mode) B.pre
  have hown : s.vm.findClass RX5 = some m.cls := findClass_of_methodNamed B.named
  have hlocks := B.notSynchronized
  have hl := lv_entry ([.ref (q 0), .int (nI c)]) (n := 3) (Nat.le_of_ble_eq_true rfl)
  rw [lg_entry_eq]
  generalize (lg_sl ([.ref (q 0), .int (nI c)]) ++ List.replicate (3 - (lg_sl ([.ref (q 0), .int (nI c)])).length) Slot.unset).toArray = ls at hl ⊢
  have hl : lv_has ls 3 [(0, .ref (q 0)), (1, .int (nI c))] := hl
  refine lv_aload_n hx hb dX5_mode_0 rfl (lv_at hl 0 rfl) ?_
  refine va_get (D := D) (ci := 5) (v := .ref (q 1)) (C := RX5) (T := TX5) (N := 10) hx hb hts inX5_mode_X5 hown hK hP 0 rfl rfl 0 (by decide) (hts (.fieldLink RX5 7 "OddNoticeModel" "now" "[I") (List.mem_of_getElem? (i := 1) (by decide +kernel))) (fun _ h9 => h9) rfl dX5_mode_1 ?_
  refine o_const (k := 4) hx hb dX5_mode_4 (by decide) ?_
  refine o_iald (v := nI (v 1 4)) hx hb hK hP 1 0 rfl rfl (Nat.le_of_ble_eq_true rfl) (Nat.le_of_ble_eq_true rfl) rfl dX5_mode_5 ?_
  have f_1 := hw 4
  refine o_if_le (tgt := 19) hx hb dX5_mode_6 (by decide) (by omega) (fun c_2 => ?_) (fun c_2 => ?_)
  · skip
    refine lv_aload_n hx hb dX5_mode_19 rfl (lv_at hl 0 rfl) ?_
    refine va_get (D := D) (ci := 5) (v := .ref (q 1)) (C := RX5) (T := TX5) (N := 10) hx hb hts inX5_mode_X5 hown hK hP 0 rfl rfl 0 (by decide) (hts (.fieldLink RX5 7 "OddNoticeModel" "now" "[I") (List.mem_of_getElem? (i := 1) (by decide +kernel))) (fun _ h9 => h9) rfl dX5_mode_20 ?_
    refine o_const (k := 4) hx hb dX5_mode_23 (by decide) ?_
    refine o_iald (v := nI (v 1 4)) hx hb hK hP 1 0 rfl rfl (Nat.le_of_ble_eq_true rfl) (Nat.le_of_ble_eq_true rfl) rfl dX5_mode_24 ?_
    refine o_const (k := 1) hx hb dX5_mode_25 (by decide) ?_
    refine o_icmp_le (tgt := 44) hx hb dX5_mode_26 (by decide) (by omega) (Nat.le_of_ble_eq_true rfl) (fun c_3 => ?_) (fun c_3 => ?_)
    · skip
      refine o_const (k := 0) hx hb dX5_mode_44 (by decide) ?_
      refine lv_istore_n (lv' := [(2, .int (nI 0)), (0, .ref (q 0)), (1, .int (nI c))]) hx hb dX5_mode_45 rfl hl (by decide) rfl (fun ls hl => ?_)
      refine lv_aload_n hx hb dX5_mode_46 rfl (lv_at hl 1 rfl) ?_
      refine va_get (D := D) (ci := 5) (v := .ref (q 1)) (C := RX5) (T := TX5) (N := 10) hx hb hts inX5_mode_X5 hown hK hP 0 rfl rfl 0 (by decide) (hts (.fieldLink RX5 7 "OddNoticeModel" "now" "[I") (List.mem_of_getElem? (i := 1) (by decide +kernel))) (fun _ h9 => h9) rfl dX5_mode_47 ?_
      refine o_const (k := 3) hx hb dX5_mode_50 (by decide) ?_
      refine o_iald (v := nI (v 1 3)) hx hb hK hP 1 0 rfl rfl (Nat.le_of_ble_eq_true rfl) (Nat.le_of_ble_eq_true rfl) rfl dX5_mode_51 ?_
      have f_4 := hw 3
      refine lv_iload_n hx hb dX5_mode_52 rfl (lv_at hl 2 rfl) ?_
      refine o_icmp_ne (tgt := 60) hx hb dX5_mode_53 (by decide) (by omega) (by omega) (fun c_5 => ?_) (fun c_5 => ?_)
      · skip
        refine lv_iload_n hx hb dX5_mode_60 rfl (lv_at hl 0 rfl) ?_
        refine o_if_eq (tgt := 68) hx hb dX5_mode_61 (by decide) (Nat.le_of_ble_eq_true rfl) (fun _ => ?_) (fun c0 => absurd c0 (by decide))
        refine o_const (k := 0) hx hb dX5_mode_68 (by decide) ?_
        exact W.iret (v := nI 0) hx hb hrt (fun t ht hW => ⟨_, rfl, (congrArg nI (by unfold m_mode; (repeat' split) <;> omega)), ht⟩) (fun _ h => nomatch h) dX5_mode_69
      · skip
        refine o_const (k := 1) hx hb dX5_mode_56 (by decide) ?_
        refine lv_goto (tgt := 69) hx hb dX5_mode_57 (by decide) ?_
        exact W.iret (v := nI 1) hx hb hrt (fun t ht hW => ⟨_, rfl, (congrArg nI (by unfold m_mode; (repeat' split) <;> omega)), ht⟩) (fun _ h => nomatch h) dX5_mode_69
    · skip
      refine lv_aload_n hx hb dX5_mode_29 rfl (lv_at hl 0 rfl) ?_
      refine va_get (D := D) (ci := 5) (v := .ref (q 1)) (C := RX5) (T := TX5) (N := 10) hx hb hts inX5_mode_X5 hown hK hP 0 rfl rfl 0 (by decide) (hts (.fieldLink RX5 7 "OddNoticeModel" "now" "[I") (List.mem_of_getElem? (i := 1) (by decide +kernel))) (fun _ h9 => h9) rfl dX5_mode_30 ?_
      refine o_bipush (k := 6) hx hb dX5_mode_33 (by decide) ?_
      refine o_iald (v := nI (v 1 6)) hx hb hK hP 1 0 rfl rfl (Nat.le_of_ble_eq_true rfl) (Nat.le_of_ble_eq_true rfl) rfl dX5_mode_35 ?_
      have f_6 := hw 6
      refine lv_iload_n hx hb dX5_mode_36 rfl (lv_at hl 1 rfl) ?_
      refine o_icmp_ne (tgt := 44) hx hb dX5_mode_37 (by decide) (by omega) (by omega) (fun c_7 => ?_) (fun c_7 => ?_)
      · skip
        refine o_const (k := 0) hx hb dX5_mode_44 (by decide) ?_
        refine lv_istore_n (lv' := [(2, .int (nI 0)), (0, .ref (q 0)), (1, .int (nI c))]) hx hb dX5_mode_45 rfl hl (by decide) rfl (fun ls hl => ?_)
        refine lv_aload_n hx hb dX5_mode_46 rfl (lv_at hl 1 rfl) ?_
        refine va_get (D := D) (ci := 5) (v := .ref (q 1)) (C := RX5) (T := TX5) (N := 10) hx hb hts inX5_mode_X5 hown hK hP 0 rfl rfl 0 (by decide) (hts (.fieldLink RX5 7 "OddNoticeModel" "now" "[I") (List.mem_of_getElem? (i := 1) (by decide +kernel))) (fun _ h9 => h9) rfl dX5_mode_47 ?_
        refine o_const (k := 3) hx hb dX5_mode_50 (by decide) ?_
        refine o_iald (v := nI (v 1 3)) hx hb hK hP 1 0 rfl rfl (Nat.le_of_ble_eq_true rfl) (Nat.le_of_ble_eq_true rfl) rfl dX5_mode_51 ?_
        have f_8 := hw 3
        refine lv_iload_n hx hb dX5_mode_52 rfl (lv_at hl 2 rfl) ?_
        refine o_icmp_ne (tgt := 60) hx hb dX5_mode_53 (by decide) (by omega) (by omega) (fun c_9 => ?_) (fun c_9 => ?_)
        · skip
          refine lv_iload_n hx hb dX5_mode_60 rfl (lv_at hl 0 rfl) ?_
          refine o_if_eq (tgt := 68) hx hb dX5_mode_61 (by decide) (Nat.le_of_ble_eq_true rfl) (fun _ => ?_) (fun c0 => absurd c0 (by decide))
          refine o_const (k := 0) hx hb dX5_mode_68 (by decide) ?_
          exact W.iret (v := nI 0) hx hb hrt (fun t ht hW => ⟨_, rfl, (congrArg nI (by unfold m_mode; (repeat' split) <;> omega)), ht⟩) (fun _ h => nomatch h) dX5_mode_69
        · skip
          refine o_const (k := 1) hx hb dX5_mode_56 (by decide) ?_
          refine lv_goto (tgt := 69) hx hb dX5_mode_57 (by decide) ?_
          exact W.iret (v := nI 1) hx hb hrt (fun t ht hW => ⟨_, rfl, (congrArg nI (by unfold m_mode; (repeat' split) <;> omega)), ht⟩) (fun _ h => nomatch h) dX5_mode_69
      · skip
        refine o_const (k := 1) hx hb dX5_mode_40 (by decide) ?_
        refine lv_goto (tgt := 45) hx hb dX5_mode_41 (by decide) ?_
        refine lv_istore_n (lv' := [(2, .int (nI 1)), (0, .ref (q 0)), (1, .int (nI c))]) hx hb dX5_mode_45 rfl hl (by decide) rfl (fun ls hl => ?_)
        refine lv_aload_n hx hb dX5_mode_46 rfl (lv_at hl 1 rfl) ?_
        refine va_get (D := D) (ci := 5) (v := .ref (q 1)) (C := RX5) (T := TX5) (N := 10) hx hb hts inX5_mode_X5 hown hK hP 0 rfl rfl 0 (by decide) (hts (.fieldLink RX5 7 "OddNoticeModel" "now" "[I") (List.mem_of_getElem? (i := 1) (by decide +kernel))) (fun _ h9 => h9) rfl dX5_mode_47 ?_
        refine o_const (k := 3) hx hb dX5_mode_50 (by decide) ?_
        refine o_iald (v := nI (v 1 3)) hx hb hK hP 1 0 rfl rfl (Nat.le_of_ble_eq_true rfl) (Nat.le_of_ble_eq_true rfl) rfl dX5_mode_51 ?_
        have f_10 := hw 3
        refine lv_iload_n hx hb dX5_mode_52 rfl (lv_at hl 2 rfl) ?_
        refine o_icmp_ne (tgt := 60) hx hb dX5_mode_53 (by decide) (by omega) (by omega) (fun c_11 => ?_) (fun c_11 => ?_)
        · skip
          refine lv_iload_n hx hb dX5_mode_60 rfl (lv_at hl 0 rfl) ?_
          refine o_if_eq (tgt := 68) hx hb dX5_mode_61 (by decide) (Nat.le_of_ble_eq_true rfl) (fun c0 => absurd c0 (by decide)) (fun _ => ?_)
          refine o_const (k := 2) hx hb dX5_mode_64 (by decide) ?_
          refine lv_goto (tgt := 69) hx hb dX5_mode_65 (by decide) ?_
          exact W.iret (v := nI 2) hx hb hrt (fun t ht hW => ⟨_, rfl, (congrArg nI (by unfold m_mode; (repeat' split) <;> omega)), ht⟩) (fun _ h => nomatch h) dX5_mode_69
        · skip
          refine o_const (k := 1) hx hb dX5_mode_56 (by decide) ?_
          refine lv_goto (tgt := 69) hx hb dX5_mode_57 (by decide) ?_
          exact W.iret (v := nI 1) hx hb hrt (fun t ht hW => ⟨_, rfl, (congrArg nI (by unfold m_mode; (repeat' split) <;> omega)), ht⟩) (fun _ h => nomatch h) dX5_mode_69
  · skip
    refine lv_aload_n hx hb dX5_mode_9 rfl (lv_at hl 0 rfl) ?_
    refine va_get (D := D) (ci := 5) (v := .ref (q 1)) (C := RX5) (T := TX5) (N := 10) hx hb hts inX5_mode_X5 hown hK hP 0 rfl rfl 0 (by decide) (hts (.fieldLink RX5 7 "OddNoticeModel" "now" "[I") (List.mem_of_getElem? (i := 1) (by decide +kernel))) (fun _ h9 => h9) rfl dX5_mode_10 ?_
    refine o_const (k := 5) hx hb dX5_mode_13 (by decide) ?_
    refine o_iald (v := nI (v 1 5)) hx hb hK hP 1 0 rfl rfl (Nat.le_of_ble_eq_true rfl) (Nat.le_of_ble_eq_true rfl) rfl dX5_mode_14 ?_
    have f_12 := hw 5
    refine lv_iload_n hx hb dX5_mode_15 rfl (lv_at hl 1 rfl) ?_
    refine o_icmp_eq (tgt := 40) hx hb dX5_mode_16 (by decide) (by omega) (by omega) (fun c_13 => ?_) (fun c_13 => ?_)
    · skip
      refine o_const (k := 1) hx hb dX5_mode_40 (by decide) ?_
      refine lv_goto (tgt := 45) hx hb dX5_mode_41 (by decide) ?_
      refine lv_istore_n (lv' := [(2, .int (nI 1)), (0, .ref (q 0)), (1, .int (nI c))]) hx hb dX5_mode_45 rfl hl (by decide) rfl (fun ls hl => ?_)
      refine lv_aload_n hx hb dX5_mode_46 rfl (lv_at hl 1 rfl) ?_
      refine va_get (D := D) (ci := 5) (v := .ref (q 1)) (C := RX5) (T := TX5) (N := 10) hx hb hts inX5_mode_X5 hown hK hP 0 rfl rfl 0 (by decide) (hts (.fieldLink RX5 7 "OddNoticeModel" "now" "[I") (List.mem_of_getElem? (i := 1) (by decide +kernel))) (fun _ h9 => h9) rfl dX5_mode_47 ?_
      refine o_const (k := 3) hx hb dX5_mode_50 (by decide) ?_
      refine o_iald (v := nI (v 1 3)) hx hb hK hP 1 0 rfl rfl (Nat.le_of_ble_eq_true rfl) (Nat.le_of_ble_eq_true rfl) rfl dX5_mode_51 ?_
      have f_14 := hw 3
      refine lv_iload_n hx hb dX5_mode_52 rfl (lv_at hl 2 rfl) ?_
      refine o_icmp_ne (tgt := 60) hx hb dX5_mode_53 (by decide) (by omega) (by omega) (fun c_15 => ?_) (fun c_15 => ?_)
      · skip
        refine lv_iload_n hx hb dX5_mode_60 rfl (lv_at hl 0 rfl) ?_
        refine o_if_eq (tgt := 68) hx hb dX5_mode_61 (by decide) (Nat.le_of_ble_eq_true rfl) (fun c0 => absurd c0 (by decide)) (fun _ => ?_)
        refine o_const (k := 2) hx hb dX5_mode_64 (by decide) ?_
        refine lv_goto (tgt := 69) hx hb dX5_mode_65 (by decide) ?_
        exact W.iret (v := nI 2) hx hb hrt (fun t ht hW => ⟨_, rfl, (congrArg nI (by unfold m_mode; (repeat' split) <;> omega)), ht⟩) (fun _ h => nomatch h) dX5_mode_69
      · skip
        refine o_const (k := 1) hx hb dX5_mode_56 (by decide) ?_
        refine lv_goto (tgt := 69) hx hb dX5_mode_57 (by decide) ?_
        exact W.iret (v := nI 1) hx hb hrt (fun t ht hW => ⟨_, rfl, (congrArg nI (by unfold m_mode; (repeat' split) <;> omega)), ht⟩) (fun _ h => nomatch h) dX5_mode_69
    · skip
      refine lv_aload_n hx hb dX5_mode_19 rfl (lv_at hl 0 rfl) ?_
      refine va_get (D := D) (ci := 5) (v := .ref (q 1)) (C := RX5) (T := TX5) (N := 10) hx hb hts inX5_mode_X5 hown hK hP 0 rfl rfl 0 (by decide) (hts (.fieldLink RX5 7 "OddNoticeModel" "now" "[I") (List.mem_of_getElem? (i := 1) (by decide +kernel))) (fun _ h9 => h9) rfl dX5_mode_20 ?_
      refine o_const (k := 4) hx hb dX5_mode_23 (by decide) ?_
      refine o_iald (v := nI (v 1 4)) hx hb hK hP 1 0 rfl rfl (Nat.le_of_ble_eq_true rfl) (Nat.le_of_ble_eq_true rfl) rfl dX5_mode_24 ?_
      refine o_const (k := 1) hx hb dX5_mode_25 (by decide) ?_
      refine o_icmp_le (tgt := 44) hx hb dX5_mode_26 (by decide) (by omega) (Nat.le_of_ble_eq_true rfl) (fun c_16 => ?_) (fun c_16 => ?_)
      · skip
        refine o_const (k := 0) hx hb dX5_mode_44 (by decide) ?_
        refine lv_istore_n (lv' := [(2, .int (nI 0)), (0, .ref (q 0)), (1, .int (nI c))]) hx hb dX5_mode_45 rfl hl (by decide) rfl (fun ls hl => ?_)
        refine lv_aload_n hx hb dX5_mode_46 rfl (lv_at hl 1 rfl) ?_
        refine va_get (D := D) (ci := 5) (v := .ref (q 1)) (C := RX5) (T := TX5) (N := 10) hx hb hts inX5_mode_X5 hown hK hP 0 rfl rfl 0 (by decide) (hts (.fieldLink RX5 7 "OddNoticeModel" "now" "[I") (List.mem_of_getElem? (i := 1) (by decide +kernel))) (fun _ h9 => h9) rfl dX5_mode_47 ?_
        refine o_const (k := 3) hx hb dX5_mode_50 (by decide) ?_
        refine o_iald (v := nI (v 1 3)) hx hb hK hP 1 0 rfl rfl (Nat.le_of_ble_eq_true rfl) (Nat.le_of_ble_eq_true rfl) rfl dX5_mode_51 ?_
        have f_17 := hw 3
        refine lv_iload_n hx hb dX5_mode_52 rfl (lv_at hl 2 rfl) ?_
        refine o_icmp_ne (tgt := 60) hx hb dX5_mode_53 (by decide) (by omega) (by omega) (fun c_18 => ?_) (fun c_18 => ?_)
        · skip
          refine lv_iload_n hx hb dX5_mode_60 rfl (lv_at hl 0 rfl) ?_
          refine o_if_eq (tgt := 68) hx hb dX5_mode_61 (by decide) (Nat.le_of_ble_eq_true rfl) (fun _ => ?_) (fun c0 => absurd c0 (by decide))
          refine o_const (k := 0) hx hb dX5_mode_68 (by decide) ?_
          exact W.iret (v := nI 0) hx hb hrt (fun t ht hW => ⟨_, rfl, (congrArg nI (by unfold m_mode; (repeat' split) <;> omega)), ht⟩) (fun _ h => nomatch h) dX5_mode_69
        · skip
          refine o_const (k := 1) hx hb dX5_mode_56 (by decide) ?_
          refine lv_goto (tgt := 69) hx hb dX5_mode_57 (by decide) ?_
          exact W.iret (v := nI 1) hx hb hrt (fun t ht hW => ⟨_, rfl, (congrArg nI (by unfold m_mode; (repeat' split) <;> omega)), ht⟩) (fun _ h => nomatch h) dX5_mode_69
      · skip
        refine lv_aload_n hx hb dX5_mode_29 rfl (lv_at hl 0 rfl) ?_
        refine va_get (D := D) (ci := 5) (v := .ref (q 1)) (C := RX5) (T := TX5) (N := 10) hx hb hts inX5_mode_X5 hown hK hP 0 rfl rfl 0 (by decide) (hts (.fieldLink RX5 7 "OddNoticeModel" "now" "[I") (List.mem_of_getElem? (i := 1) (by decide +kernel))) (fun _ h9 => h9) rfl dX5_mode_30 ?_
        refine o_bipush (k := 6) hx hb dX5_mode_33 (by decide) ?_
        refine o_iald (v := nI (v 1 6)) hx hb hK hP 1 0 rfl rfl (Nat.le_of_ble_eq_true rfl) (Nat.le_of_ble_eq_true rfl) rfl dX5_mode_35 ?_
        have f_19 := hw 6
        refine lv_iload_n hx hb dX5_mode_36 rfl (lv_at hl 1 rfl) ?_
        refine o_icmp_ne (tgt := 44) hx hb dX5_mode_37 (by decide) (by omega) (by omega) (fun c_20 => ?_) (fun c_20 => ?_)
        · skip
          refine o_const (k := 0) hx hb dX5_mode_44 (by decide) ?_
          refine lv_istore_n (lv' := [(2, .int (nI 0)), (0, .ref (q 0)), (1, .int (nI c))]) hx hb dX5_mode_45 rfl hl (by decide) rfl (fun ls hl => ?_)
          refine lv_aload_n hx hb dX5_mode_46 rfl (lv_at hl 1 rfl) ?_
          refine va_get (D := D) (ci := 5) (v := .ref (q 1)) (C := RX5) (T := TX5) (N := 10) hx hb hts inX5_mode_X5 hown hK hP 0 rfl rfl 0 (by decide) (hts (.fieldLink RX5 7 "OddNoticeModel" "now" "[I") (List.mem_of_getElem? (i := 1) (by decide +kernel))) (fun _ h9 => h9) rfl dX5_mode_47 ?_
          refine o_const (k := 3) hx hb dX5_mode_50 (by decide) ?_
          refine o_iald (v := nI (v 1 3)) hx hb hK hP 1 0 rfl rfl (Nat.le_of_ble_eq_true rfl) (Nat.le_of_ble_eq_true rfl) rfl dX5_mode_51 ?_
          have f_21 := hw 3
          refine lv_iload_n hx hb dX5_mode_52 rfl (lv_at hl 2 rfl) ?_
          refine o_icmp_ne (tgt := 60) hx hb dX5_mode_53 (by decide) (by omega) (by omega) (fun c_22 => ?_) (fun c_22 => ?_)
          · skip
            refine lv_iload_n hx hb dX5_mode_60 rfl (lv_at hl 0 rfl) ?_
            refine o_if_eq (tgt := 68) hx hb dX5_mode_61 (by decide) (Nat.le_of_ble_eq_true rfl) (fun _ => ?_) (fun c0 => absurd c0 (by decide))
            refine o_const (k := 0) hx hb dX5_mode_68 (by decide) ?_
            exact W.iret (v := nI 0) hx hb hrt (fun t ht hW => ⟨_, rfl, (congrArg nI (by unfold m_mode; (repeat' split) <;> omega)), ht⟩) (fun _ h => nomatch h) dX5_mode_69
          · skip
            refine o_const (k := 1) hx hb dX5_mode_56 (by decide) ?_
            refine lv_goto (tgt := 69) hx hb dX5_mode_57 (by decide) ?_
            exact W.iret (v := nI 1) hx hb hrt (fun t ht hW => ⟨_, rfl, (congrArg nI (by unfold m_mode; (repeat' split) <;> omega)), ht⟩) (fun _ h => nomatch h) dX5_mode_69
        · skip
          refine o_const (k := 1) hx hb dX5_mode_40 (by decide) ?_
          refine lv_goto (tgt := 45) hx hb dX5_mode_41 (by decide) ?_
          refine lv_istore_n (lv' := [(2, .int (nI 1)), (0, .ref (q 0)), (1, .int (nI c))]) hx hb dX5_mode_45 rfl hl (by decide) rfl (fun ls hl => ?_)
          refine lv_aload_n hx hb dX5_mode_46 rfl (lv_at hl 1 rfl) ?_
          refine va_get (D := D) (ci := 5) (v := .ref (q 1)) (C := RX5) (T := TX5) (N := 10) hx hb hts inX5_mode_X5 hown hK hP 0 rfl rfl 0 (by decide) (hts (.fieldLink RX5 7 "OddNoticeModel" "now" "[I") (List.mem_of_getElem? (i := 1) (by decide +kernel))) (fun _ h9 => h9) rfl dX5_mode_47 ?_
          refine o_const (k := 3) hx hb dX5_mode_50 (by decide) ?_
          refine o_iald (v := nI (v 1 3)) hx hb hK hP 1 0 rfl rfl (Nat.le_of_ble_eq_true rfl) (Nat.le_of_ble_eq_true rfl) rfl dX5_mode_51 ?_
          have f_23 := hw 3
          refine lv_iload_n hx hb dX5_mode_52 rfl (lv_at hl 2 rfl) ?_
          refine o_icmp_ne (tgt := 60) hx hb dX5_mode_53 (by decide) (by omega) (by omega) (fun c_24 => ?_) (fun c_24 => ?_)
          · skip
            refine lv_iload_n hx hb dX5_mode_60 rfl (lv_at hl 0 rfl) ?_
            refine o_if_eq (tgt := 68) hx hb dX5_mode_61 (by decide) (Nat.le_of_ble_eq_true rfl) (fun c0 => absurd c0 (by decide)) (fun _ => ?_)
            refine o_const (k := 2) hx hb dX5_mode_64 (by decide) ?_
            refine lv_goto (tgt := 69) hx hb dX5_mode_65 (by decide) ?_
            exact W.iret (v := nI 2) hx hb hrt (fun t ht hW => ⟨_, rfl, (congrArg nI (by unfold m_mode; (repeat' split) <;> omega)), ht⟩) (fun _ h => nomatch h) dX5_mode_69
          · skip
            refine o_const (k := 1) hx hb dX5_mode_56 (by decide) ?_
            refine lv_goto (tgt := 69) hx hb dX5_mode_57 (by decide) ?_
            exact W.iret (v := nI 1) hx hb hrt (fun t ht hW => ⟨_, rfl, (congrArg nI (by unfold m_mode; (repeat' split) <;> omega)), ht⟩) (fun _ h => nomatch h) dX5_mode_69
theorem inX5_comes_X5 : ∀ w ∈ wsX50, w ∈ wsX5_comes := by decide +kernel
set_option maxHeartbeats 4000000 in
set_option maxRecDepth 100000 in
theorem k_X5_comes (l : Launch) (D : va_G) (cI cR cS cL : ClassId) (sz : Nat) (q : Nat → Nat) (v : Nat → Nat → Nat) (c : Nat) (hn : v 1 0 < 2 ^ 31) (h4 : v 1 4 < 2) : Met l yX5_comes wsX5_comes ({ frames := 1, cells := 0, slots := 0, locals := 20 }) (va_Pc [.ref (q 0), .int (nI c)] (o_B D (o_T cI cR cS cL) (wM q cI v) sz)) (va_Qi (fun rz (_ : Unit) => rz = nI (m_comesr (v 1))) (fun (_ : Unit) t => va_P D vwCl (wM q cI (va_up v 1 (m_comes (v 1) c))) t.heap) (va_A (wM q cI v) sz)) 0 0 (va_A (wM q cI v) sz) := by
  refine Met.ofW (cc := cX5_comes) (maxL := 2) (ret := (some .int)) (by decide) rfl ?_
  intro p e s m args below meth cd s₁ B hml hv
  obtain ⟨rfl, hsz, hP, hK, hD0, hN⟩ := hv
  have hx := B.exec
  have hb := B.bytes
  have hrt := B.returns
  have hts := atoms_spec (ws := wsX5_comes) B.pre
  have hown : s.vm.findClass RX5 = some m.cls := findClass_of_methodNamed B.named
  have hlocks := B.notSynchronized
  subst hsz
  have hD := hD0.self (sz := s.heap.size)
  generalize hAe : va_A (wM q cI v) s.heap.size = A at hD ⊢
  have hA : ∀ q : Nat, s.heap.size ≤ q → A q := fun q h => by rw [← hAe]; exact Or.inr h
  have hS : va_S A s.heap s.heap [] := va_S.rf
  have hl := lv_entry ([.ref (q 0), .int (nI c)]) (n := 2) (Nat.le_of_ble_eq_true rfl)
  rw [lg_entry_eq]
  generalize (lg_sl ([.ref (q 0), .int (nI c)]) ++ List.replicate (2 - (lg_sl ([.ref (q 0), .int (nI c)])).length) Slot.unset).toArray = ls at hl ⊢
  have hl : lv_has ls 2 [(0, .ref (q 0)), (1, .int (nI c))] := hl
  refine lv_aload_n hx hb dX5_comes_0 rfl (lv_at hl 0 rfl) ?_
  refine o_ri (va_runV (As := []) (rest := []) ⟨hx, hb, hml, hown, hts⟩ (k_X5_isOdd l D cI cR cS cL q v (by show v 1 0 < 2 ^ 31; first | assumption | omega)) (cwV 0 hts gX5_comes_X5_isOdd rfl rfl rfl (by decide +kernel) ⟨Nat.le_of_ble_eq_true rfl, Nat.le_of_ble_eq_true rfl⟩) (o_v (o_pR hK hN hP) (va_recv hK hP (ci := 5) (q0 := 0) rfl rfl)) rfl rfl hl.1 rfl (lv_room (Nat.le_of_ble_eq_true rfl)) dX5_comes_1 ⟨Nat.zero_le _, Nat.zero_le _⟩) (fun r_2 e_1 => ?_)
  have e_1 : r_2 = nI (bn (v 1 0 % 2 = 1)) := e_1
  subst e_1
  refine o_ifz (tgt := 38) hx hb dX5_comes_4 (by decide) (fun c_3 => ?_) (fun c_3 => ?_)
  · skip
    refine lv_aload_n hx hb dX5_comes_38 rfl (lv_at hl 0 rfl) ?_
    refine va_get (D := D) (ci := 5) (v := .ref (q 1)) (C := RX5) (T := TX5) (N := 10) hx hb hts inX5_comes_X5 hown hK hP 0 rfl rfl 0 (by decide) (hts (.fieldLink RX5 7 "OddNoticeModel" "now" "[I") (List.mem_of_getElem? (i := 1) (by decide +kernel))) (fun _ h9 => h9) rfl dX5_comes_39 ?_
    refine o_const (k := 3) hx hb dX5_comes_42 (by decide) ?_
    refine lv_iload_n hx hb dX5_comes_43 rfl (lv_at hl 1 rfl) ?_
    refine o_iast (g := (v 1)) hx hb hK hP hD hS 1 0 rfl rfl (Nat.le_of_ble_eq_true rfl) (Nat.le_of_ble_eq_true rfl) dX5_comes_44 (fun H locs hP hD hS => ?_)
    have hP : va_P D vwCl (wM q cI (va_up v 1 (va_up (v 1) 3 c))) H := hP
    have hD : va_D A (wM q cI (va_up v 1 (va_up (v 1) 3 c))) := hD
    refine lv_aload_n hx hb dX5_comes_45 rfl (lv_at hl 0 rfl) ?_
    refine va_get (D := D) (ci := 5) (v := .ref (q 1)) (C := RX5) (T := TX5) (N := 10) hx hb hts inX5_comes_X5 hown hK hP 0 rfl rfl 0 (by decide) (hts (.fieldLink RX5 7 "OddNoticeModel" "now" "[I") (List.mem_of_getElem? (i := 1) (by decide +kernel))) (fun _ h9 => h9) rfl dX5_comes_46 ?_
    refine o_const (k := 0) hx hb dX5_comes_49 (by decide) ?_
    refine lv_dup2_11 hx hb dX5_comes_50 rfl rfl ?_
    refine o_iald (v := nI (v 1 0)) hx hb hK hP 1 0 rfl rfl (Nat.le_of_ble_eq_true rfl) (Nat.le_of_ble_eq_true rfl) (congrArg nI (show (va_up (v 1) 3 c) 0 = (v 1 0) from (o_un (by decide)))) dX5_comes_51 ?_
    refine o_const (k := 1) hx hb dX5_comes_52 (by decide) ?_
    refine o_iadd (a := (v 1 0)) (b := 1) (k := ((v 1 0) + 1)) hx hb dX5_comes_53 rfl ?_
    refine o_iast (g := (va_up (v 1) 3 c)) hx hb hK hP hD hS 1 0 rfl rfl (Nat.le_of_ble_eq_true rfl) (Nat.le_of_ble_eq_true rfl) dX5_comes_54 (fun H locs hP hD hS => ?_)
    have hP : va_P D vwCl (wM q cI (va_up v 1 (va_up (va_up (v 1) 3 c) 0 ((v 1 0) + 1)))) H := hP
    have hD : va_D A (wM q cI (va_up v 1 (va_up (va_up (v 1) 3 c) 0 ((v 1 0) + 1)))) := hD
    refine o_const (k := 0) hx hb dX5_comes_55 (by decide) ?_
    have w_4 : (wM q cI (va_up v 1 (m_comes (v 1) c))) = (wM q cI (va_up v 1 (va_up (va_up (v 1) 3 c) 0 ((v 1 0) + 1)))) := (by unfold m_comes; rw [if_neg c_3]; first | done | rfl)
    rw [← w_4] at hP
    exact W.iret (v := nI 0) hx hb hrt (fun t ht hW => ⟨⟨_, (), rfl, (congrArg nI (by unfold m_comesr; (repeat' split) <;> omega)), by show va_P D vwCl _ t.heap; rw [ht]; exact hP⟩, hS.F ht⟩) hS.2.2 dX5_comes_56
  · skip
    refine lv_aload_n hx hb dX5_comes_7 rfl (lv_at hl 0 rfl) ?_
    refine va_get (D := D) (ci := 5) (v := .ref (q 1)) (C := RX5) (T := TX5) (N := 10) hx hb hts inX5_comes_X5 hown hK hP 0 rfl rfl 0 (by decide) (hts (.fieldLink RX5 7 "OddNoticeModel" "now" "[I") (List.mem_of_getElem? (i := 1) (by decide +kernel))) (fun _ h9 => h9) rfl dX5_comes_8 ?_
    refine o_const (k := 5) hx hb dX5_comes_11 (by decide) ?_
    refine lv_aload_n hx hb dX5_comes_12 rfl (lv_at hl 0 rfl) ?_
    refine va_get (D := D) (ci := 5) (v := .ref (q 1)) (C := RX5) (T := TX5) (N := 10) hx hb hts inX5_comes_X5 hown hK hP 0 rfl rfl 0 (by decide) (hts (.fieldLink RX5 7 "OddNoticeModel" "now" "[I") (List.mem_of_getElem? (i := 1) (by decide +kernel))) (fun _ h9 => h9) rfl dX5_comes_13 ?_
    refine o_const (k := 4) hx hb dX5_comes_16 (by decide) ?_
    refine o_iald (v := nI (v 1 4)) hx hb hK hP 1 0 rfl rfl (Nat.le_of_ble_eq_true rfl) (Nat.le_of_ble_eq_true rfl) rfl dX5_comes_17 ?_
    refine o_iadd (a := 5) (b := (v 1 4)) (k := (5 + (v 1 4))) hx hb dX5_comes_18 rfl ?_
    refine lv_iload_n hx hb dX5_comes_19 rfl (lv_at hl 1 rfl) ?_
    refine o_iast (g := (v 1)) hx hb hK hP hD hS 1 0 rfl rfl (by omega) (Nat.le_of_ble_eq_true rfl) dX5_comes_20 (fun H locs hP hD hS => ?_)
    have hP : va_P D vwCl (wM q cI (va_up v 1 (va_up (v 1) (5 + (v 1 4)) c))) H := hP
    have hD : va_D A (wM q cI (va_up v 1 (va_up (v 1) (5 + (v 1 4)) c))) := hD
    refine lv_aload_n hx hb dX5_comes_21 rfl (lv_at hl 0 rfl) ?_
    refine va_get (D := D) (ci := 5) (v := .ref (q 1)) (C := RX5) (T := TX5) (N := 10) hx hb hts inX5_comes_X5 hown hK hP 0 rfl rfl 0 (by decide) (hts (.fieldLink RX5 7 "OddNoticeModel" "now" "[I") (List.mem_of_getElem? (i := 1) (by decide +kernel))) (fun _ h9 => h9) rfl dX5_comes_22 ?_
    refine o_const (k := 4) hx hb dX5_comes_25 (by decide) ?_
    refine lv_dup2_11 hx hb dX5_comes_26 rfl rfl ?_
    refine o_iald (v := nI (v 1 4)) hx hb hK hP 1 0 rfl rfl (Nat.le_of_ble_eq_true rfl) (Nat.le_of_ble_eq_true rfl) (congrArg nI (show (va_up (v 1) (5 + (v 1 4)) c) 4 = (v 1 4) from (o_un (by omega)))) dX5_comes_27 ?_
    refine o_const (k := 1) hx hb dX5_comes_28 (by decide) ?_
    refine o_iadd (a := (v 1 4)) (b := 1) (k := ((v 1 4) + 1)) hx hb dX5_comes_29 rfl ?_
    refine o_iast (g := (va_up (v 1) (5 + (v 1 4)) c)) hx hb hK hP hD hS 1 0 rfl rfl (Nat.le_of_ble_eq_true rfl) (Nat.le_of_ble_eq_true rfl) dX5_comes_30 (fun H locs hP hD hS => ?_)
    have hP : va_P D vwCl (wM q cI (va_up v 1 (va_up (va_up (v 1) (5 + (v 1 4)) c) 4 ((v 1 4) + 1)))) H := hP
    have hD : va_D A (wM q cI (va_up v 1 (va_up (va_up (v 1) (5 + (v 1 4)) c) 4 ((v 1 4) + 1)))) := hD
    refine lv_aload_n hx hb dX5_comes_31 rfl (lv_at hl 0 rfl) ?_
    refine va_get (D := D) (ci := 5) (v := .ref (q 1)) (C := RX5) (T := TX5) (N := 10) hx hb hts inX5_comes_X5 hown hK hP 0 rfl rfl 0 (by decide) (hts (.fieldLink RX5 7 "OddNoticeModel" "now" "[I") (List.mem_of_getElem? (i := 1) (by decide +kernel))) (fun _ h9 => h9) rfl dX5_comes_32 ?_
    refine o_const (k := 4) hx hb dX5_comes_35 (by decide) ?_
    refine o_iald (v := nI ((v 1 4) + 1)) hx hb hK hP 1 0 rfl rfl (Nat.le_of_ble_eq_true rfl) (Nat.le_of_ble_eq_true rfl) (congrArg nI (show (va_up (va_up (v 1) (5 + (v 1 4)) c) 4 ((v 1 4) + 1)) 4 = ((v 1 4) + 1) from o_us)) dX5_comes_36 ?_
    have w_5 : (wM q cI (va_up v 1 (m_comes (v 1) c))) = (wM q cI (va_up v 1 (va_up (va_up (v 1) (5 + (v 1 4)) c) 4 ((v 1 4) + 1)))) := (by unfold m_comes; rw [if_pos c_3]; first | done | rfl)
    rw [← w_5] at hP
    exact W.iret (v := nI ((v 1 4) + 1)) hx hb hrt (fun t ht hW => ⟨⟨_, (), rfl, (congrArg nI (by unfold m_comesr; (repeat' split) <;> omega)), by show va_P D vwCl _ t.heap; rw [ht]; exact hP⟩, hS.F ht⟩) hS.2.2 dX5_comes_37
theorem inX5_ends_X5 : ∀ w ∈ wsX50, w ∈ wsX5_ends := by decide +kernel
set_option maxHeartbeats 4000000 in
set_option maxRecDepth 100000 in
theorem k_X5_ends (l : Launch) (D : va_G) (cI cR cS cL : ClassId) (sz : Nat) (q : Nat → Nat) (v : Nat → Nat → Nat) (c : Nat) (hc : c < 3) (hn : v 1 0 < 2 ^ 30) (h4 : v 1 4 < 2 ^ 31) : Met l yX5_ends wsX5_ends ({ frames := 0, cells := 0, slots := 0, locals := 0 }) (va_Pc [.ref (q 0), .int (nI c)] (o_B D (o_T cI cR cS cL) (wM q cI v) sz)) (va_Qi (fun rz (_ : Unit) => rz = nI ((v 1 0 + 1) / 2)) (fun (_ : Unit) t => va_P D vwCl (wM q cI (va_up v 1 (m_ends (v 1) c))) t.heap) (va_A (wM q cI v) sz)) 0 0 (va_A (wM q cI v) sz) := by
  refine Met.ofW (cc := cX5_ends) (maxL := 4) (ret := (some .int)) (by decide) rfl ?_
  intro p e s m args below meth cd s₁ B hml hv
  obtain ⟨rfl, hsz, hP, hK, hD0, hN⟩ := hv
  have hx := B.exec
  have hb := B.bytes
  have hrt := B.returns
  have hts := atoms_spec (ws := wsX5_ends) B.pre
  have hown : s.vm.findClass RX5 = some m.cls := findClass_of_methodNamed B.named
  have hlocks := B.notSynchronized
  subst hsz
  have hD := hD0.self (sz := s.heap.size)
  generalize hAe : va_A (wM q cI v) s.heap.size = A at hD ⊢
  have hA : ∀ q : Nat, s.heap.size ≤ q → A q := fun q h => by rw [← hAe]; exact Or.inr h
  have hS : va_S A s.heap s.heap [] := va_S.rf
  have hl := lv_entry ([.ref (q 0), .int (nI c)]) (n := 4) (Nat.le_of_ble_eq_true rfl)
  rw [lg_entry_eq]
  generalize (lg_sl ([.ref (q 0), .int (nI c)]) ++ List.replicate (4 - (lg_sl ([.ref (q 0), .int (nI c)])).length) Slot.unset).toArray = ls at hl ⊢
  have hl : lv_has ls 4 [(0, .ref (q 0)), (1, .int (nI c))] := hl
  refine lv_aload_n hx hb dX5_ends_0 rfl (lv_at hl 0 rfl) ?_
  refine va_get (D := D) (ci := 5) (v := .ref (q 1)) (C := RX5) (T := TX5) (N := 10) hx hb hts inX5_ends_X5 hown hK hP 0 rfl rfl 0 (by decide) (hts (.fieldLink RX5 7 "OddNoticeModel" "now" "[I") (List.mem_of_getElem? (i := 1) (by decide +kernel))) (fun _ h9 => h9) rfl dX5_ends_1 ?_
  refine o_const (k := 0) hx hb dX5_ends_4 (by decide) ?_
  refine lv_dup2_11 hx hb dX5_ends_5 rfl rfl ?_
  refine o_iald (v := nI (v 1 0)) hx hb hK hP 1 0 rfl rfl (Nat.le_of_ble_eq_true rfl) (Nat.le_of_ble_eq_true rfl) rfl dX5_ends_6 ?_
  refine o_const (k := 1) hx hb dX5_ends_7 (by decide) ?_
  refine o_iadd (a := (v 1 0)) (b := 1) (k := ((v 1 0) + 1)) hx hb dX5_ends_8 rfl ?_
  refine o_iast (g := (v 1)) hx hb hK hP hD hS 1 0 rfl rfl (Nat.le_of_ble_eq_true rfl) (Nat.le_of_ble_eq_true rfl) dX5_ends_9 (fun H locs hP hD hS => ?_)
  have hP : va_P D vwCl (wM q cI (va_up v 1 (va_up (v 1) 0 ((v 1 0) + 1)))) H := hP
  have hD : va_D A (wM q cI (va_up v 1 (va_up (v 1) 0 ((v 1 0) + 1)))) := hD
  refine lv_aload_n hx hb dX5_ends_10 rfl (lv_at hl 0 rfl) ?_
  refine va_get (D := D) (ci := 5) (v := .ref (q 1)) (C := RX5) (T := TX5) (N := 10) hx hb hts inX5_ends_X5 hown hK hP 0 rfl rfl 0 (by decide) (hts (.fieldLink RX5 7 "OddNoticeModel" "now" "[I") (List.mem_of_getElem? (i := 1) (by decide +kernel))) (fun _ h9 => h9) rfl dX5_ends_11 ?_
  refine o_const (k := 0) hx hb dX5_ends_14 (by decide) ?_
  refine o_iald (v := nI ((v 1 0) + 1)) hx hb hK hP 1 0 rfl rfl (Nat.le_of_ble_eq_true rfl) (Nat.le_of_ble_eq_true rfl) (congrArg nI (show (va_up (v 1) 0 ((v 1 0) + 1)) 0 = ((v 1 0) + 1) from o_us)) dX5_ends_15 ?_
  refine o_const (k := 2) hx hb dX5_ends_16 (by decide) ?_
  refine o_idiv (a := ((v 1 0) + 1)) (b := 2) (k := (((v 1 0) + 1) / 2)) hx hb dX5_ends_17 (by omega) (by decide) (Nat.le_of_ble_eq_true rfl) rfl ?_
  refine lv_istore_n (lv' := [(2, .int (nI (((v 1 0) + 1) / 2))), (0, .ref (q 0)), (1, .int (nI c))]) hx hb dX5_ends_18 rfl hl (by decide) rfl (fun ls hl => ?_)
  refine o_const (k := 0) hx hb dX5_ends_19 (by decide) ?_
  refine lv_istore_n (lv' := [(3, .int (nI 0)), (2, .int (nI (((v 1 0) + 1) / 2))), (0, .ref (q 0)), (1, .int (nI c))]) hx hb dX5_ends_20 rfl hl (by decide) rfl (fun ls hl => ?_)
  refine lv_iload_n hx hb dX5_ends_21 rfl (lv_at hl 0 rfl) ?_
  refine o_const (k := 5) hx hb dX5_ends_22 (by decide) ?_
  refine o_icmp_ge (tgt := 57) hx hb dX5_ends_23 (by decide) (Nat.le_of_ble_eq_true rfl) (Nat.le_of_ble_eq_true rfl) (fun c0 => absurd c0 (by decide)) (fun _ => ?_)
  refine lv_aload_n hx hb dX5_ends_26 rfl (lv_at hl 2 rfl) ?_
  refine va_get (D := D) (ci := 5) (v := .ref (q 1)) (C := RX5) (T := TX5) (N := 10) hx hb hts inX5_ends_X5 hown hK hP 0 rfl rfl 0 (by decide) (hts (.fieldLink RX5 7 "OddNoticeModel" "now" "[I") (List.mem_of_getElem? (i := 1) (by decide +kernel))) (fun _ h9 => h9) rfl dX5_ends_27 ?_
  refine o_bipush (k := 83) hx hb dX5_ends_30 (by decide) ?_
  refine o_const (k := 5) hx hb dX5_ends_32 (by decide) ?_
  refine lv_iload_n hx hb dX5_ends_33 rfl (lv_at hl 1 rfl) ?_
  refine o_bipush (k := 16) hx hb dX5_ends_34 (by decide) ?_
  refine o_irem (a := (((v 1 0) + 1) / 2)) (b := 16) (k := (((v 1 0) + 1) / 2 % 16)) hx hb dX5_ends_36 (by omega) (by decide) (Nat.le_of_ble_eq_true rfl) rfl ?_
  refine o_imul (a := 5) (b := (((v 1 0) + 1) / 2 % 16)) (k := (5 * (((v 1 0) + 1) / 2 % 16))) hx hb dX5_ends_37 rfl ?_
  refine o_iadd (a := 83) (b := (5 * (((v 1 0) + 1) / 2 % 16))) (k := (83 + 5 * (((v 1 0) + 1) / 2 % 16))) hx hb dX5_ends_38 rfl ?_
  refine lv_iload_n hx hb dX5_ends_39 rfl (lv_at hl 0 rfl) ?_
  refine o_iadd (a := (83 + 5 * (((v 1 0) + 1) / 2 % 16))) (b := 0) (k := (83 + 5 * (((v 1 0) + 1) / 2 % 16))) hx hb dX5_ends_40 rfl ?_
  refine lv_aload_n hx hb dX5_ends_41 rfl (lv_at hl 2 rfl) ?_
  refine va_get (D := D) (ci := 5) (v := .ref (q 1)) (C := RX5) (T := TX5) (N := 10) hx hb hts inX5_ends_X5 hown hK hP 0 rfl rfl 0 (by decide) (hts (.fieldLink RX5 7 "OddNoticeModel" "now" "[I") (List.mem_of_getElem? (i := 1) (by decide +kernel))) (fun _ h9 => h9) rfl dX5_ends_42 ?_
  refine o_bipush (k := 7) hx hb dX5_ends_45 (by decide) ?_
  refine lv_iload_n hx hb dX5_ends_47 rfl (lv_at hl 0 rfl) ?_
  refine o_iadd (a := 7) (b := 0) (k := 7) hx hb dX5_ends_48 rfl ?_
  refine o_iald (v := nI (v 1 7)) hx hb hK hP 1 0 rfl rfl (Nat.le_of_ble_eq_true rfl) (Nat.le_of_ble_eq_true rfl) (congrArg nI (show (va_up (v 1) 0 ((v 1 0) + 1)) 7 = (v 1 7) from (o_un (by decide)))) dX5_ends_49 ?_
  refine o_iast (g := (va_up (v 1) 0 ((v 1 0) + 1))) hx hb hK hP hD hS 1 0 rfl rfl (by omega) (Nat.le_of_ble_eq_true rfl) dX5_ends_50 (fun H locs hP hD hS => ?_)
  have hP : va_P D vwCl (wM q cI (va_up v 1 (va_up (va_up (v 1) 0 ((v 1 0) + 1)) (83 + 5 * (((v 1 0) + 1) / 2 % 16)) (v 1 7)))) H := hP
  have hD : va_D A (wM q cI (va_up v 1 (va_up (va_up (v 1) 0 ((v 1 0) + 1)) (83 + 5 * (((v 1 0) + 1) / 2 % 16)) (v 1 7)))) := hD
  refine lv_iinc (v := nI 1) (lv' := [(3, .int (nI 1)), (2, .int (nI (((v 1 0) + 1) / 2))), (0, .ref (q 0)), (1, .int (nI c))]) hx hb dX5_ends_51 hl (k := 0) rfl (by decide) (by decide) rfl (fun ls hl => ?_)
  refine lv_goto (tgt := 21) hx hb dX5_ends_54 (by decide) ?_
  refine lv_iload_n hx hb dX5_ends_21 rfl (lv_at hl 0 rfl) ?_
  refine o_const (k := 5) hx hb dX5_ends_22 (by decide) ?_
  refine o_icmp_ge (tgt := 57) hx hb dX5_ends_23 (by decide) (Nat.le_of_ble_eq_true rfl) (Nat.le_of_ble_eq_true rfl) (fun c0 => absurd c0 (by decide)) (fun _ => ?_)
  refine lv_aload_n hx hb dX5_ends_26 rfl (lv_at hl 2 rfl) ?_
  refine va_get (D := D) (ci := 5) (v := .ref (q 1)) (C := RX5) (T := TX5) (N := 10) hx hb hts inX5_ends_X5 hown hK hP 0 rfl rfl 0 (by decide) (hts (.fieldLink RX5 7 "OddNoticeModel" "now" "[I") (List.mem_of_getElem? (i := 1) (by decide +kernel))) (fun _ h9 => h9) rfl dX5_ends_27 ?_
  refine o_bipush (k := 83) hx hb dX5_ends_30 (by decide) ?_
  refine o_const (k := 5) hx hb dX5_ends_32 (by decide) ?_
  refine lv_iload_n hx hb dX5_ends_33 rfl (lv_at hl 1 rfl) ?_
  refine o_bipush (k := 16) hx hb dX5_ends_34 (by decide) ?_
  refine o_irem (a := (((v 1 0) + 1) / 2)) (b := 16) (k := (((v 1 0) + 1) / 2 % 16)) hx hb dX5_ends_36 (by omega) (by decide) (Nat.le_of_ble_eq_true rfl) rfl ?_
  refine o_imul (a := 5) (b := (((v 1 0) + 1) / 2 % 16)) (k := (5 * (((v 1 0) + 1) / 2 % 16))) hx hb dX5_ends_37 rfl ?_
  refine o_iadd (a := 83) (b := (5 * (((v 1 0) + 1) / 2 % 16))) (k := (83 + 5 * (((v 1 0) + 1) / 2 % 16))) hx hb dX5_ends_38 rfl ?_
  refine lv_iload_n hx hb dX5_ends_39 rfl (lv_at hl 0 rfl) ?_
  refine o_iadd (a := (83 + 5 * (((v 1 0) + 1) / 2 % 16))) (b := 1) (k := (83 + 5 * (((v 1 0) + 1) / 2 % 16) + 1)) hx hb dX5_ends_40 rfl ?_
  refine lv_aload_n hx hb dX5_ends_41 rfl (lv_at hl 2 rfl) ?_
  refine va_get (D := D) (ci := 5) (v := .ref (q 1)) (C := RX5) (T := TX5) (N := 10) hx hb hts inX5_ends_X5 hown hK hP 0 rfl rfl 0 (by decide) (hts (.fieldLink RX5 7 "OddNoticeModel" "now" "[I") (List.mem_of_getElem? (i := 1) (by decide +kernel))) (fun _ h9 => h9) rfl dX5_ends_42 ?_
  refine o_bipush (k := 7) hx hb dX5_ends_45 (by decide) ?_
  refine lv_iload_n hx hb dX5_ends_47 rfl (lv_at hl 0 rfl) ?_
  refine o_iadd (a := 7) (b := 1) (k := 8) hx hb dX5_ends_48 rfl ?_
  refine o_iald (v := nI (v 1 8)) hx hb hK hP 1 0 rfl rfl (Nat.le_of_ble_eq_true rfl) (Nat.le_of_ble_eq_true rfl) (congrArg nI (show (va_up (va_up (v 1) 0 ((v 1 0) + 1)) (83 + 5 * (((v 1 0) + 1) / 2 % 16)) (v 1 7)) 8 = (v 1 8) from (Eq.trans (o_un (by omega)) (o_un (by decide))))) dX5_ends_49 ?_
  refine o_iast (g := (va_up (va_up (v 1) 0 ((v 1 0) + 1)) (83 + 5 * (((v 1 0) + 1) / 2 % 16)) (v 1 7))) hx hb hK hP hD hS 1 0 rfl rfl (by omega) (Nat.le_of_ble_eq_true rfl) dX5_ends_50 (fun H locs hP hD hS => ?_)
  have hP : va_P D vwCl (wM q cI (va_up v 1 (va_up (va_up (va_up (v 1) 0 ((v 1 0) + 1)) (83 + 5 * (((v 1 0) + 1) / 2 % 16)) (v 1 7)) (83 + 5 * (((v 1 0) + 1) / 2 % 16) + 1) (v 1 8)))) H := hP
  have hD : va_D A (wM q cI (va_up v 1 (va_up (va_up (va_up (v 1) 0 ((v 1 0) + 1)) (83 + 5 * (((v 1 0) + 1) / 2 % 16)) (v 1 7)) (83 + 5 * (((v 1 0) + 1) / 2 % 16) + 1) (v 1 8)))) := hD
  refine lv_iinc (v := nI 2) (lv' := [(3, .int (nI 2)), (2, .int (nI (((v 1 0) + 1) / 2))), (0, .ref (q 0)), (1, .int (nI c))]) hx hb dX5_ends_51 hl (k := 0) rfl (by decide) (by decide) rfl (fun ls hl => ?_)
  refine lv_goto (tgt := 21) hx hb dX5_ends_54 (by decide) ?_
  refine lv_iload_n hx hb dX5_ends_21 rfl (lv_at hl 0 rfl) ?_
  refine o_const (k := 5) hx hb dX5_ends_22 (by decide) ?_
  refine o_icmp_ge (tgt := 57) hx hb dX5_ends_23 (by decide) (Nat.le_of_ble_eq_true rfl) (Nat.le_of_ble_eq_true rfl) (fun c0 => absurd c0 (by decide)) (fun _ => ?_)
  refine lv_aload_n hx hb dX5_ends_26 rfl (lv_at hl 2 rfl) ?_
  refine va_get (D := D) (ci := 5) (v := .ref (q 1)) (C := RX5) (T := TX5) (N := 10) hx hb hts inX5_ends_X5 hown hK hP 0 rfl rfl 0 (by decide) (hts (.fieldLink RX5 7 "OddNoticeModel" "now" "[I") (List.mem_of_getElem? (i := 1) (by decide +kernel))) (fun _ h9 => h9) rfl dX5_ends_27 ?_
  refine o_bipush (k := 83) hx hb dX5_ends_30 (by decide) ?_
  refine o_const (k := 5) hx hb dX5_ends_32 (by decide) ?_
  refine lv_iload_n hx hb dX5_ends_33 rfl (lv_at hl 1 rfl) ?_
  refine o_bipush (k := 16) hx hb dX5_ends_34 (by decide) ?_
  refine o_irem (a := (((v 1 0) + 1) / 2)) (b := 16) (k := (((v 1 0) + 1) / 2 % 16)) hx hb dX5_ends_36 (by omega) (by decide) (Nat.le_of_ble_eq_true rfl) rfl ?_
  refine o_imul (a := 5) (b := (((v 1 0) + 1) / 2 % 16)) (k := (5 * (((v 1 0) + 1) / 2 % 16))) hx hb dX5_ends_37 rfl ?_
  refine o_iadd (a := 83) (b := (5 * (((v 1 0) + 1) / 2 % 16))) (k := (83 + 5 * (((v 1 0) + 1) / 2 % 16))) hx hb dX5_ends_38 rfl ?_
  refine lv_iload_n hx hb dX5_ends_39 rfl (lv_at hl 0 rfl) ?_
  refine o_iadd (a := (83 + 5 * (((v 1 0) + 1) / 2 % 16))) (b := 2) (k := (83 + 5 * (((v 1 0) + 1) / 2 % 16) + 2)) hx hb dX5_ends_40 rfl ?_
  refine lv_aload_n hx hb dX5_ends_41 rfl (lv_at hl 2 rfl) ?_
  refine va_get (D := D) (ci := 5) (v := .ref (q 1)) (C := RX5) (T := TX5) (N := 10) hx hb hts inX5_ends_X5 hown hK hP 0 rfl rfl 0 (by decide) (hts (.fieldLink RX5 7 "OddNoticeModel" "now" "[I") (List.mem_of_getElem? (i := 1) (by decide +kernel))) (fun _ h9 => h9) rfl dX5_ends_42 ?_
  refine o_bipush (k := 7) hx hb dX5_ends_45 (by decide) ?_
  refine lv_iload_n hx hb dX5_ends_47 rfl (lv_at hl 0 rfl) ?_
  refine o_iadd (a := 7) (b := 2) (k := 9) hx hb dX5_ends_48 rfl ?_
  refine o_iald (v := nI (v 1 9)) hx hb hK hP 1 0 rfl rfl (Nat.le_of_ble_eq_true rfl) (Nat.le_of_ble_eq_true rfl) (congrArg nI (show (va_up (va_up (va_up (v 1) 0 ((v 1 0) + 1)) (83 + 5 * (((v 1 0) + 1) / 2 % 16)) (v 1 7)) (83 + 5 * (((v 1 0) + 1) / 2 % 16) + 1) (v 1 8)) 9 = (v 1 9) from (Eq.trans (o_un (by omega)) (Eq.trans (o_un (by omega)) (o_un (by decide)))))) dX5_ends_49 ?_
  refine o_iast (g := (va_up (va_up (va_up (v 1) 0 ((v 1 0) + 1)) (83 + 5 * (((v 1 0) + 1) / 2 % 16)) (v 1 7)) (83 + 5 * (((v 1 0) + 1) / 2 % 16) + 1) (v 1 8))) hx hb hK hP hD hS 1 0 rfl rfl (by omega) (Nat.le_of_ble_eq_true rfl) dX5_ends_50 (fun H locs hP hD hS => ?_)
  have hP : va_P D vwCl (wM q cI (va_up v 1 (va_up (va_up (va_up (va_up (v 1) 0 ((v 1 0) + 1)) (83 + 5 * (((v 1 0) + 1) / 2 % 16)) (v 1 7)) (83 + 5 * (((v 1 0) + 1) / 2 % 16) + 1) (v 1 8)) (83 + 5 * (((v 1 0) + 1) / 2 % 16) + 2) (v 1 9)))) H := hP
  have hD : va_D A (wM q cI (va_up v 1 (va_up (va_up (va_up (va_up (v 1) 0 ((v 1 0) + 1)) (83 + 5 * (((v 1 0) + 1) / 2 % 16)) (v 1 7)) (83 + 5 * (((v 1 0) + 1) / 2 % 16) + 1) (v 1 8)) (83 + 5 * (((v 1 0) + 1) / 2 % 16) + 2) (v 1 9)))) := hD
  refine lv_iinc (v := nI 3) (lv' := [(3, .int (nI 3)), (2, .int (nI (((v 1 0) + 1) / 2))), (0, .ref (q 0)), (1, .int (nI c))]) hx hb dX5_ends_51 hl (k := 0) rfl (by decide) (by decide) rfl (fun ls hl => ?_)
  refine lv_goto (tgt := 21) hx hb dX5_ends_54 (by decide) ?_
  refine lv_iload_n hx hb dX5_ends_21 rfl (lv_at hl 0 rfl) ?_
  refine o_const (k := 5) hx hb dX5_ends_22 (by decide) ?_
  refine o_icmp_ge (tgt := 57) hx hb dX5_ends_23 (by decide) (Nat.le_of_ble_eq_true rfl) (Nat.le_of_ble_eq_true rfl) (fun c0 => absurd c0 (by decide)) (fun _ => ?_)
  refine lv_aload_n hx hb dX5_ends_26 rfl (lv_at hl 2 rfl) ?_
  refine va_get (D := D) (ci := 5) (v := .ref (q 1)) (C := RX5) (T := TX5) (N := 10) hx hb hts inX5_ends_X5 hown hK hP 0 rfl rfl 0 (by decide) (hts (.fieldLink RX5 7 "OddNoticeModel" "now" "[I") (List.mem_of_getElem? (i := 1) (by decide +kernel))) (fun _ h9 => h9) rfl dX5_ends_27 ?_
  refine o_bipush (k := 83) hx hb dX5_ends_30 (by decide) ?_
  refine o_const (k := 5) hx hb dX5_ends_32 (by decide) ?_
  refine lv_iload_n hx hb dX5_ends_33 rfl (lv_at hl 1 rfl) ?_
  refine o_bipush (k := 16) hx hb dX5_ends_34 (by decide) ?_
  refine o_irem (a := (((v 1 0) + 1) / 2)) (b := 16) (k := (((v 1 0) + 1) / 2 % 16)) hx hb dX5_ends_36 (by omega) (by decide) (Nat.le_of_ble_eq_true rfl) rfl ?_
  refine o_imul (a := 5) (b := (((v 1 0) + 1) / 2 % 16)) (k := (5 * (((v 1 0) + 1) / 2 % 16))) hx hb dX5_ends_37 rfl ?_
  refine o_iadd (a := 83) (b := (5 * (((v 1 0) + 1) / 2 % 16))) (k := (83 + 5 * (((v 1 0) + 1) / 2 % 16))) hx hb dX5_ends_38 rfl ?_
  refine lv_iload_n hx hb dX5_ends_39 rfl (lv_at hl 0 rfl) ?_
  refine o_iadd (a := (83 + 5 * (((v 1 0) + 1) / 2 % 16))) (b := 3) (k := (83 + 5 * (((v 1 0) + 1) / 2 % 16) + 3)) hx hb dX5_ends_40 rfl ?_
  refine lv_aload_n hx hb dX5_ends_41 rfl (lv_at hl 2 rfl) ?_
  refine va_get (D := D) (ci := 5) (v := .ref (q 1)) (C := RX5) (T := TX5) (N := 10) hx hb hts inX5_ends_X5 hown hK hP 0 rfl rfl 0 (by decide) (hts (.fieldLink RX5 7 "OddNoticeModel" "now" "[I") (List.mem_of_getElem? (i := 1) (by decide +kernel))) (fun _ h9 => h9) rfl dX5_ends_42 ?_
  refine o_bipush (k := 7) hx hb dX5_ends_45 (by decide) ?_
  refine lv_iload_n hx hb dX5_ends_47 rfl (lv_at hl 0 rfl) ?_
  refine o_iadd (a := 7) (b := 3) (k := 10) hx hb dX5_ends_48 rfl ?_
  refine o_iald (v := nI (v 1 10)) hx hb hK hP 1 0 rfl rfl (Nat.le_of_ble_eq_true rfl) (Nat.le_of_ble_eq_true rfl) (congrArg nI (show (va_up (va_up (va_up (va_up (v 1) 0 ((v 1 0) + 1)) (83 + 5 * (((v 1 0) + 1) / 2 % 16)) (v 1 7)) (83 + 5 * (((v 1 0) + 1) / 2 % 16) + 1) (v 1 8)) (83 + 5 * (((v 1 0) + 1) / 2 % 16) + 2) (v 1 9)) 10 = (v 1 10) from (Eq.trans (o_un (by omega)) (Eq.trans (o_un (by omega)) (Eq.trans (o_un (by omega)) (o_un (by decide))))))) dX5_ends_49 ?_
  refine o_iast (g := (va_up (va_up (va_up (va_up (v 1) 0 ((v 1 0) + 1)) (83 + 5 * (((v 1 0) + 1) / 2 % 16)) (v 1 7)) (83 + 5 * (((v 1 0) + 1) / 2 % 16) + 1) (v 1 8)) (83 + 5 * (((v 1 0) + 1) / 2 % 16) + 2) (v 1 9))) hx hb hK hP hD hS 1 0 rfl rfl (by omega) (Nat.le_of_ble_eq_true rfl) dX5_ends_50 (fun H locs hP hD hS => ?_)
  have hP : va_P D vwCl (wM q cI (va_up v 1 (va_up (va_up (va_up (va_up (va_up (v 1) 0 ((v 1 0) + 1)) (83 + 5 * (((v 1 0) + 1) / 2 % 16)) (v 1 7)) (83 + 5 * (((v 1 0) + 1) / 2 % 16) + 1) (v 1 8)) (83 + 5 * (((v 1 0) + 1) / 2 % 16) + 2) (v 1 9)) (83 + 5 * (((v 1 0) + 1) / 2 % 16) + 3) (v 1 10)))) H := hP
  have hD : va_D A (wM q cI (va_up v 1 (va_up (va_up (va_up (va_up (va_up (v 1) 0 ((v 1 0) + 1)) (83 + 5 * (((v 1 0) + 1) / 2 % 16)) (v 1 7)) (83 + 5 * (((v 1 0) + 1) / 2 % 16) + 1) (v 1 8)) (83 + 5 * (((v 1 0) + 1) / 2 % 16) + 2) (v 1 9)) (83 + 5 * (((v 1 0) + 1) / 2 % 16) + 3) (v 1 10)))) := hD
  refine lv_iinc (v := nI 4) (lv' := [(3, .int (nI 4)), (2, .int (nI (((v 1 0) + 1) / 2))), (0, .ref (q 0)), (1, .int (nI c))]) hx hb dX5_ends_51 hl (k := 0) rfl (by decide) (by decide) rfl (fun ls hl => ?_)
  refine lv_goto (tgt := 21) hx hb dX5_ends_54 (by decide) ?_
  refine lv_iload_n hx hb dX5_ends_21 rfl (lv_at hl 0 rfl) ?_
  refine o_const (k := 5) hx hb dX5_ends_22 (by decide) ?_
  refine o_icmp_ge (tgt := 57) hx hb dX5_ends_23 (by decide) (Nat.le_of_ble_eq_true rfl) (Nat.le_of_ble_eq_true rfl) (fun c0 => absurd c0 (by decide)) (fun _ => ?_)
  refine lv_aload_n hx hb dX5_ends_26 rfl (lv_at hl 2 rfl) ?_
  refine va_get (D := D) (ci := 5) (v := .ref (q 1)) (C := RX5) (T := TX5) (N := 10) hx hb hts inX5_ends_X5 hown hK hP 0 rfl rfl 0 (by decide) (hts (.fieldLink RX5 7 "OddNoticeModel" "now" "[I") (List.mem_of_getElem? (i := 1) (by decide +kernel))) (fun _ h9 => h9) rfl dX5_ends_27 ?_
  refine o_bipush (k := 83) hx hb dX5_ends_30 (by decide) ?_
  refine o_const (k := 5) hx hb dX5_ends_32 (by decide) ?_
  refine lv_iload_n hx hb dX5_ends_33 rfl (lv_at hl 1 rfl) ?_
  refine o_bipush (k := 16) hx hb dX5_ends_34 (by decide) ?_
  refine o_irem (a := (((v 1 0) + 1) / 2)) (b := 16) (k := (((v 1 0) + 1) / 2 % 16)) hx hb dX5_ends_36 (by omega) (by decide) (Nat.le_of_ble_eq_true rfl) rfl ?_
  refine o_imul (a := 5) (b := (((v 1 0) + 1) / 2 % 16)) (k := (5 * (((v 1 0) + 1) / 2 % 16))) hx hb dX5_ends_37 rfl ?_
  refine o_iadd (a := 83) (b := (5 * (((v 1 0) + 1) / 2 % 16))) (k := (83 + 5 * (((v 1 0) + 1) / 2 % 16))) hx hb dX5_ends_38 rfl ?_
  refine lv_iload_n hx hb dX5_ends_39 rfl (lv_at hl 0 rfl) ?_
  refine o_iadd (a := (83 + 5 * (((v 1 0) + 1) / 2 % 16))) (b := 4) (k := (83 + 5 * (((v 1 0) + 1) / 2 % 16) + 4)) hx hb dX5_ends_40 rfl ?_
  refine lv_aload_n hx hb dX5_ends_41 rfl (lv_at hl 2 rfl) ?_
  refine va_get (D := D) (ci := 5) (v := .ref (q 1)) (C := RX5) (T := TX5) (N := 10) hx hb hts inX5_ends_X5 hown hK hP 0 rfl rfl 0 (by decide) (hts (.fieldLink RX5 7 "OddNoticeModel" "now" "[I") (List.mem_of_getElem? (i := 1) (by decide +kernel))) (fun _ h9 => h9) rfl dX5_ends_42 ?_
  refine o_bipush (k := 7) hx hb dX5_ends_45 (by decide) ?_
  refine lv_iload_n hx hb dX5_ends_47 rfl (lv_at hl 0 rfl) ?_
  refine o_iadd (a := 7) (b := 4) (k := 11) hx hb dX5_ends_48 rfl ?_
  refine o_iald (v := nI (v 1 11)) hx hb hK hP 1 0 rfl rfl (Nat.le_of_ble_eq_true rfl) (Nat.le_of_ble_eq_true rfl) (congrArg nI (show (va_up (va_up (va_up (va_up (va_up (v 1) 0 ((v 1 0) + 1)) (83 + 5 * (((v 1 0) + 1) / 2 % 16)) (v 1 7)) (83 + 5 * (((v 1 0) + 1) / 2 % 16) + 1) (v 1 8)) (83 + 5 * (((v 1 0) + 1) / 2 % 16) + 2) (v 1 9)) (83 + 5 * (((v 1 0) + 1) / 2 % 16) + 3) (v 1 10)) 11 = (v 1 11) from (Eq.trans (o_un (by omega)) (Eq.trans (o_un (by omega)) (Eq.trans (o_un (by omega)) (Eq.trans (o_un (by omega)) (o_un (by decide)))))))) dX5_ends_49 ?_
  refine o_iast (g := (va_up (va_up (va_up (va_up (va_up (v 1) 0 ((v 1 0) + 1)) (83 + 5 * (((v 1 0) + 1) / 2 % 16)) (v 1 7)) (83 + 5 * (((v 1 0) + 1) / 2 % 16) + 1) (v 1 8)) (83 + 5 * (((v 1 0) + 1) / 2 % 16) + 2) (v 1 9)) (83 + 5 * (((v 1 0) + 1) / 2 % 16) + 3) (v 1 10))) hx hb hK hP hD hS 1 0 rfl rfl (by omega) (Nat.le_of_ble_eq_true rfl) dX5_ends_50 (fun H locs hP hD hS => ?_)
  have hP : va_P D vwCl (wM q cI (va_up v 1 (va_up (va_up (va_up (va_up (va_up (va_up (v 1) 0 ((v 1 0) + 1)) (83 + 5 * (((v 1 0) + 1) / 2 % 16)) (v 1 7)) (83 + 5 * (((v 1 0) + 1) / 2 % 16) + 1) (v 1 8)) (83 + 5 * (((v 1 0) + 1) / 2 % 16) + 2) (v 1 9)) (83 + 5 * (((v 1 0) + 1) / 2 % 16) + 3) (v 1 10)) (83 + 5 * (((v 1 0) + 1) / 2 % 16) + 4) (v 1 11)))) H := hP
  have hD : va_D A (wM q cI (va_up v 1 (va_up (va_up (va_up (va_up (va_up (va_up (v 1) 0 ((v 1 0) + 1)) (83 + 5 * (((v 1 0) + 1) / 2 % 16)) (v 1 7)) (83 + 5 * (((v 1 0) + 1) / 2 % 16) + 1) (v 1 8)) (83 + 5 * (((v 1 0) + 1) / 2 % 16) + 2) (v 1 9)) (83 + 5 * (((v 1 0) + 1) / 2 % 16) + 3) (v 1 10)) (83 + 5 * (((v 1 0) + 1) / 2 % 16) + 4) (v 1 11)))) := hD
  refine lv_iinc (v := nI 5) (lv' := [(3, .int (nI 5)), (2, .int (nI (((v 1 0) + 1) / 2))), (0, .ref (q 0)), (1, .int (nI c))]) hx hb dX5_ends_51 hl (k := 0) rfl (by decide) (by decide) rfl (fun ls hl => ?_)
  refine lv_goto (tgt := 21) hx hb dX5_ends_54 (by decide) ?_
  refine lv_iload_n hx hb dX5_ends_21 rfl (lv_at hl 0 rfl) ?_
  refine o_const (k := 5) hx hb dX5_ends_22 (by decide) ?_
  refine o_icmp_ge (tgt := 57) hx hb dX5_ends_23 (by decide) (Nat.le_of_ble_eq_true rfl) (Nat.le_of_ble_eq_true rfl) (fun _ => ?_) (fun c0 => absurd c0 (by decide))
  refine lv_aload_n hx hb dX5_ends_57 rfl (lv_at hl 2 rfl) ?_
  refine va_get (D := D) (ci := 5) (v := .ref (q 1)) (C := RX5) (T := TX5) (N := 10) hx hb hts inX5_ends_X5 hown hK hP 0 rfl rfl 0 (by decide) (hts (.fieldLink RX5 7 "OddNoticeModel" "now" "[I") (List.mem_of_getElem? (i := 1) (by decide +kernel))) (fun _ h9 => h9) rfl dX5_ends_58 ?_
  refine o_bipush (k := 12) hx hb dX5_ends_61 (by decide) ?_
  refine lv_iload_n hx hb dX5_ends_63 rfl (lv_at hl 3 rfl) ?_
  refine o_iadd (a := 12) (b := c) (k := (12 + c)) hx hb dX5_ends_64 rfl ?_
  refine lv_dup2_11 hx hb dX5_ends_65 rfl rfl ?_
  refine o_iald (v := nI (v 1 (12 + c))) hx hb hK hP 1 0 rfl rfl (by omega) (Nat.le_of_ble_eq_true rfl) (congrArg nI (show (va_up (va_up (va_up (va_up (va_up (va_up (v 1) 0 ((v 1 0) + 1)) (83 + 5 * (((v 1 0) + 1) / 2 % 16)) (v 1 7)) (83 + 5 * (((v 1 0) + 1) / 2 % 16) + 1) (v 1 8)) (83 + 5 * (((v 1 0) + 1) / 2 % 16) + 2) (v 1 9)) (83 + 5 * (((v 1 0) + 1) / 2 % 16) + 3) (v 1 10)) (83 + 5 * (((v 1 0) + 1) / 2 % 16) + 4) (v 1 11)) (12 + c) = (v 1 (12 + c)) from (Eq.trans (o_un (by omega)) (Eq.trans (o_un (by omega)) (Eq.trans (o_un (by omega)) (Eq.trans (o_un (by omega)) (Eq.trans (o_un (by omega)) (o_un (by omega))))))))) dX5_ends_66 ?_
  refine o_const (k := 1) hx hb dX5_ends_67 (by decide) ?_
  refine o_iadd (a := (v 1 (12 + c))) (b := 1) (k := ((v 1 (12 + c)) + 1)) hx hb dX5_ends_68 rfl ?_
  refine o_iast (g := (va_up (va_up (va_up (va_up (va_up (va_up (v 1) 0 ((v 1 0) + 1)) (83 + 5 * (((v 1 0) + 1) / 2 % 16)) (v 1 7)) (83 + 5 * (((v 1 0) + 1) / 2 % 16) + 1) (v 1 8)) (83 + 5 * (((v 1 0) + 1) / 2 % 16) + 2) (v 1 9)) (83 + 5 * (((v 1 0) + 1) / 2 % 16) + 3) (v 1 10)) (83 + 5 * (((v 1 0) + 1) / 2 % 16) + 4) (v 1 11))) hx hb hK hP hD hS 1 0 rfl rfl (by omega) (Nat.le_of_ble_eq_true rfl) dX5_ends_69 (fun H locs hP hD hS => ?_)
  have hP : va_P D vwCl (wM q cI (va_up v 1 (va_up (va_up (va_up (va_up (va_up (va_up (va_up (v 1) 0 ((v 1 0) + 1)) (83 + 5 * (((v 1 0) + 1) / 2 % 16)) (v 1 7)) (83 + 5 * (((v 1 0) + 1) / 2 % 16) + 1) (v 1 8)) (83 + 5 * (((v 1 0) + 1) / 2 % 16) + 2) (v 1 9)) (83 + 5 * (((v 1 0) + 1) / 2 % 16) + 3) (v 1 10)) (83 + 5 * (((v 1 0) + 1) / 2 % 16) + 4) (v 1 11)) (12 + c) ((v 1 (12 + c)) + 1)))) H := hP
  have hD : va_D A (wM q cI (va_up v 1 (va_up (va_up (va_up (va_up (va_up (va_up (va_up (v 1) 0 ((v 1 0) + 1)) (83 + 5 * (((v 1 0) + 1) / 2 % 16)) (v 1 7)) (83 + 5 * (((v 1 0) + 1) / 2 % 16) + 1) (v 1 8)) (83 + 5 * (((v 1 0) + 1) / 2 % 16) + 2) (v 1 9)) (83 + 5 * (((v 1 0) + 1) / 2 % 16) + 3) (v 1 10)) (83 + 5 * (((v 1 0) + 1) / 2 % 16) + 4) (v 1 11)) (12 + c) ((v 1 (12 + c)) + 1)))) := hD
  refine lv_aload_n hx hb dX5_ends_70 rfl (lv_at hl 2 rfl) ?_
  refine va_get (D := D) (ci := 5) (v := .ref (q 1)) (C := RX5) (T := TX5) (N := 10) hx hb hts inX5_ends_X5 hown hK hP 0 rfl rfl 0 (by decide) (hts (.fieldLink RX5 7 "OddNoticeModel" "now" "[I") (List.mem_of_getElem? (i := 1) (by decide +kernel))) (fun _ h9 => h9) rfl dX5_ends_71 ?_
  refine o_const (k := 3) hx hb dX5_ends_74 (by decide) ?_
  refine o_const (k := 4294967295) hx hb dX5_ends_75 (by decide) ?_
  refine o_iast (g := (va_up (va_up (va_up (va_up (va_up (va_up (va_up (v 1) 0 ((v 1 0) + 1)) (83 + 5 * (((v 1 0) + 1) / 2 % 16)) (v 1 7)) (83 + 5 * (((v 1 0) + 1) / 2 % 16) + 1) (v 1 8)) (83 + 5 * (((v 1 0) + 1) / 2 % 16) + 2) (v 1 9)) (83 + 5 * (((v 1 0) + 1) / 2 % 16) + 3) (v 1 10)) (83 + 5 * (((v 1 0) + 1) / 2 % 16) + 4) (v 1 11)) (12 + c) ((v 1 (12 + c)) + 1))) hx hb hK hP hD hS 1 0 rfl rfl (Nat.le_of_ble_eq_true rfl) (Nat.le_of_ble_eq_true rfl) dX5_ends_76 (fun H locs hP hD hS => ?_)
  have hP : va_P D vwCl (wM q cI (va_up v 1 (va_up (va_up (va_up (va_up (va_up (va_up (va_up (va_up (v 1) 0 ((v 1 0) + 1)) (83 + 5 * (((v 1 0) + 1) / 2 % 16)) (v 1 7)) (83 + 5 * (((v 1 0) + 1) / 2 % 16) + 1) (v 1 8)) (83 + 5 * (((v 1 0) + 1) / 2 % 16) + 2) (v 1 9)) (83 + 5 * (((v 1 0) + 1) / 2 % 16) + 3) (v 1 10)) (83 + 5 * (((v 1 0) + 1) / 2 % 16) + 4) (v 1 11)) (12 + c) ((v 1 (12 + c)) + 1)) 3 4294967295))) H := hP
  have hD : va_D A (wM q cI (va_up v 1 (va_up (va_up (va_up (va_up (va_up (va_up (va_up (va_up (v 1) 0 ((v 1 0) + 1)) (83 + 5 * (((v 1 0) + 1) / 2 % 16)) (v 1 7)) (83 + 5 * (((v 1 0) + 1) / 2 % 16) + 1) (v 1 8)) (83 + 5 * (((v 1 0) + 1) / 2 % 16) + 2) (v 1 9)) (83 + 5 * (((v 1 0) + 1) / 2 % 16) + 3) (v 1 10)) (83 + 5 * (((v 1 0) + 1) / 2 % 16) + 4) (v 1 11)) (12 + c) ((v 1 (12 + c)) + 1)) 3 4294967295))) := hD
  refine lv_aload_n hx hb dX5_ends_77 rfl (lv_at hl 2 rfl) ?_
  refine va_get (D := D) (ci := 5) (v := .ref (q 1)) (C := RX5) (T := TX5) (N := 10) hx hb hts inX5_ends_X5 hown hK hP 0 rfl rfl 0 (by decide) (hts (.fieldLink RX5 7 "OddNoticeModel" "now" "[I") (List.mem_of_getElem? (i := 1) (by decide +kernel))) (fun _ h9 => h9) rfl dX5_ends_78 ?_
  refine o_const (k := 4) hx hb dX5_ends_81 (by decide) ?_
  refine o_iald (v := nI (v 1 4)) hx hb hK hP 1 0 rfl rfl (Nat.le_of_ble_eq_true rfl) (Nat.le_of_ble_eq_true rfl) (congrArg nI (show (va_up (va_up (va_up (va_up (va_up (va_up (va_up (va_up (v 1) 0 ((v 1 0) + 1)) (83 + 5 * (((v 1 0) + 1) / 2 % 16)) (v 1 7)) (83 + 5 * (((v 1 0) + 1) / 2 % 16) + 1) (v 1 8)) (83 + 5 * (((v 1 0) + 1) / 2 % 16) + 2) (v 1 9)) (83 + 5 * (((v 1 0) + 1) / 2 % 16) + 3) (v 1 10)) (83 + 5 * (((v 1 0) + 1) / 2 % 16) + 4) (v 1 11)) (12 + c) ((v 1 (12 + c)) + 1)) 3 4294967295) 4 = (v 1 4) from (Eq.trans (o_un (by decide)) (Eq.trans (o_un (by omega)) (Eq.trans (o_un (by omega)) (Eq.trans (o_un (by omega)) (Eq.trans (o_un (by omega)) (Eq.trans (o_un (by omega)) (Eq.trans (o_un (by omega)) (o_un (by decide))))))))))) dX5_ends_82 ?_
  refine o_if_le (tgt := 131) hx hb dX5_ends_83 (by decide) (by omega) (fun c_1 => ?_) (fun c_1 => ?_)
  · skip
    refine lv_iload_n hx hb dX5_ends_131 rfl (lv_at hl 1 rfl) ?_
    have w_2 : (wM q cI (va_up v 1 (m_ends (v 1) c))) = (wM q cI (va_up v 1 (va_up (va_up (va_up (va_up (va_up (va_up (va_up (va_up (v 1) 0 ((v 1 0) + 1)) (83 + 5 * (((v 1 0) + 1) / 2 % 16)) (v 1 7)) (83 + 5 * (((v 1 0) + 1) / 2 % 16) + 1) (v 1 8)) (83 + 5 * (((v 1 0) + 1) / 2 % 16) + 2) (v 1 9)) (83 + 5 * (((v 1 0) + 1) / 2 % 16) + 3) (v 1 10)) (83 + 5 * (((v 1 0) + 1) / 2 % 16) + 4) (v 1 11)) (12 + c) ((v 1 (12 + c)) + 1)) 3 4294967295))) := (by unfold m_ends m_ends0 m_keep5; rw [if_neg c_1]; first | done | rfl)
    rw [← w_2] at hP
    exact W.iret (v := nI (((v 1 0) + 1) / 2)) hx hb hrt (fun t ht hW => ⟨⟨_, (), rfl, (by simp only [m_ends, m_ends0, m_keep5, if_neg c_1]), by show va_P D vwCl _ t.heap; rw [ht]; exact hP⟩, hS.F ht⟩) hS.2.2 dX5_ends_132
  · skip
    refine lv_aload_n hx hb dX5_ends_86 rfl (lv_at hl 2 rfl) ?_
    refine va_get (D := D) (ci := 5) (v := .ref (q 1)) (C := RX5) (T := TX5) (N := 10) hx hb hts inX5_ends_X5 hown hK hP 0 rfl rfl 0 (by decide) (hts (.fieldLink RX5 7 "OddNoticeModel" "now" "[I") (List.mem_of_getElem? (i := 1) (by decide +kernel))) (fun _ h9 => h9) rfl dX5_ends_87 ?_
    refine o_const (k := 3) hx hb dX5_ends_90 (by decide) ?_
    refine lv_aload_n hx hb dX5_ends_91 rfl (lv_at hl 2 rfl) ?_
    refine va_get (D := D) (ci := 5) (v := .ref (q 1)) (C := RX5) (T := TX5) (N := 10) hx hb hts inX5_ends_X5 hown hK hP 0 rfl rfl 0 (by decide) (hts (.fieldLink RX5 7 "OddNoticeModel" "now" "[I") (List.mem_of_getElem? (i := 1) (by decide +kernel))) (fun _ h9 => h9) rfl dX5_ends_92 ?_
    refine o_const (k := 5) hx hb dX5_ends_95 (by decide) ?_
    refine o_iald (v := nI (v 1 5)) hx hb hK hP 1 0 rfl rfl (Nat.le_of_ble_eq_true rfl) (Nat.le_of_ble_eq_true rfl) (congrArg nI (show (va_up (va_up (va_up (va_up (va_up (va_up (va_up (va_up (v 1) 0 ((v 1 0) + 1)) (83 + 5 * (((v 1 0) + 1) / 2 % 16)) (v 1 7)) (83 + 5 * (((v 1 0) + 1) / 2 % 16) + 1) (v 1 8)) (83 + 5 * (((v 1 0) + 1) / 2 % 16) + 2) (v 1 9)) (83 + 5 * (((v 1 0) + 1) / 2 % 16) + 3) (v 1 10)) (83 + 5 * (((v 1 0) + 1) / 2 % 16) + 4) (v 1 11)) (12 + c) ((v 1 (12 + c)) + 1)) 3 4294967295) 5 = (v 1 5) from (Eq.trans (o_un (by decide)) (Eq.trans (o_un (by omega)) (Eq.trans (o_un (by omega)) (Eq.trans (o_un (by omega)) (Eq.trans (o_un (by omega)) (Eq.trans (o_un (by omega)) (Eq.trans (o_un (by omega)) (o_un (by decide))))))))))) dX5_ends_96 ?_
    refine o_iast (g := (va_up (va_up (va_up (va_up (va_up (va_up (va_up (va_up (v 1) 0 ((v 1 0) + 1)) (83 + 5 * (((v 1 0) + 1) / 2 % 16)) (v 1 7)) (83 + 5 * (((v 1 0) + 1) / 2 % 16) + 1) (v 1 8)) (83 + 5 * (((v 1 0) + 1) / 2 % 16) + 2) (v 1 9)) (83 + 5 * (((v 1 0) + 1) / 2 % 16) + 3) (v 1 10)) (83 + 5 * (((v 1 0) + 1) / 2 % 16) + 4) (v 1 11)) (12 + c) ((v 1 (12 + c)) + 1)) 3 4294967295)) hx hb hK hP hD hS 1 0 rfl rfl (Nat.le_of_ble_eq_true rfl) (Nat.le_of_ble_eq_true rfl) dX5_ends_97 (fun H locs hP hD hS => ?_)
    have hP : va_P D vwCl (wM q cI (va_up v 1 (va_up (va_up (va_up (va_up (va_up (va_up (va_up (va_up (va_up (v 1) 0 ((v 1 0) + 1)) (83 + 5 * (((v 1 0) + 1) / 2 % 16)) (v 1 7)) (83 + 5 * (((v 1 0) + 1) / 2 % 16) + 1) (v 1 8)) (83 + 5 * (((v 1 0) + 1) / 2 % 16) + 2) (v 1 9)) (83 + 5 * (((v 1 0) + 1) / 2 % 16) + 3) (v 1 10)) (83 + 5 * (((v 1 0) + 1) / 2 % 16) + 4) (v 1 11)) (12 + c) ((v 1 (12 + c)) + 1)) 3 4294967295) 3 (v 1 5)))) H := hP
    have hD : va_D A (wM q cI (va_up v 1 (va_up (va_up (va_up (va_up (va_up (va_up (va_up (va_up (va_up (v 1) 0 ((v 1 0) + 1)) (83 + 5 * (((v 1 0) + 1) / 2 % 16)) (v 1 7)) (83 + 5 * (((v 1 0) + 1) / 2 % 16) + 1) (v 1 8)) (83 + 5 * (((v 1 0) + 1) / 2 % 16) + 2) (v 1 9)) (83 + 5 * (((v 1 0) + 1) / 2 % 16) + 3) (v 1 10)) (83 + 5 * (((v 1 0) + 1) / 2 % 16) + 4) (v 1 11)) (12 + c) ((v 1 (12 + c)) + 1)) 3 4294967295) 3 (v 1 5)))) := hD
    refine lv_aload_n hx hb dX5_ends_98 rfl (lv_at hl 2 rfl) ?_
    refine va_get (D := D) (ci := 5) (v := .ref (q 1)) (C := RX5) (T := TX5) (N := 10) hx hb hts inX5_ends_X5 hown hK hP 0 rfl rfl 0 (by decide) (hts (.fieldLink RX5 7 "OddNoticeModel" "now" "[I") (List.mem_of_getElem? (i := 1) (by decide +kernel))) (fun _ h9 => h9) rfl dX5_ends_99 ?_
    refine o_const (k := 5) hx hb dX5_ends_102 (by decide) ?_
    refine lv_aload_n hx hb dX5_ends_103 rfl (lv_at hl 2 rfl) ?_
    refine va_get (D := D) (ci := 5) (v := .ref (q 1)) (C := RX5) (T := TX5) (N := 10) hx hb hts inX5_ends_X5 hown hK hP 0 rfl rfl 0 (by decide) (hts (.fieldLink RX5 7 "OddNoticeModel" "now" "[I") (List.mem_of_getElem? (i := 1) (by decide +kernel))) (fun _ h9 => h9) rfl dX5_ends_104 ?_
    refine o_bipush (k := 6) hx hb dX5_ends_107 (by decide) ?_
    refine o_iald (v := nI (v 1 6)) hx hb hK hP 1 0 rfl rfl (Nat.le_of_ble_eq_true rfl) (Nat.le_of_ble_eq_true rfl) (congrArg nI (show (va_up (va_up (va_up (va_up (va_up (va_up (va_up (va_up (va_up (v 1) 0 ((v 1 0) + 1)) (83 + 5 * (((v 1 0) + 1) / 2 % 16)) (v 1 7)) (83 + 5 * (((v 1 0) + 1) / 2 % 16) + 1) (v 1 8)) (83 + 5 * (((v 1 0) + 1) / 2 % 16) + 2) (v 1 9)) (83 + 5 * (((v 1 0) + 1) / 2 % 16) + 3) (v 1 10)) (83 + 5 * (((v 1 0) + 1) / 2 % 16) + 4) (v 1 11)) (12 + c) ((v 1 (12 + c)) + 1)) 3 4294967295) 3 (v 1 5)) 6 = (v 1 6) from (Eq.trans (o_un (by decide)) (Eq.trans (o_un (by decide)) (Eq.trans (o_un (by omega)) (Eq.trans (o_un (by omega)) (Eq.trans (o_un (by omega)) (Eq.trans (o_un (by omega)) (Eq.trans (o_un (by omega)) (Eq.trans (o_un (by omega)) (o_un (by decide)))))))))))) dX5_ends_109 ?_
    refine o_iast (g := (va_up (va_up (va_up (va_up (va_up (va_up (va_up (va_up (va_up (v 1) 0 ((v 1 0) + 1)) (83 + 5 * (((v 1 0) + 1) / 2 % 16)) (v 1 7)) (83 + 5 * (((v 1 0) + 1) / 2 % 16) + 1) (v 1 8)) (83 + 5 * (((v 1 0) + 1) / 2 % 16) + 2) (v 1 9)) (83 + 5 * (((v 1 0) + 1) / 2 % 16) + 3) (v 1 10)) (83 + 5 * (((v 1 0) + 1) / 2 % 16) + 4) (v 1 11)) (12 + c) ((v 1 (12 + c)) + 1)) 3 4294967295) 3 (v 1 5))) hx hb hK hP hD hS 1 0 rfl rfl (Nat.le_of_ble_eq_true rfl) (Nat.le_of_ble_eq_true rfl) dX5_ends_110 (fun H locs hP hD hS => ?_)
    have hP : va_P D vwCl (wM q cI (va_up v 1 (va_up (va_up (va_up (va_up (va_up (va_up (va_up (va_up (va_up (va_up (v 1) 0 ((v 1 0) + 1)) (83 + 5 * (((v 1 0) + 1) / 2 % 16)) (v 1 7)) (83 + 5 * (((v 1 0) + 1) / 2 % 16) + 1) (v 1 8)) (83 + 5 * (((v 1 0) + 1) / 2 % 16) + 2) (v 1 9)) (83 + 5 * (((v 1 0) + 1) / 2 % 16) + 3) (v 1 10)) (83 + 5 * (((v 1 0) + 1) / 2 % 16) + 4) (v 1 11)) (12 + c) ((v 1 (12 + c)) + 1)) 3 4294967295) 3 (v 1 5)) 5 (v 1 6)))) H := hP
    have hD : va_D A (wM q cI (va_up v 1 (va_up (va_up (va_up (va_up (va_up (va_up (va_up (va_up (va_up (va_up (v 1) 0 ((v 1 0) + 1)) (83 + 5 * (((v 1 0) + 1) / 2 % 16)) (v 1 7)) (83 + 5 * (((v 1 0) + 1) / 2 % 16) + 1) (v 1 8)) (83 + 5 * (((v 1 0) + 1) / 2 % 16) + 2) (v 1 9)) (83 + 5 * (((v 1 0) + 1) / 2 % 16) + 3) (v 1 10)) (83 + 5 * (((v 1 0) + 1) / 2 % 16) + 4) (v 1 11)) (12 + c) ((v 1 (12 + c)) + 1)) 3 4294967295) 3 (v 1 5)) 5 (v 1 6)))) := hD
    refine lv_aload_n hx hb dX5_ends_111 rfl (lv_at hl 2 rfl) ?_
    refine va_get (D := D) (ci := 5) (v := .ref (q 1)) (C := RX5) (T := TX5) (N := 10) hx hb hts inX5_ends_X5 hown hK hP 0 rfl rfl 0 (by decide) (hts (.fieldLink RX5 7 "OddNoticeModel" "now" "[I") (List.mem_of_getElem? (i := 1) (by decide +kernel))) (fun _ h9 => h9) rfl dX5_ends_112 ?_
    refine o_const (k := 4) hx hb dX5_ends_115 (by decide) ?_
    refine lv_dup2_11 hx hb dX5_ends_116 rfl rfl ?_
    refine o_iald (v := nI (v 1 4)) hx hb hK hP 1 0 rfl rfl (Nat.le_of_ble_eq_true rfl) (Nat.le_of_ble_eq_true rfl) (congrArg nI (show (va_up (va_up (va_up (va_up (va_up (va_up (va_up (va_up (va_up (va_up (v 1) 0 ((v 1 0) + 1)) (83 + 5 * (((v 1 0) + 1) / 2 % 16)) (v 1 7)) (83 + 5 * (((v 1 0) + 1) / 2 % 16) + 1) (v 1 8)) (83 + 5 * (((v 1 0) + 1) / 2 % 16) + 2) (v 1 9)) (83 + 5 * (((v 1 0) + 1) / 2 % 16) + 3) (v 1 10)) (83 + 5 * (((v 1 0) + 1) / 2 % 16) + 4) (v 1 11)) (12 + c) ((v 1 (12 + c)) + 1)) 3 4294967295) 3 (v 1 5)) 5 (v 1 6)) 4 = (v 1 4) from (Eq.trans (o_un (by decide)) (Eq.trans (o_un (by decide)) (Eq.trans (o_un (by decide)) (Eq.trans (o_un (by omega)) (Eq.trans (o_un (by omega)) (Eq.trans (o_un (by omega)) (Eq.trans (o_un (by omega)) (Eq.trans (o_un (by omega)) (Eq.trans (o_un (by omega)) (o_un (by decide))))))))))))) dX5_ends_117 ?_
    refine o_const (k := 1) hx hb dX5_ends_118 (by decide) ?_
    refine o_isub (a := (v 1 4)) (b := 1) (k := ((v 1 4) - 1)) hx hb dX5_ends_119 (by omega) rfl ?_
    refine o_iast (g := (va_up (va_up (va_up (va_up (va_up (va_up (va_up (va_up (va_up (va_up (v 1) 0 ((v 1 0) + 1)) (83 + 5 * (((v 1 0) + 1) / 2 % 16)) (v 1 7)) (83 + 5 * (((v 1 0) + 1) / 2 % 16) + 1) (v 1 8)) (83 + 5 * (((v 1 0) + 1) / 2 % 16) + 2) (v 1 9)) (83 + 5 * (((v 1 0) + 1) / 2 % 16) + 3) (v 1 10)) (83 + 5 * (((v 1 0) + 1) / 2 % 16) + 4) (v 1 11)) (12 + c) ((v 1 (12 + c)) + 1)) 3 4294967295) 3 (v 1 5)) 5 (v 1 6))) hx hb hK hP hD hS 1 0 rfl rfl (Nat.le_of_ble_eq_true rfl) (Nat.le_of_ble_eq_true rfl) dX5_ends_120 (fun H locs hP hD hS => ?_)
    have hP : va_P D vwCl (wM q cI (va_up v 1 (va_up (va_up (va_up (va_up (va_up (va_up (va_up (va_up (va_up (va_up (va_up (v 1) 0 ((v 1 0) + 1)) (83 + 5 * (((v 1 0) + 1) / 2 % 16)) (v 1 7)) (83 + 5 * (((v 1 0) + 1) / 2 % 16) + 1) (v 1 8)) (83 + 5 * (((v 1 0) + 1) / 2 % 16) + 2) (v 1 9)) (83 + 5 * (((v 1 0) + 1) / 2 % 16) + 3) (v 1 10)) (83 + 5 * (((v 1 0) + 1) / 2 % 16) + 4) (v 1 11)) (12 + c) ((v 1 (12 + c)) + 1)) 3 4294967295) 3 (v 1 5)) 5 (v 1 6)) 4 ((v 1 4) - 1)))) H := hP
    have hD : va_D A (wM q cI (va_up v 1 (va_up (va_up (va_up (va_up (va_up (va_up (va_up (va_up (va_up (va_up (va_up (v 1) 0 ((v 1 0) + 1)) (83 + 5 * (((v 1 0) + 1) / 2 % 16)) (v 1 7)) (83 + 5 * (((v 1 0) + 1) / 2 % 16) + 1) (v 1 8)) (83 + 5 * (((v 1 0) + 1) / 2 % 16) + 2) (v 1 9)) (83 + 5 * (((v 1 0) + 1) / 2 % 16) + 3) (v 1 10)) (83 + 5 * (((v 1 0) + 1) / 2 % 16) + 4) (v 1 11)) (12 + c) ((v 1 (12 + c)) + 1)) 3 4294967295) 3 (v 1 5)) 5 (v 1 6)) 4 ((v 1 4) - 1)))) := hD
    refine lv_aload_n hx hb dX5_ends_121 rfl (lv_at hl 2 rfl) ?_
    refine va_get (D := D) (ci := 5) (v := .ref (q 1)) (C := RX5) (T := TX5) (N := 10) hx hb hts inX5_ends_X5 hown hK hP 0 rfl rfl 0 (by decide) (hts (.fieldLink RX5 7 "OddNoticeModel" "now" "[I") (List.mem_of_getElem? (i := 1) (by decide +kernel))) (fun _ h9 => h9) rfl dX5_ends_122 ?_
    refine o_const (k := 0) hx hb dX5_ends_125 (by decide) ?_
    refine lv_dup2_11 hx hb dX5_ends_126 rfl rfl ?_
    refine o_iald (v := nI ((v 1 0) + 1)) hx hb hK hP 1 0 rfl rfl (Nat.le_of_ble_eq_true rfl) (Nat.le_of_ble_eq_true rfl) (congrArg nI (show (va_up (va_up (va_up (va_up (va_up (va_up (va_up (va_up (va_up (va_up (va_up (v 1) 0 ((v 1 0) + 1)) (83 + 5 * (((v 1 0) + 1) / 2 % 16)) (v 1 7)) (83 + 5 * (((v 1 0) + 1) / 2 % 16) + 1) (v 1 8)) (83 + 5 * (((v 1 0) + 1) / 2 % 16) + 2) (v 1 9)) (83 + 5 * (((v 1 0) + 1) / 2 % 16) + 3) (v 1 10)) (83 + 5 * (((v 1 0) + 1) / 2 % 16) + 4) (v 1 11)) (12 + c) ((v 1 (12 + c)) + 1)) 3 4294967295) 3 (v 1 5)) 5 (v 1 6)) 4 ((v 1 4) - 1)) 0 = ((v 1 0) + 1) from (Eq.trans (o_un (by decide)) (Eq.trans (o_un (by decide)) (Eq.trans (o_un (by decide)) (Eq.trans (o_un (by decide)) (Eq.trans (o_un (by omega)) (Eq.trans (o_un (by omega)) (Eq.trans (o_un (by omega)) (Eq.trans (o_un (by omega)) (Eq.trans (o_un (by omega)) (Eq.trans (o_un (by omega)) o_us)))))))))))) dX5_ends_127 ?_
    refine o_const (k := 1) hx hb dX5_ends_128 (by decide) ?_
    refine o_iadd (a := ((v 1 0) + 1)) (b := 1) (k := ((v 1 0) + 2)) hx hb dX5_ends_129 rfl ?_
    refine o_iast (g := (va_up (va_up (va_up (va_up (va_up (va_up (va_up (va_up (va_up (va_up (va_up (v 1) 0 ((v 1 0) + 1)) (83 + 5 * (((v 1 0) + 1) / 2 % 16)) (v 1 7)) (83 + 5 * (((v 1 0) + 1) / 2 % 16) + 1) (v 1 8)) (83 + 5 * (((v 1 0) + 1) / 2 % 16) + 2) (v 1 9)) (83 + 5 * (((v 1 0) + 1) / 2 % 16) + 3) (v 1 10)) (83 + 5 * (((v 1 0) + 1) / 2 % 16) + 4) (v 1 11)) (12 + c) ((v 1 (12 + c)) + 1)) 3 4294967295) 3 (v 1 5)) 5 (v 1 6)) 4 ((v 1 4) - 1))) hx hb hK hP hD hS 1 0 rfl rfl (Nat.le_of_ble_eq_true rfl) (Nat.le_of_ble_eq_true rfl) dX5_ends_130 (fun H locs hP hD hS => ?_)
    have hP : va_P D vwCl (wM q cI (va_up v 1 (va_up (va_up (va_up (va_up (va_up (va_up (va_up (va_up (va_up (va_up (va_up (va_up (v 1) 0 ((v 1 0) + 1)) (83 + 5 * (((v 1 0) + 1) / 2 % 16)) (v 1 7)) (83 + 5 * (((v 1 0) + 1) / 2 % 16) + 1) (v 1 8)) (83 + 5 * (((v 1 0) + 1) / 2 % 16) + 2) (v 1 9)) (83 + 5 * (((v 1 0) + 1) / 2 % 16) + 3) (v 1 10)) (83 + 5 * (((v 1 0) + 1) / 2 % 16) + 4) (v 1 11)) (12 + c) ((v 1 (12 + c)) + 1)) 3 4294967295) 3 (v 1 5)) 5 (v 1 6)) 4 ((v 1 4) - 1)) 0 ((v 1 0) + 2)))) H := hP
    have hD : va_D A (wM q cI (va_up v 1 (va_up (va_up (va_up (va_up (va_up (va_up (va_up (va_up (va_up (va_up (va_up (va_up (v 1) 0 ((v 1 0) + 1)) (83 + 5 * (((v 1 0) + 1) / 2 % 16)) (v 1 7)) (83 + 5 * (((v 1 0) + 1) / 2 % 16) + 1) (v 1 8)) (83 + 5 * (((v 1 0) + 1) / 2 % 16) + 2) (v 1 9)) (83 + 5 * (((v 1 0) + 1) / 2 % 16) + 3) (v 1 10)) (83 + 5 * (((v 1 0) + 1) / 2 % 16) + 4) (v 1 11)) (12 + c) ((v 1 (12 + c)) + 1)) 3 4294967295) 3 (v 1 5)) 5 (v 1 6)) 4 ((v 1 4) - 1)) 0 ((v 1 0) + 2)))) := hD
    refine lv_iload_n hx hb dX5_ends_131 rfl (lv_at hl 1 rfl) ?_
    have w_3 : (wM q cI (va_up v 1 (m_ends (v 1) c))) = (wM q cI (va_up v 1 (va_up (va_up (va_up (va_up (va_up (va_up (va_up (va_up (va_up (va_up (va_up (va_up (v 1) 0 ((v 1 0) + 1)) (83 + 5 * (((v 1 0) + 1) / 2 % 16)) (v 1 7)) (83 + 5 * (((v 1 0) + 1) / 2 % 16) + 1) (v 1 8)) (83 + 5 * (((v 1 0) + 1) / 2 % 16) + 2) (v 1 9)) (83 + 5 * (((v 1 0) + 1) / 2 % 16) + 3) (v 1 10)) (83 + 5 * (((v 1 0) + 1) / 2 % 16) + 4) (v 1 11)) (12 + c) ((v 1 (12 + c)) + 1)) 3 4294967295) 3 (v 1 5)) 5 (v 1 6)) 4 ((v 1 4) - 1)) 0 ((v 1 0) + 2)))) := (by unfold m_ends m_ends0 m_keep5; rw [if_pos c_1]; first | done | rfl)
    rw [← w_3] at hP
    exact W.iret (v := nI (((v 1 0) + 1) / 2)) hx hb hrt (fun t ht hW => ⟨⟨_, (), rfl, (by simp only [m_ends, m_ends0, m_keep5, if_pos c_1]), by show va_P D vwCl _ t.heap; rw [ht]; exact hP⟩, hS.F ht⟩) hS.2.2 dX5_ends_132
theorem inX5_ofReading_X5 : ∀ w ∈ wsX50, w ∈ wsX5_ofReading := by decide +kernel
set_option maxHeartbeats 4000000 in
set_option maxRecDepth 100000 in
theorem k_X5_ofReading (l : Launch) (D : va_G) (cI cR cS cL : ClassId) (q : Nat → Nat) (v : Nat → Nat → Nat) (r : Nat) (hr : r < 4) (hw : ∀ k, v 1 k < 2 ^ 32) (h1 : v 1 1 < 2 ^ 31) (h3 : v 1 (15 + 17 * r + 3) < 2 ^ 31) : Met l yX5_ofReading wsX5_ofReading ({ frames := 1, cells := 0, slots := 0, locals := 22 }) (va_Pc [.ref (q 0), .int (nI r)] (o_R D (o_T cI cR cS cL) (wM q cI v))) (vp_Si (fun rz => rz = nI (m_ofr (v 1) r))) 0 0 (fun _ => False) := by
  refine Met.ofW (cc := cX5_ofReading) (maxL := 2) (ret := (some .int)) (by decide) rfl ?_
  intro p e s m args below meth cd s₁ B hml hv
  obtain ⟨rfl, hP, hK, hN⟩ := hv
  have hx := B.exec
  have hb := B.bytes
  have hrt := B.returns
  have hts := atoms_spec (ws := wsX5_ofReading) B.pre
  have hown : s.vm.findClass RX5 = some m.cls := findClass_of_methodNamed B.named
  have hlocks := B.notSynchronized
  have hl := lv_entry ([.ref (q 0), .int (nI r)]) (n := 2) (Nat.le_of_ble_eq_true rfl)
  rw [lg_entry_eq]
  generalize (lg_sl ([.ref (q 0), .int (nI r)]) ++ List.replicate (2 - (lg_sl ([.ref (q 0), .int (nI r)])).length) Slot.unset).toArray = ls at hl ⊢
  have hl : lv_has ls 2 [(0, .ref (q 0)), (1, .int (nI r))] := hl
  refine lv_aload_n hx hb dX5_ofReading_0 rfl (lv_at hl 0 rfl) ?_
  refine lv_iload_n hx hb dX5_ofReading_1 rfl (lv_at hl 1 rfl) ?_
  refine o_const (k := 1) hx hb dX5_ofReading_2 (by decide) ?_
  refine o_ri (va_runV (As := [.int (nI r), .int (nI 1)]) (rest := []) ⟨hx, hb, hml, hown, hts⟩ (k_X5_of l D cI cR cS cL q v r 1 (by show r < 4; first | assumption | omega) (by show 1 < 17; first | assumption | omega)) (cwV 2 hts gX5_ofReading_X5_of rfl rfl rfl (by decide +kernel) ⟨Nat.le_of_ble_eq_true rfl, Nat.le_of_ble_eq_true rfl⟩) (o_v (o_pR hK hN hP) (va_recv hK hP (ci := 5) (q0 := 0) rfl rfl)) rfl rfl hl.1 rfl (lv_room (Nat.le_of_ble_eq_true rfl)) dX5_ofReading_3 ⟨Nat.zero_le _, Nat.zero_le _⟩) (fun r_2 e_1 => ?_)
  have e_1 : r_2 = nI (v 1 (15 + 17 * r + 1)) := e_1
  subst e_1
  have f1 := hw (15 + 17 * r + 1)
  refine o_const (k := 4294967295) hx hb dX5_ofReading_6 (by decide) ?_
  refine o_icmp_eq (tgt := 14) hx hb dX5_ofReading_7 (by decide) (by omega) (Nat.le_of_ble_eq_true rfl) (fun c_3 => ?_) (fun c_3 => ?_)
  · skip
    refine lv_aload_n hx hb dX5_ofReading_14 rfl (lv_at hl 0 rfl) ?_
    refine lv_iload_n hx hb dX5_ofReading_15 rfl (lv_at hl 1 rfl) ?_
    refine o_const (k := 0) hx hb dX5_ofReading_16 (by decide) ?_
    refine o_ri (va_runV (As := [.int (nI r), .int (nI 0)]) (rest := []) ⟨hx, hb, hml, hown, hts⟩ (k_X5_of l D cI cR cS cL q v r 0 (by show r < 4; first | assumption | omega) (by show 0 < 17; first | assumption | omega)) (cwV 2 hts gX5_ofReading_X5_of rfl rfl rfl (by decide +kernel) ⟨Nat.le_of_ble_eq_true rfl, Nat.le_of_ble_eq_true rfl⟩) (o_v (o_pR hK hN hP) (va_recv hK hP (ci := 5) (q0 := 0) rfl rfl)) rfl rfl hl.1 rfl (lv_room (Nat.le_of_ble_eq_true rfl)) dX5_ofReading_17 ⟨Nat.zero_le _, Nat.zero_le _⟩) (fun r_5 e_4 => ?_)
    have e_4 : r_5 = nI (v 1 (15 + 17 * r)) := e_4
    subst e_4
    have f2 := hw (15 + 17 * r)
    refine o_const (k := 1) hx hb dX5_ofReading_20 (by decide) ?_
    refine o_icmp_ne (tgt := 43) hx hb dX5_ofReading_21 (by decide) (by omega) (Nat.le_of_ble_eq_true rfl) (fun c_6 => ?_) (fun c_6 => ?_)
    · skip
      refine o_const (k := 0) hx hb dX5_ofReading_43 (by decide) ?_
      exact W.iret (v := nI 0) hx hb hrt (fun t ht hW => ⟨_, rfl, (congrArg nI (by unfold m_ofr; (repeat' split) <;> omega)), ht⟩) (fun _ h => nomatch h) dX5_ofReading_44
    · skip
      refine lv_aload_n hx hb dX5_ofReading_24 rfl (lv_at hl 0 rfl) ?_
      refine lv_iload_n hx hb dX5_ofReading_25 rfl (lv_at hl 1 rfl) ?_
      refine o_const (k := 3) hx hb dX5_ofReading_26 (by decide) ?_
      refine o_ri (va_runV (As := [.int (nI r), .int (nI 3)]) (rest := []) ⟨hx, hb, hml, hown, hts⟩ (k_X5_of l D cI cR cS cL q v r 3 (by show r < 4; first | assumption | omega) (by show 3 < 17; first | assumption | omega)) (cwV 2 hts gX5_ofReading_X5_of rfl rfl rfl (by decide +kernel) ⟨Nat.le_of_ble_eq_true rfl, Nat.le_of_ble_eq_true rfl⟩) (o_v (o_pR hK hN hP) (va_recv hK hP (ci := 5) (q0 := 0) rfl rfl)) rfl rfl hl.1 rfl (lv_room (Nat.le_of_ble_eq_true rfl)) dX5_ofReading_27 ⟨Nat.zero_le _, Nat.zero_le _⟩) (fun r_8 e_7 => ?_)
      have e_7 : r_8 = nI (v 1 (15 + 17 * r + 3)) := e_7
      subst e_7
      refine lv_aload_n hx hb dX5_ofReading_30 rfl (lv_at hl 0 rfl) ?_
      refine va_get (D := D) (ci := 5) (v := .ref (q 1)) (C := RX5) (T := TX5) (N := 10) hx hb hts inX5_ofReading_X5 hown hK hP 0 rfl rfl 0 (by decide) (hts (.fieldLink RX5 7 "OddNoticeModel" "now" "[I") (List.mem_of_getElem? (i := 1) (by decide +kernel))) (fun _ h9 => h9) rfl dX5_ofReading_31 ?_
      refine o_const (k := 1) hx hb dX5_ofReading_34 (by decide) ?_
      refine o_iald (v := nI (v 1 1)) hx hb hK hP 1 0 rfl rfl (Nat.le_of_ble_eq_true rfl) (Nat.le_of_ble_eq_true rfl) rfl dX5_ofReading_35 ?_
      refine o_icmp_lt (tgt := 43) hx hb dX5_ofReading_36 (by decide) (by omega) (by omega) (fun c_9 => ?_) (fun c_9 => ?_)
      · skip
        refine o_const (k := 0) hx hb dX5_ofReading_43 (by decide) ?_
        exact W.iret (v := nI 0) hx hb hrt (fun t ht hW => ⟨_, rfl, (congrArg nI (by unfold m_ofr; (repeat' split) <;> omega)), ht⟩) (fun _ h => nomatch h) dX5_ofReading_44
      · skip
        refine o_const (k := 2) hx hb dX5_ofReading_39 (by decide) ?_
        refine lv_goto (tgt := 44) hx hb dX5_ofReading_40 (by decide) ?_
        exact W.iret (v := nI 2) hx hb hrt (fun t ht hW => ⟨_, rfl, (congrArg nI (by unfold m_ofr; (repeat' split) <;> omega)), ht⟩) (fun _ h => nomatch h) dX5_ofReading_44
  · skip
    refine o_const (k := 1) hx hb dX5_ofReading_10 (by decide) ?_
    refine lv_goto (tgt := 44) hx hb dX5_ofReading_11 (by decide) ?_
    exact W.iret (v := nI 1) hx hb hrt (fun t ht hW => ⟨_, rfl, (congrArg nI (by unfold m_ofr; (repeat' split) <;> omega)), ht⟩) (fun _ h => nomatch h) dX5_ofReading_44
theorem inX5_failsTry_X5 : ∀ w ∈ wsX50, w ∈ wsX5_failsTry := by decide +kernel
set_option maxHeartbeats 4000000 in
set_option maxRecDepth 100000 in
theorem k_X5_failsTry (l : Launch) (D : va_G) (cI cR cS cL : ClassId) (sz : Nat) (q : Nat → Nat) (v : Nat → Nat → Nat) (r : Nat) (hr : r < 4) : Met l yX5_failsTry wsX5_failsTry ({ frames := 0, cells := 0, slots := 0, locals := 0 }) (va_Pc [.ref (q 0), .int (nI r)] (o_B D (o_T cI cR cS cL) (wM q cI v) sz)) (va_Qv (fun (_ : Unit) => True) (fun (_ : Unit) t => va_P D vwCl (wM q cI (va_up v 1 (m_fail (v 1) r))) t.heap) (va_A (wM q cI v) sz)) 0 0 (va_A (wM q cI v) sz) := by
  refine Met.ofW (cc := cX5_failsTry) (maxL := 2) (ret := none) (by decide) rfl ?_
  intro p e s m args below meth cd s₁ B hml hv
  obtain ⟨rfl, hsz, hP, hK, hD0, hN⟩ := hv
  have hx := B.exec
  have hb := B.bytes
  have hrt := B.returns
  have hts := atoms_spec (ws := wsX5_failsTry) B.pre
  have hown : s.vm.findClass RX5 = some m.cls := findClass_of_methodNamed B.named
  have hlocks := B.notSynchronized
  subst hsz
  have hD := hD0.self (sz := s.heap.size)
  generalize hAe : va_A (wM q cI v) s.heap.size = A at hD ⊢
  have hA : ∀ q : Nat, s.heap.size ≤ q → A q := fun q h => by rw [← hAe]; exact Or.inr h
  have hS : va_S A s.heap s.heap [] := va_S.rf
  have hl := lv_entry ([.ref (q 0), .int (nI r)]) (n := 2) (Nat.le_of_ble_eq_true rfl)
  rw [lg_entry_eq]
  generalize (lg_sl ([.ref (q 0), .int (nI r)]) ++ List.replicate (2 - (lg_sl ([.ref (q 0), .int (nI r)])).length) Slot.unset).toArray = ls at hl ⊢
  have hl : lv_has ls 2 [(0, .ref (q 0)), (1, .int (nI r))] := hl
  refine lv_aload_n hx hb dX5_failsTry_0 rfl (lv_at hl 0 rfl) ?_
  refine va_get (D := D) (ci := 5) (v := .ref (q 1)) (C := RX5) (T := TX5) (N := 10) hx hb hts inX5_failsTry_X5 hown hK hP 0 rfl rfl 0 (by decide) (hts (.fieldLink RX5 7 "OddNoticeModel" "now" "[I") (List.mem_of_getElem? (i := 1) (by decide +kernel))) (fun _ h9 => h9) rfl dX5_failsTry_1 ?_
  refine o_bipush (k := 15) hx hb dX5_failsTry_4 (by decide) ?_
  refine o_bipush (k := 17) hx hb dX5_failsTry_6 (by decide) ?_
  refine lv_iload_n hx hb dX5_failsTry_8 rfl (lv_at hl 1 rfl) ?_
  refine o_imul (a := 17) (b := r) (k := (17 * r)) hx hb dX5_failsTry_9 rfl ?_
  refine o_iadd (a := 15) (b := (17 * r)) (k := (15 + 17 * r)) hx hb dX5_failsTry_10 rfl ?_
  refine o_const (k := 1) hx hb dX5_failsTry_11 (by decide) ?_
  refine o_iadd (a := (15 + 17 * r)) (b := 1) (k := (15 + 17 * r + 1)) hx hb dX5_failsTry_12 rfl ?_
  refine o_const (k := 4294967295) hx hb dX5_failsTry_13 (by decide) ?_
  refine o_iast (g := (v 1)) hx hb hK hP hD hS 1 0 rfl rfl (by omega) (Nat.le_of_ble_eq_true rfl) dX5_failsTry_14 (fun H locs hP hD hS => ?_)
  have hP : va_P D vwCl (wM q cI (va_up v 1 (va_up (v 1) (15 + 17 * r + 1) 4294967295))) H := hP
  have hD : va_D A (wM q cI (va_up v 1 (va_up (v 1) (15 + 17 * r + 1) 4294967295))) := hD
  refine lv_aload_n hx hb dX5_failsTry_15 rfl (lv_at hl 0 rfl) ?_
  refine va_get (D := D) (ci := 5) (v := .ref (q 1)) (C := RX5) (T := TX5) (N := 10) hx hb hts inX5_failsTry_X5 hown hK hP 0 rfl rfl 0 (by decide) (hts (.fieldLink RX5 7 "OddNoticeModel" "now" "[I") (List.mem_of_getElem? (i := 1) (by decide +kernel))) (fun _ h9 => h9) rfl dX5_failsTry_16 ?_
  refine o_bipush (k := 15) hx hb dX5_failsTry_19 (by decide) ?_
  refine o_bipush (k := 17) hx hb dX5_failsTry_21 (by decide) ?_
  refine lv_iload_n hx hb dX5_failsTry_23 rfl (lv_at hl 1 rfl) ?_
  refine o_imul (a := 17) (b := r) (k := (17 * r)) hx hb dX5_failsTry_24 rfl ?_
  refine o_iadd (a := 15) (b := (17 * r)) (k := (15 + 17 * r)) hx hb dX5_failsTry_25 rfl ?_
  refine o_const (k := 3) hx hb dX5_failsTry_26 (by decide) ?_
  refine o_iadd (a := (15 + 17 * r)) (b := 3) (k := (15 + 17 * r + 3)) hx hb dX5_failsTry_27 rfl ?_
  refine lv_dup2_11 hx hb dX5_failsTry_28 rfl rfl ?_
  refine o_iald (v := nI (v 1 (15 + 17 * r + 3))) hx hb hK hP 1 0 rfl rfl (by omega) (Nat.le_of_ble_eq_true rfl) (congrArg nI (show (va_up (v 1) (15 + 17 * r + 1) 4294967295) (15 + 17 * r + 3) = (v 1 (15 + 17 * r + 3)) from (o_un (by omega)))) dX5_failsTry_29 ?_
  refine o_const (k := 1) hx hb dX5_failsTry_30 (by decide) ?_
  refine o_iadd (a := (v 1 (15 + 17 * r + 3))) (b := 1) (k := ((v 1 (15 + 17 * r + 3)) + 1)) hx hb dX5_failsTry_31 rfl ?_
  refine o_iast (g := (va_up (v 1) (15 + 17 * r + 1) 4294967295)) hx hb hK hP hD hS 1 0 rfl rfl (by omega) (Nat.le_of_ble_eq_true rfl) dX5_failsTry_32 (fun H locs hP hD hS => ?_)
  have hP : va_P D vwCl (wM q cI (va_up v 1 (va_up (va_up (v 1) (15 + 17 * r + 1) 4294967295) (15 + 17 * r + 3) ((v 1 (15 + 17 * r + 3)) + 1)))) H := hP
  have hD : va_D A (wM q cI (va_up v 1 (va_up (va_up (v 1) (15 + 17 * r + 1) 4294967295) (15 + 17 * r + 3) ((v 1 (15 + 17 * r + 3)) + 1)))) := hD
  refine lv_aload_n hx hb dX5_failsTry_33 rfl (lv_at hl 0 rfl) ?_
  refine va_get (D := D) (ci := 5) (v := .ref (q 1)) (C := RX5) (T := TX5) (N := 10) hx hb hts inX5_failsTry_X5 hown hK hP 0 rfl rfl 0 (by decide) (hts (.fieldLink RX5 7 "OddNoticeModel" "now" "[I") (List.mem_of_getElem? (i := 1) (by decide +kernel))) (fun _ h9 => h9) rfl dX5_failsTry_34 ?_
  refine o_bipush (k := 15) hx hb dX5_failsTry_37 (by decide) ?_
  refine o_bipush (k := 17) hx hb dX5_failsTry_39 (by decide) ?_
  refine lv_iload_n hx hb dX5_failsTry_41 rfl (lv_at hl 1 rfl) ?_
  refine o_imul (a := 17) (b := r) (k := (17 * r)) hx hb dX5_failsTry_42 rfl ?_
  refine o_iadd (a := 15) (b := (17 * r)) (k := (15 + 17 * r)) hx hb dX5_failsTry_43 rfl ?_
  refine o_const (k := 4) hx hb dX5_failsTry_44 (by decide) ?_
  refine o_iadd (a := (15 + 17 * r)) (b := 4) (k := (15 + 17 * r + 4)) hx hb dX5_failsTry_45 rfl ?_
  refine lv_dup2_11 hx hb dX5_failsTry_46 rfl rfl ?_
  refine o_iald (v := nI (v 1 (15 + 17 * r + 4))) hx hb hK hP 1 0 rfl rfl (by omega) (Nat.le_of_ble_eq_true rfl) (congrArg nI (show (va_up (va_up (v 1) (15 + 17 * r + 1) 4294967295) (15 + 17 * r + 3) ((v 1 (15 + 17 * r + 3)) + 1)) (15 + 17 * r + 4) = (v 1 (15 + 17 * r + 4)) from (Eq.trans (o_un (by omega)) (o_un (by omega))))) dX5_failsTry_47 ?_
  refine o_const (k := 1) hx hb dX5_failsTry_48 (by decide) ?_
  refine o_iadd (a := (v 1 (15 + 17 * r + 4))) (b := 1) (k := ((v 1 (15 + 17 * r + 4)) + 1)) hx hb dX5_failsTry_49 rfl ?_
  refine o_iast (g := (va_up (va_up (v 1) (15 + 17 * r + 1) 4294967295) (15 + 17 * r + 3) ((v 1 (15 + 17 * r + 3)) + 1))) hx hb hK hP hD hS 1 0 rfl rfl (by omega) (Nat.le_of_ble_eq_true rfl) dX5_failsTry_50 (fun H locs hP hD hS => ?_)
  have hP : va_P D vwCl (wM q cI (va_up v 1 (va_up (va_up (va_up (v 1) (15 + 17 * r + 1) 4294967295) (15 + 17 * r + 3) ((v 1 (15 + 17 * r + 3)) + 1)) (15 + 17 * r + 4) ((v 1 (15 + 17 * r + 4)) + 1)))) H := hP
  have hD : va_D A (wM q cI (va_up v 1 (va_up (va_up (va_up (v 1) (15 + 17 * r + 1) 4294967295) (15 + 17 * r + 3) ((v 1 (15 + 17 * r + 3)) + 1)) (15 + 17 * r + 4) ((v 1 (15 + 17 * r + 4)) + 1)))) := hD
  have w_1 : (wM q cI (va_up v 1 (m_fail (v 1) r))) = (wM q cI (va_up v 1 (va_up (va_up (va_up (v 1) (15 + 17 * r + 1) 4294967295) (15 + 17 * r + 3) ((v 1 (15 + 17 * r + 3)) + 1)) (15 + 17 * r + 4) ((v 1 (15 + 17 * r + 4)) + 1)))) := (by unfold m_fail; rfl)
  rw [← w_1] at hP
  exact W.vret hx hb hrt (fun t ht hW => ⟨⟨(), rfl, trivial, by show va_P D vwCl _ t.heap; rw [ht]; exact hP⟩, hS.F ht⟩) hS.2.2 dX5_failsTry_51
theorem inX5_begins_X5 : ∀ w ∈ wsX50, w ∈ wsX5_begins := by decide +kernel
set_option maxHeartbeats 4000000 in
set_option maxRecDepth 100000 in
theorem k_X5_begins (l : Launch) (D : va_G) (cI cR cS cL : ClassId) (sz : Nat) (q : Nat → Nat) (v : Nat → Nat → Nat) (r : Nat) (hr : r < 4) (hw : ∀ k, v 1 k < 2 ^ 32) (hn : v 1 0 < 2 ^ 31) : Met l yX5_begins wsX5_begins ({ frames := 1, cells := 0, slots := 0, locals := 21 }) (va_Pc [.ref (q 0), .int (nI r)] (o_B D (o_T cI cR cS cL) (wM q cI v) sz)) (va_Qi (fun rz (_ : Unit) => rz = nI (m_beginsr (v 1) r)) (fun (_ : Unit) t => va_P D vwCl (wM q cI (va_up v 1 (m_begins (v 1) r))) t.heap) (va_A (wM q cI v) sz)) 0 0 (va_A (wM q cI v) sz) := by
  refine Met.ofW (cc := cX5_begins) (maxL := 3) (ret := (some .int)) (by decide) rfl ?_
  intro p e s m args below meth cd s₁ B hml hv
  obtain ⟨rfl, hsz, hP, hK, hD0, hN⟩ := hv
  have hx := B.exec
  have hb := B.bytes
  have hrt := B.returns
  have hts := atoms_spec (ws := wsX5_begins) B.pre
  have hown : s.vm.findClass RX5 = some m.cls := findClass_of_methodNamed B.named
  have hlocks := B.notSynchronized
  subst hsz
  have hD := hD0.self (sz := s.heap.size)
  generalize hAe : va_A (wM q cI v) s.heap.size = A at hD ⊢
  have hA : ∀ q : Nat, s.heap.size ≤ q → A q := fun q h => by rw [← hAe]; exact Or.inr h
  have hS : va_S A s.heap s.heap [] := va_S.rf
  have hl := lv_entry ([.ref (q 0), .int (nI r)]) (n := 3) (Nat.le_of_ble_eq_true rfl)
  rw [lg_entry_eq]
  generalize (lg_sl ([.ref (q 0), .int (nI r)]) ++ List.replicate (3 - (lg_sl ([.ref (q 0), .int (nI r)])).length) Slot.unset).toArray = ls at hl ⊢
  have hl : lv_has ls 3 [(0, .ref (q 0)), (1, .int (nI r))] := hl
  refine o_bipush (k := 15) hx hb dX5_begins_0 (by decide) ?_
  refine o_bipush (k := 17) hx hb dX5_begins_2 (by decide) ?_
  refine lv_iload_n hx hb dX5_begins_4 rfl (lv_at hl 1 rfl) ?_
  refine o_imul (a := 17) (b := r) (k := (17 * r)) hx hb dX5_begins_5 rfl ?_
  refine o_iadd (a := 15) (b := (17 * r)) (k := (15 + 17 * r)) hx hb dX5_begins_6 rfl ?_
  refine lv_istore_n (lv' := [(2, .int (nI (15 + 17 * r))), (0, .ref (q 0)), (1, .int (nI r))]) hx hb dX5_begins_7 rfl hl (by decide) rfl (fun ls hl => ?_)
  refine lv_aload_n hx hb dX5_begins_8 rfl (lv_at hl 1 rfl) ?_
  refine va_get (D := D) (ci := 5) (v := .ref (q 1)) (C := RX5) (T := TX5) (N := 10) hx hb hts inX5_begins_X5 hown hK hP 0 rfl rfl 0 (by decide) (hts (.fieldLink RX5 7 "OddNoticeModel" "now" "[I") (List.mem_of_getElem? (i := 1) (by decide +kernel))) (fun _ h9 => h9) rfl dX5_begins_9 ?_
  refine lv_iload_n hx hb dX5_begins_12 rfl (lv_at hl 0 rfl) ?_
  refine o_iald (v := nI (v 1 (15 + 17 * r))) hx hb hK hP 1 0 rfl rfl (by omega) (Nat.le_of_ble_eq_true rfl) rfl dX5_begins_13 ?_
  have f_1 := hw (15 + 17 * r)
  refine o_const (k := 1) hx hb dX5_begins_14 (by decide) ?_
  refine o_icmp_ne (tgt := 32) hx hb dX5_begins_15 (by decide) (by omega) (Nat.le_of_ble_eq_true rfl) (fun c_2 => ?_) (fun c_2 => ?_)
  · skip
    refine lv_aload_n hx hb dX5_begins_32 rfl (lv_at hl 1 rfl) ?_
    refine va_get (D := D) (ci := 5) (v := .ref (q 1)) (C := RX5) (T := TX5) (N := 10) hx hb hts inX5_begins_X5 hown hK hP 0 rfl rfl 0 (by decide) (hts (.fieldLink RX5 7 "OddNoticeModel" "now" "[I") (List.mem_of_getElem? (i := 1) (by decide +kernel))) (fun _ h9 => h9) rfl dX5_begins_33 ?_
    refine lv_iload_n hx hb dX5_begins_36 rfl (lv_at hl 0 rfl) ?_
    refine o_const (k := 1) hx hb dX5_begins_37 (by decide) ?_
    refine o_iadd (a := (15 + 17 * r)) (b := 1) (k := (15 + 17 * r + 1)) hx hb dX5_begins_38 rfl ?_
    refine lv_aload_n hx hb dX5_begins_39 rfl (lv_at hl 1 rfl) ?_
    refine va_get (D := D) (ci := 5) (v := .ref (q 1)) (C := RX5) (T := TX5) (N := 10) hx hb hts inX5_begins_X5 hown hK hP 0 rfl rfl 0 (by decide) (hts (.fieldLink RX5 7 "OddNoticeModel" "now" "[I") (List.mem_of_getElem? (i := 1) (by decide +kernel))) (fun _ h9 => h9) rfl dX5_begins_40 ?_
    refine o_const (k := 0) hx hb dX5_begins_43 (by decide) ?_
    refine o_iald (v := nI (v 1 0)) hx hb hK hP 1 0 rfl rfl (Nat.le_of_ble_eq_true rfl) (Nat.le_of_ble_eq_true rfl) rfl dX5_begins_44 ?_
    have f_3 := hw 0
    refine o_iast (g := (v 1)) hx hb hK hP hD hS 1 0 rfl rfl (by omega) (Nat.le_of_ble_eq_true rfl) dX5_begins_45 (fun H locs hP hD hS => ?_)
    have hP : va_P D vwCl (wM q cI (va_up v 1 (va_up (v 1) (15 + 17 * r + 1) (v 1 0)))) H := hP
    have hD : va_D A (wM q cI (va_up v 1 (va_up (v 1) (15 + 17 * r + 1) (v 1 0)))) := hD
    refine lv_aload_n hx hb dX5_begins_46 rfl (lv_at hl 1 rfl) ?_
    refine va_get (D := D) (ci := 5) (v := .ref (q 1)) (C := RX5) (T := TX5) (N := 10) hx hb hts inX5_begins_X5 hown hK hP 0 rfl rfl 0 (by decide) (hts (.fieldLink RX5 7 "OddNoticeModel" "now" "[I") (List.mem_of_getElem? (i := 1) (by decide +kernel))) (fun _ h9 => h9) rfl dX5_begins_47 ?_
    refine lv_iload_n hx hb dX5_begins_50 rfl (lv_at hl 0 rfl) ?_
    refine o_const (k := 2) hx hb dX5_begins_51 (by decide) ?_
    refine o_iadd (a := (15 + 17 * r)) (b := 2) (k := (15 + 17 * r + 2)) hx hb dX5_begins_52 rfl ?_
    refine o_const (k := 0) hx hb dX5_begins_53 (by decide) ?_
    refine o_iast (g := (va_up (v 1) (15 + 17 * r + 1) (v 1 0))) hx hb hK hP hD hS 1 0 rfl rfl (by omega) (Nat.le_of_ble_eq_true rfl) dX5_begins_54 (fun H locs hP hD hS => ?_)
    have hP : va_P D vwCl (wM q cI (va_up v 1 (va_up (va_up (v 1) (15 + 17 * r + 1) (v 1 0)) (15 + 17 * r + 2) 0))) H := hP
    have hD : va_D A (wM q cI (va_up v 1 (va_up (va_up (v 1) (15 + 17 * r + 1) (v 1 0)) (15 + 17 * r + 2) 0))) := hD
    refine o_const (k := 1) hx hb dX5_begins_55 (by decide) ?_
    have w_4 : (wM q cI (va_up v 1 (m_begins (v 1) r))) = (wM q cI (va_up v 1 (va_up (va_up (v 1) (15 + 17 * r + 1) (v 1 0)) (15 + 17 * r + 2) 0))) := (by unfold m_begins; rw [if_neg (by omega)]; first | done | rfl)
    rw [← w_4] at hP
    exact W.iret (v := nI 1) hx hb hrt (fun t ht hW => ⟨⟨_, (), rfl, (congrArg nI (by unfold m_beginsr; (repeat' split) <;> omega)), by show va_P D vwCl _ t.heap; rw [ht]; exact hP⟩, hS.F ht⟩) hS.2.2 dX5_begins_56
  · skip
    refine lv_aload_n hx hb dX5_begins_18 rfl (lv_at hl 1 rfl) ?_
    refine o_ri (va_runV (As := []) (rest := []) ⟨hx, hb, hml, hown, hts⟩ (k_X5_isOdd l D cI cR cS cL q v (by show v 1 0 < 2 ^ 31; first | assumption | omega)) (cwV 0 hts gX5_begins_X5_isOdd rfl rfl rfl (by decide +kernel) ⟨Nat.le_of_ble_eq_true rfl, Nat.le_of_ble_eq_true rfl⟩) (o_v (o_pR hK hN hP) (va_recv hK hP (ci := 5) (q0 := 0) rfl rfl)) rfl rfl hl.1 rfl (lv_room (Nat.le_of_ble_eq_true rfl)) dX5_begins_19 ⟨Nat.zero_le _, Nat.zero_le _⟩) (fun r_6 e_5 => ?_)
    have e_5 : r_6 = nI (bn (v 1 0 % 2 = 1)) := e_5
    subst e_5
    refine o_ifz (tgt := 32) hx hb dX5_begins_22 (by decide) (fun c_7 => ?_) (fun c_7 => ?_)
    · skip
      refine lv_aload_n hx hb dX5_begins_32 rfl (lv_at hl 1 rfl) ?_
      refine va_get (D := D) (ci := 5) (v := .ref (q 1)) (C := RX5) (T := TX5) (N := 10) hx hb hts inX5_begins_X5 hown hK hP 0 rfl rfl 0 (by decide) (hts (.fieldLink RX5 7 "OddNoticeModel" "now" "[I") (List.mem_of_getElem? (i := 1) (by decide +kernel))) (fun _ h9 => h9) rfl dX5_begins_33 ?_
      refine lv_iload_n hx hb dX5_begins_36 rfl (lv_at hl 0 rfl) ?_
      refine o_const (k := 1) hx hb dX5_begins_37 (by decide) ?_
      refine o_iadd (a := (15 + 17 * r)) (b := 1) (k := (15 + 17 * r + 1)) hx hb dX5_begins_38 rfl ?_
      refine lv_aload_n hx hb dX5_begins_39 rfl (lv_at hl 1 rfl) ?_
      refine va_get (D := D) (ci := 5) (v := .ref (q 1)) (C := RX5) (T := TX5) (N := 10) hx hb hts inX5_begins_X5 hown hK hP 0 rfl rfl 0 (by decide) (hts (.fieldLink RX5 7 "OddNoticeModel" "now" "[I") (List.mem_of_getElem? (i := 1) (by decide +kernel))) (fun _ h9 => h9) rfl dX5_begins_40 ?_
      refine o_const (k := 0) hx hb dX5_begins_43 (by decide) ?_
      refine o_iald (v := nI (v 1 0)) hx hb hK hP 1 0 rfl rfl (Nat.le_of_ble_eq_true rfl) (Nat.le_of_ble_eq_true rfl) rfl dX5_begins_44 ?_
      have f_8 := hw 0
      refine o_iast (g := (v 1)) hx hb hK hP hD hS 1 0 rfl rfl (by omega) (Nat.le_of_ble_eq_true rfl) dX5_begins_45 (fun H locs hP hD hS => ?_)
      have hP : va_P D vwCl (wM q cI (va_up v 1 (va_up (v 1) (15 + 17 * r + 1) (v 1 0)))) H := hP
      have hD : va_D A (wM q cI (va_up v 1 (va_up (v 1) (15 + 17 * r + 1) (v 1 0)))) := hD
      refine lv_aload_n hx hb dX5_begins_46 rfl (lv_at hl 1 rfl) ?_
      refine va_get (D := D) (ci := 5) (v := .ref (q 1)) (C := RX5) (T := TX5) (N := 10) hx hb hts inX5_begins_X5 hown hK hP 0 rfl rfl 0 (by decide) (hts (.fieldLink RX5 7 "OddNoticeModel" "now" "[I") (List.mem_of_getElem? (i := 1) (by decide +kernel))) (fun _ h9 => h9) rfl dX5_begins_47 ?_
      refine lv_iload_n hx hb dX5_begins_50 rfl (lv_at hl 0 rfl) ?_
      refine o_const (k := 2) hx hb dX5_begins_51 (by decide) ?_
      refine o_iadd (a := (15 + 17 * r)) (b := 2) (k := (15 + 17 * r + 2)) hx hb dX5_begins_52 rfl ?_
      refine o_const (k := 0) hx hb dX5_begins_53 (by decide) ?_
      refine o_iast (g := (va_up (v 1) (15 + 17 * r + 1) (v 1 0))) hx hb hK hP hD hS 1 0 rfl rfl (by omega) (Nat.le_of_ble_eq_true rfl) dX5_begins_54 (fun H locs hP hD hS => ?_)
      have hP : va_P D vwCl (wM q cI (va_up v 1 (va_up (va_up (v 1) (15 + 17 * r + 1) (v 1 0)) (15 + 17 * r + 2) 0))) H := hP
      have hD : va_D A (wM q cI (va_up v 1 (va_up (va_up (v 1) (15 + 17 * r + 1) (v 1 0)) (15 + 17 * r + 2) 0))) := hD
      refine o_const (k := 1) hx hb dX5_begins_55 (by decide) ?_
      have w_9 : (wM q cI (va_up v 1 (m_begins (v 1) r))) = (wM q cI (va_up v 1 (va_up (va_up (v 1) (15 + 17 * r + 1) (v 1 0)) (15 + 17 * r + 2) 0))) := (by unfold m_begins; rw [if_neg (by omega)]; first | done | rfl)
      rw [← w_9] at hP
      exact W.iret (v := nI 1) hx hb hrt (fun t ht hW => ⟨⟨_, (), rfl, (congrArg nI (by unfold m_beginsr; (repeat' split) <;> omega)), by show va_P D vwCl _ t.heap; rw [ht]; exact hP⟩, hS.F ht⟩) hS.2.2 dX5_begins_56
    · skip
      refine lv_aload_n hx hb dX5_begins_25 rfl (lv_at hl 1 rfl) ?_
      refine lv_iload_n hx hb dX5_begins_26 rfl (lv_at hl 2 rfl) ?_
      refine o_wv (va_runV (As := [.int (nI r)]) (rest := []) ⟨hx, hb, hml, hown, hts⟩ (k_X5_failsTry l D cI cR cS cL s.heap.size q v r (by show r < 4; first | assumption | omega)) (cwV 1 hts gX5_begins_X5_failsTry rfl rfl rfl (by decide +kernel) ⟨Nat.le_of_ble_eq_true rfl, Nat.le_of_ble_eq_true rfl⟩) (o_v (o_pB hK hN hP hD) (va_recv hK hP (ci := 5) (q0 := 0) rfl rfl)) rfl rfl hl.1 rfl (lv_room (Nat.le_of_ble_eq_true rfl)) dX5_begins_27 ⟨Nat.zero_le _, Nat.zero_le _⟩) hP hD hS hA [0, 1, 2, 3, 4] (by decide) rfl (fun _ => rfl) (fun _ H locs e_10 hP hD hS => ?_)
      have hP : va_P D vwCl (wM q cI (va_up v 1 (m_fail (v 1) r))) H := hP
      have hD : va_D A (wM q cI (va_up v 1 (m_fail (v 1) r))) := hD
      refine o_const (k := 0) hx hb dX5_begins_30 (by decide) ?_
      have w_11 : (wM q cI (va_up v 1 (m_begins (v 1) r))) = (wM q cI (va_up v 1 (m_fail (v 1) r))) := (by unfold m_begins; rw [if_pos (by omega)]; first | done | rfl)
      rw [← w_11] at hP
      exact W.iret (v := nI 0) hx hb hrt (fun t ht hW => ⟨⟨_, (), rfl, (congrArg nI (by unfold m_beginsr; (repeat' split) <;> omega)), by show va_P D vwCl _ t.heap; rw [ht]; exact hP⟩, hS.F ht⟩) hS.2.2 dX5_begins_31
theorem inX5_isKept_X5 : ∀ w ∈ wsX50, w ∈ wsX5_isKept := by decide +kernel
set_option maxHeartbeats 4000000 in
set_option maxRecDepth 100000 in
theorem k_X5_isKept (l : Launch) (D : va_G) (cI cR cS cL : ClassId) (q : Nat → Nat) (v : Nat → Nat → Nat) (n : Nat) (hn : v 1 0 < 2 ^ 30) (h1 : n < 2 ^ 32) : Met l yX5_isKept wsX5_isKept ({ frames := 1, cells := 0, slots := 0, locals := 22 }) (va_Pc [.ref (q 0), .int (nI n)] (o_R D (o_T cI cR cS cL) (wM q cI v))) (vp_Si (fun rz => rz = nI (bn (n ≤ v 1 0 / 2 ∧ v 1 0 / 2 - n < 16)))) 0 0 (fun _ => False) := by
  refine Met.ofW (cc := cX5_isKept) (maxL := 2) (ret := (some .boolean)) (by decide) rfl ?_
  intro p e s m args below meth cd s₁ B hml hv
  obtain ⟨rfl, hP, hK, hN⟩ := hv
  have hx := B.exec
  have hb := B.bytes
  have hrt := B.returns
  have hts := atoms_spec (ws := wsX5_isKept) B.pre
  have hown : s.vm.findClass RX5 = some m.cls := findClass_of_methodNamed B.named
  have hlocks := B.notSynchronized
  have hl := lv_entry ([.ref (q 0), .int (nI n)]) (n := 2) (Nat.le_of_ble_eq_true rfl)
  rw [lg_entry_eq]
  generalize (lg_sl ([.ref (q 0), .int (nI n)]) ++ List.replicate (2 - (lg_sl ([.ref (q 0), .int (nI n)])).length) Slot.unset).toArray = ls at hl ⊢
  have hl : lv_has ls 2 [(0, .ref (q 0)), (1, .int (nI n))] := hl
  refine lv_iload_n hx hb dX5_isKept_0 rfl (lv_at hl 1 rfl) ?_
  refine o_const (k := 0) hx hb dX5_isKept_1 (by decide) ?_
  refine lv_aload_n hx hb dX5_isKept_2 rfl (lv_at hl 0 rfl) ?_
  refine va_get (D := D) (ci := 5) (v := .ref (q 1)) (C := RX5) (T := TX5) (N := 10) hx hb hts inX5_isKept_X5 hown hK hP 0 rfl rfl 0 (by decide) (hts (.fieldLink RX5 7 "OddNoticeModel" "now" "[I") (List.mem_of_getElem? (i := 1) (by decide +kernel))) (fun _ h9 => h9) rfl dX5_isKept_3 ?_
  refine o_const (k := 0) hx hb dX5_isKept_6 (by decide) ?_
  refine o_iald (v := nI (v 1 0)) hx hb hK hP 1 0 rfl rfl (Nat.le_of_ble_eq_true rfl) (Nat.le_of_ble_eq_true rfl) rfl dX5_isKept_7 ?_
  refine o_const (k := 2) hx hb dX5_isKept_8 (by decide) ?_
  refine o_idiv (a := (v 1 0)) (b := 2) (k := ((v 1 0) / 2)) hx hb dX5_isKept_9 (by omega) (by decide) (Nat.le_of_ble_eq_true rfl) rfl ?_
  refine o_ri (va_runS (As := [.int (nI n), .int (nI 0), .int (nI ((v 1 0) / 2))]) (rest := []) ⟨hx, hb, hml, hown, hts⟩ (k_X5_in l D cI cR cS cL n 0 ((v 1 0) / 2) (by show n < 2 ^ 32; first | assumption | omega) (by show 0 < 2 ^ 31; first | assumption | omega) (by show ((v 1 0) / 2) < 2 ^ 31; first | assumption | omega)) (va_cwS 3 hts gX5_isKept_X5_in rfl rfl rfl (by decide +kernel) ⟨Nat.le_of_ble_eq_true rfl, Nat.le_of_ble_eq_true rfl⟩) (o_pR hK hN (hP.sub (ws' := []) [] rfl)) rfl rfl hl.1 rfl (lv_room (Nat.le_of_ble_eq_true rfl)) dX5_isKept_10 ⟨Nat.zero_le _, Nat.zero_le _⟩) (fun r_2 e_1 => ?_)
  have e_1 : r_2 = nI (bn (0 ≤ n ∧ n ≤ ((v 1 0) / 2))) := e_1
  subst e_1
  refine o_ifz (tgt := 35) hx hb dX5_isKept_13 (by decide) (fun c_3 => ?_) (fun c_3 => ?_)
  · skip
    refine o_const (k := 0) hx hb dX5_isKept_35 (by decide) ?_
    exact W.zret (v := nI 0) hx hb hrt rfl (fun t ht hW => ⟨_, rfl, (congrArg nI (Eq.symm (bn_f (by omega)))), ht⟩) (fun _ h => nomatch h) dX5_isKept_36
  · skip
    refine lv_aload_n hx hb dX5_isKept_16 rfl (lv_at hl 0 rfl) ?_
    refine va_get (D := D) (ci := 5) (v := .ref (q 1)) (C := RX5) (T := TX5) (N := 10) hx hb hts inX5_isKept_X5 hown hK hP 0 rfl rfl 0 (by decide) (hts (.fieldLink RX5 7 "OddNoticeModel" "now" "[I") (List.mem_of_getElem? (i := 1) (by decide +kernel))) (fun _ h9 => h9) rfl dX5_isKept_17 ?_
    refine o_const (k := 0) hx hb dX5_isKept_20 (by decide) ?_
    refine o_iald (v := nI (v 1 0)) hx hb hK hP 1 0 rfl rfl (Nat.le_of_ble_eq_true rfl) (Nat.le_of_ble_eq_true rfl) rfl dX5_isKept_21 ?_
    refine o_const (k := 2) hx hb dX5_isKept_22 (by decide) ?_
    refine o_idiv (a := (v 1 0)) (b := 2) (k := ((v 1 0) / 2)) hx hb dX5_isKept_23 (by omega) (by decide) (Nat.le_of_ble_eq_true rfl) rfl ?_
    refine lv_iload_n hx hb dX5_isKept_24 rfl (lv_at hl 1 rfl) ?_
    refine o_isub (a := ((v 1 0) / 2)) (b := n) (k := ((v 1 0) / 2 - n)) hx hb dX5_isKept_25 (by omega) rfl ?_
    refine o_bipush (k := 16) hx hb dX5_isKept_26 (by decide) ?_
    refine o_icmp_ge (tgt := 35) hx hb dX5_isKept_28 (by decide) (by omega) (Nat.le_of_ble_eq_true rfl) (fun c_4 => ?_) (fun c_4 => ?_)
    · skip
      refine o_const (k := 0) hx hb dX5_isKept_35 (by decide) ?_
      exact W.zret (v := nI 0) hx hb hrt rfl (fun t ht hW => ⟨_, rfl, (congrArg nI (Eq.symm (bn_f (by omega)))), ht⟩) (fun _ h => nomatch h) dX5_isKept_36
    · skip
      refine o_const (k := 1) hx hb dX5_isKept_31 (by decide) ?_
      refine lv_goto (tgt := 36) hx hb dX5_isKept_32 (by decide) ?_
      exact W.zret (v := nI 1) hx hb hrt rfl (fun t ht hW => ⟨_, rfl, (congrArg nI (Eq.symm (bn_t (by omega)))), ht⟩) (fun _ h => nomatch h) dX5_isKept_36
