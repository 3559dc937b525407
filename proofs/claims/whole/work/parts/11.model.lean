theorem inX5_isAt_X5 : ∀ w ∈ wsX50, w ∈ wsX5_isAt := by decide +kernel
set_option maxHeartbeats 4000000 in
set_option maxRecDepth 100000 in
theorem k_X5_isAt (l : Launch) (D : va_G) (cI cR cS cL : ClassId) (q : Nat → Nat) (v : Nat → Nat → Nat) (lo : Nat) (hi : Nat) (h1 : v 0 3 < 2 ^ 31) (h2 : v 0 1 ≤ 60) (ht : ∀ k, v 3 k < 2 ^ 31) (h3 : lo < 2 ^ 31) (h4 : hi < 2 ^ 31) : Met l yX5_isAt wsX5_isAt ({ frames := 1, cells := 0, slots := 0, locals := 22 }) (va_Pc [.ref (q 0), .int (nI lo), .int (nI hi)] (o_R D (o_T cI cR cS cL) (wM q cI v))) (vp_Si (fun rz => rz = nI (bn (v 0 3 < v 0 1 ∧ lo ≤ v 3 (v 0 3) ∧ v 3 (v 0 3) ≤ hi)))) 0 0 (fun _ => False) := by
  refine Met.ofW (cc := cX5_isAt) (maxL := 3) (ret := (some .boolean)) (by decide) rfl ?_
  intro p e s m args below meth cd s₁ B hml hv
  obtain ⟨rfl, hP, hK, hN⟩ := hv
  have hx := B.exec
  have hb := B.bytes
  have hrt := B.returns
  have hts := atoms_spec (ws := wsX5_isAt) B.pre
  have hown : s.vm.findClass RX5 = some m.cls := findClass_of_methodNamed B.named
  have hlocks := B.notSynchronized
  have hl := lv_entry ([.ref (q 0), .int (nI lo), .int (nI hi)]) (n := 3) (Nat.le_of_ble_eq_true rfl)
  rw [lg_entry_eq]
  generalize (lg_sl ([.ref (q 0), .int (nI lo), .int (nI hi)]) ++ List.replicate (3 - (lg_sl ([.ref (q 0), .int (nI lo), .int (nI hi)])).length) Slot.unset).toArray = ls at hl ⊢
  have hl : lv_has ls 3 [(0, .ref (q 0)), (1, .int (nI lo)), (2, .int (nI hi))] := hl
  refine lv_aload_n hx hb dX5_isAt_0 rfl (lv_at hl 0 rfl) ?_
  refine va_get (D := D) (ci := 5) (v := .int (nI (v 0 3))) (C := RX5) (T := TX5) (N := 10) hx hb hts inX5_isAt_X5 hown hK hP 0 rfl rfl 6 (by decide) (hts (.fieldLink RX5 89 "OddNoticeModel" "at" "I") (List.mem_of_getElem? (i := 1) (by decide +kernel))) (fun _ h9 => h9) rfl dX5_isAt_1 ?_
  refine lv_aload_n hx hb dX5_isAt_4 rfl (lv_at hl 0 rfl) ?_
  refine va_get (D := D) (ci := 5) (v := .int (nI (v 0 1))) (C := RX5) (T := TX5) (N := 10) hx hb hts inX5_isAt_X5 hown hK hP 0 rfl rfl 4 (by decide) (hts (.fieldLink RX5 86 "OddNoticeModel" "typed" "I") (List.mem_of_getElem? (i := 2) (by decide +kernel))) (fun _ h9 => h9) rfl dX5_isAt_5 ?_
  refine o_icmp_ge (tgt := 32) hx hb dX5_isAt_8 (by decide) (by omega) (by omega) (fun c_1 => ?_) (fun c_1 => ?_)
  · skip
    refine o_const (k := 0) hx hb dX5_isAt_32 (by decide) ?_
    exact W.zret (v := nI 0) hx hb hrt rfl (fun t ht hW => ⟨_, rfl, (congrArg nI (Eq.symm (bn_f (by omega)))), ht⟩) (fun _ h => nomatch h) dX5_isAt_33
  · skip
    refine lv_aload_n hx hb dX5_isAt_11 rfl (lv_at hl 0 rfl) ?_
    refine va_get (D := D) (ci := 5) (v := .ref (q 3)) (C := RX5) (T := TX5) (N := 10) hx hb hts inX5_isAt_X5 hown hK hP 0 rfl rfl 3 (by decide) (hts (.fieldLink RX5 16 "OddNoticeModel" "text" "[I") (List.mem_of_getElem? (i := 3) (by decide +kernel))) (fun _ h9 => h9) rfl dX5_isAt_12 ?_
    refine lv_aload_n hx hb dX5_isAt_15 rfl (lv_at hl 0 rfl) ?_
    refine va_get (D := D) (ci := 5) (v := .int (nI (v 0 3))) (C := RX5) (T := TX5) (N := 10) hx hb hts inX5_isAt_X5 hown hK hP 0 rfl rfl 6 (by decide) (hts (.fieldLink RX5 89 "OddNoticeModel" "at" "I") (List.mem_of_getElem? (i := 1) (by decide +kernel))) (fun _ h9 => h9) rfl dX5_isAt_16 ?_
    refine o_iald (v := nI (v 3 (v 0 3))) hx hb hK hP 3 0 rfl rfl (by omega) (Nat.le_of_ble_eq_true rfl) rfl dX5_isAt_19 ?_
    have f_2 := ht (v 0 3)
    refine lv_iload_n hx hb dX5_isAt_20 rfl (lv_at hl 1 rfl) ?_
    refine lv_iload_n hx hb dX5_isAt_21 rfl (lv_at hl 2 rfl) ?_
    refine o_ri (va_runS (As := [.int (nI (v 3 (v 0 3))), .int (nI lo), .int (nI hi)]) (rest := []) ⟨hx, hb, hml, hown, hts⟩ (k_X5_in l D cI cR cS cL (v 3 (v 0 3)) lo hi (by show (v 3 (v 0 3)) < 2 ^ 32; first | assumption | omega) (by show lo < 2 ^ 31; first | assumption | omega) (by show hi < 2 ^ 31; first | assumption | omega)) (va_cwS 3 hts gX5_isAt_X5_in rfl rfl rfl (by decide +kernel) ⟨Nat.le_of_ble_eq_true rfl, Nat.le_of_ble_eq_true rfl⟩) (o_pR hK hN (hP.sub (ws' := []) [] rfl)) rfl rfl hl.1 rfl (lv_room (Nat.le_of_ble_eq_true rfl)) dX5_isAt_22 ⟨Nat.zero_le _, Nat.zero_le _⟩) (fun r_4 e_3 => ?_)
    have e_3 : r_4 = nI (bn (lo ≤ (v 3 (v 0 3)) ∧ (v 3 (v 0 3)) ≤ hi)) := e_3
    subst e_3
    refine o_ifz (tgt := 32) hx hb dX5_isAt_25 (by decide) (fun c_5 => ?_) (fun c_5 => ?_)
    · skip
      refine o_const (k := 0) hx hb dX5_isAt_32 (by decide) ?_
      exact W.zret (v := nI 0) hx hb hrt rfl (fun t ht hW => ⟨_, rfl, (congrArg nI (Eq.symm (bn_f (by omega)))), ht⟩) (fun _ h => nomatch h) dX5_isAt_33
    · skip
      refine o_const (k := 1) hx hb dX5_isAt_28 (by decide) ?_
      refine lv_goto (tgt := 33) hx hb dX5_isAt_29 (by decide) ?_
      exact W.zret (v := nI 1) hx hb hrt rfl (fun t ht hW => ⟨_, rfl, (congrArg nI (Eq.symm (bn_t (by omega)))), ht⟩) (fun _ h => nomatch h) dX5_isAt_33
theorem inX5_stops_X5 : ∀ w ∈ wsX50, w ∈ wsX5_stops := by decide +kernel
set_option maxHeartbeats 4000000 in
set_option maxRecDepth 100000 in
theorem k_X5_stops (l : Launch) (D : va_G) (cI cR cS cL : ClassId) (sz : Nat) (q : Nat → Nat) (v : Nat → Nat → Nat) (h1 : v 0 3 < 2 ^ 31) (h2 : v 0 1 < 2 ^ 31) : Met l yX5_stops wsX5_stops ({ frames := 0, cells := 0, slots := 0, locals := 0 }) (va_Pc [.ref (q 0)] (o_B D (o_T cI cR cS cL) (wM q cI v) sz)) (va_Qi (fun rz (_ : Unit) => rz = nI 0) (fun (_ : Unit) t => va_P D vwCl (wM q cI (va_up v 0 (va_up (v 0) 4 (bn (v 0 3 < v 0 1))))) t.heap) (va_A (wM q cI v) sz)) 0 0 (va_A (wM q cI v) sz) := by
  refine Met.ofW (cc := cX5_stops) (maxL := 1) (ret := (some .boolean)) (by decide) rfl ?_
  intro p e s m args below meth cd s₁ B hml hv
  obtain ⟨rfl, hsz, hP, hK, hD0, hN⟩ := hv
  have hx := B.exec
  have hb := B.bytes
  have hrt := B.returns
  have hts := atoms_spec (ws := wsX5_stops) B.pre
  have hown : s.vm.findClass RX5 = some m.cls := findClass_of_methodNamed B.named
  have hlocks := B.notSynchronized
  subst hsz
  have hD := hD0.self (sz := s.heap.size)
  generalize hAe : va_A (wM q cI v) s.heap.size = A at hD ⊢
  have hA : ∀ q : Nat, s.heap.size ≤ q → A q := fun q h => by rw [← hAe]; exact Or.inr h
  have hS : va_S A s.heap s.heap [] := va_S.rf
  have hl := lv_entry ([.ref (q 0)]) (n := 1) (Nat.le_of_ble_eq_true rfl)
  rw [lg_entry_eq]
  generalize (lg_sl ([.ref (q 0)]) ++ List.replicate (1 - (lg_sl ([.ref (q 0)])).length) Slot.unset).toArray = ls at hl ⊢
  have hl : lv_has ls 1 [(0, .ref (q 0))] := hl
  refine lv_aload_n hx hb dX5_stops_0 rfl (lv_at hl 0 rfl) ?_
  refine lv_aload_n hx hb dX5_stops_1 rfl (lv_at hl 0 rfl) ?_
  refine va_get (D := D) (ci := 5) (v := .int (nI (v 0 3))) (C := RX5) (T := TX5) (N := 10) hx hb hts inX5_stops_X5 hown hK hP 0 rfl rfl 6 (by decide) (hts (.fieldLink RX5 89 "OddNoticeModel" "at" "I") (List.mem_of_getElem? (i := 1) (by decide +kernel))) (fun _ h9 => h9) rfl dX5_stops_2 ?_
  refine lv_aload_n hx hb dX5_stops_5 rfl (lv_at hl 0 rfl) ?_
  refine va_get (D := D) (ci := 5) (v := .int (nI (v 0 1))) (C := RX5) (T := TX5) (N := 10) hx hb hts inX5_stops_X5 hown hK hP 0 rfl rfl 4 (by decide) (hts (.fieldLink RX5 86 "OddNoticeModel" "typed" "I") (List.mem_of_getElem? (i := 2) (by decide +kernel))) (fun _ h9 => h9) rfl dX5_stops_6 ?_
  refine o_icmp_ge (tgt := 16) hx hb dX5_stops_9 (by decide) (by omega) (by omega) (fun c_1 => ?_) (fun c_1 => ?_)
  · skip
    refine o_const (k := 0) hx hb dX5_stops_16 (by decide) ?_
    refine va_put (D := D) (ci := 5) (v := .int (nI 0)) (ty := .boolean) (C := RX5) (T := TX5) (N := 10) hx hb hts inX5_stops_X5 tyX5 tyX5_ok nmX5 hown hK hP hD hS 0 rfl rfl 7 (by decide) (hts (.fieldLink RX5 92 "OddNoticeModel" "isFault" "Z") (List.mem_of_getElem? (i := 3) (by decide +kernel))) (fun _ h9 => h9) rfl (by decide +kernel) rfl rfl (Nat.le_of_ble_eq_true rfl) dX5_stops_17 (fun H locs hP hD hS => ?_)
    have hP : va_P D vwCl (wM q cI (va_up v 0 (va_up (v 0) 4 0))) H := hP
    have hD : va_D A (wM q cI (va_up v 0 (va_up (v 0) 4 0))) := hD
    refine o_const (k := 0) hx hb dX5_stops_20 (by decide) ?_
    have w_2 : (wM q cI (va_up v 0 (va_up (v 0) 4 (bn (v 0 3 < v 0 1))))) = (wM q cI (va_up v 0 (va_up (v 0) 4 0))) := (by rw [bn_f c_1])
    rw [← w_2] at hP
    exact W.zret (v := nI 0) hx hb hrt rfl (fun t ht hW => ⟨⟨_, (), rfl, rfl, by show va_P D vwCl _ t.heap; rw [ht]; exact hP⟩, hS.F ht⟩) hS.2.2 dX5_stops_21
  · skip
    refine o_const (k := 1) hx hb dX5_stops_12 (by decide) ?_
    refine lv_goto (tgt := 17) hx hb dX5_stops_13 (by decide) ?_
    refine va_put (D := D) (ci := 5) (v := .int (nI 1)) (ty := .boolean) (C := RX5) (T := TX5) (N := 10) hx hb hts inX5_stops_X5 tyX5 tyX5_ok nmX5 hown hK hP hD hS 0 rfl rfl 7 (by decide) (hts (.fieldLink RX5 92 "OddNoticeModel" "isFault" "Z") (List.mem_of_getElem? (i := 3) (by decide +kernel))) (fun _ h9 => h9) rfl (by decide +kernel) rfl rfl (Nat.le_of_ble_eq_true rfl) dX5_stops_17 (fun H locs hP hD hS => ?_)
    have hP : va_P D vwCl (wM q cI (va_up v 0 (va_up (v 0) 4 1))) H := hP
    have hD : va_D A (wM q cI (va_up v 0 (va_up (v 0) 4 1))) := hD
    refine o_const (k := 0) hx hb dX5_stops_20 (by decide) ?_
    have w_3 : (wM q cI (va_up v 0 (va_up (v 0) 4 (bn (v 0 3 < v 0 1))))) = (wM q cI (va_up v 0 (va_up (v 0) 4 1))) := (by rw [bn_t c_1])
    rw [← w_3] at hP
    exact W.zret (v := nI 0) hx hb hrt rfl (fun t ht hW => ⟨⟨_, (), rfl, rfl, by show va_P D vwCl _ t.heap; rw [ht]; exact hP⟩, hS.F ht⟩) hS.2.2 dX5_stops_21
theorem inX5_isDigit_X5 : ∀ w ∈ wsX50, w ∈ wsX5_isDigit := by decide +kernel
set_option maxHeartbeats 4000000 in
set_option maxRecDepth 100000 in
theorem k_X5_isDigit (l : Launch) (D : va_G) (cI cR cS cL : ClassId) (sz : Nat) (q : Nat → Nat) (v : Nat → Nat → Nat) (h : Nat) (h1 : v 0 3 < 2 ^ 31) (h2 : v 0 1 ≤ 60) (ht : ∀ k, v 3 k < 2 ^ 31) (h4 : h < 2 ^ 31) : Met l yX5_isDigit wsX5_isDigit ({ frames := 2, cells := 0, slots := 0, locals := 44 }) (va_Pc [.ref (q 0), .int (nI h)] (o_B D (o_T cI cR cS cL) (wM q cI v) sz)) (va_Qi (fun rz (_ : Unit) => rz = nI (bn (v 0 3 < v 0 1 ∧ 48 ≤ v 3 (v 0 3) ∧ v 3 (v 0 3) ≤ h))) (fun (_ : Unit) t => va_P D vwCl (wM q cI (va_up v 0 (if v 0 3 < v 0 1 ∧ 48 ≤ v 3 (v 0 3) ∧ v 3 (v 0 3) ≤ h then va_up (v 0) 3 (v 0 3 + 1) else va_up (v 0) 4 (bn (v 0 3 < v 0 1))))) t.heap) (va_A (wM q cI v) sz)) 0 0 (va_A (wM q cI v) sz) := by
  refine Met.ofW (cc := cX5_isDigit) (maxL := 2) (ret := (some .boolean)) (by decide) rfl ?_
  intro p e s m args below meth cd s₁ B hml hv
  obtain ⟨rfl, hsz, hP, hK, hD0, hN⟩ := hv
  have hx := B.exec
  have hb := B.bytes
  have hrt := B.returns
  have hts := atoms_spec (ws := wsX5_isDigit) B.pre
  have hown : s.vm.findClass RX5 = some m.cls := findClass_of_methodNamed B.named
  have hlocks := B.notSynchronized
  subst hsz
  have hD := hD0.self (sz := s.heap.size)
  generalize hAe : va_A (wM q cI v) s.heap.size = A at hD ⊢
  have hA : ∀ q : Nat, s.heap.size ≤ q → A q := fun q h => by rw [← hAe]; exact Or.inr h
  have hS : va_S A s.heap s.heap [] := va_S.rf
  have hl := lv_entry ([.ref (q 0), .int (nI h)]) (n := 2) (Nat.le_of_ble_eq_true rfl)
  rw [lg_entry_eq]
  generalize (lg_sl ([.ref (q 0), .int (nI h)]) ++ List.replicate (2 - (lg_sl ([.ref (q 0), .int (nI h)])).length) Slot.unset).toArray = ls at hl ⊢
  have hl : lv_has ls 2 [(0, .ref (q 0)), (1, .int (nI h))] := hl
  refine lv_aload_n hx hb dX5_isDigit_0 rfl (lv_at hl 0 rfl) ?_
  refine o_bipush (k := 48) hx hb dX5_isDigit_1 (by decide) ?_
  refine lv_iload_n hx hb dX5_isDigit_3 rfl (lv_at hl 1 rfl) ?_
  refine o_ri (va_runV (As := [.int (nI 48), .int (nI h)]) (rest := []) ⟨hx, hb, hml, hown, hts⟩ (k_X5_isAt l D cI cR cS cL q v 48 h (by show v 0 3 < 2 ^ 31; first | assumption | omega) (by show v 0 1 ≤ 60; first | assumption | omega) (by show ∀ k, v 3 k < 2 ^ 31; first | assumption | omega) (by show 48 < 2 ^ 31; first | assumption | omega) (by show h < 2 ^ 31; first | assumption | omega)) (cwV 2 hts gX5_isDigit_X5_isAt rfl rfl rfl (by decide +kernel) ⟨Nat.le_of_ble_eq_true rfl, Nat.le_of_ble_eq_true rfl⟩) (o_v (o_pR hK hN hP) (va_recv hK hP (ci := 5) (q0 := 0) rfl rfl)) rfl rfl hl.1 rfl (lv_room (Nat.le_of_ble_eq_true rfl)) dX5_isDigit_4 ⟨Nat.zero_le _, Nat.zero_le _⟩) (fun r_2 e_1 => ?_)
  have e_1 : r_2 = nI (bn (v 0 3 < v 0 1 ∧ 48 ≤ v 3 (v 0 3) ∧ v 3 (v 0 3) ≤ h)) := e_1
  subst e_1
  refine o_ifnz (tgt := 15) hx hb dX5_isDigit_7 (by decide) (fun c_3 => ?_) (fun c_3 => ?_)
  · skip
    refine lv_aload_n hx hb dX5_isDigit_15 rfl (lv_at hl 0 rfl) ?_
    refine lv_dup hx hb dX5_isDigit_16 rfl ?_
    refine va_get (D := D) (ci := 5) (v := .int (nI (v 0 3))) (C := RX5) (T := TX5) (N := 10) hx hb hts inX5_isDigit_X5 hown hK hP 0 rfl rfl 6 (by decide) (hts (.fieldLink RX5 89 "OddNoticeModel" "at" "I") (List.mem_of_getElem? (i := 1) (by decide +kernel))) (fun _ h9 => h9) rfl dX5_isDigit_17 ?_
    refine o_const (k := 1) hx hb dX5_isDigit_20 (by decide) ?_
    refine o_iadd (a := (v 0 3)) (b := 1) (k := ((v 0 3) + 1)) hx hb dX5_isDigit_21 rfl ?_
    refine va_put (D := D) (ci := 5) (v := .int (nI ((v 0 3) + 1))) (ty := .int) (C := RX5) (T := TX5) (N := 10) hx hb hts inX5_isDigit_X5 tyX5 tyX5_ok nmX5 hown hK hP hD hS 0 rfl rfl 6 (by decide) (hts (.fieldLink RX5 89 "OddNoticeModel" "at" "I") (List.mem_of_getElem? (i := 1) (by decide +kernel))) (fun _ h9 => h9) rfl (by decide +kernel) rfl rfl (Nat.le_of_ble_eq_true rfl) dX5_isDigit_22 (fun H locs hP hD hS => ?_)
    have hP : va_P D vwCl (wM q cI (va_up v 0 (va_up (v 0) 3 ((v 0 3) + 1)))) H := hP
    have hD : va_D A (wM q cI (va_up v 0 (va_up (v 0) 3 ((v 0 3) + 1)))) := hD
    refine o_const (k := 1) hx hb dX5_isDigit_25 (by decide) ?_
    have w_4 : (wM q cI (va_up v 0 (if v 0 3 < v 0 1 ∧ 48 ≤ v 3 (v 0 3) ∧ v 3 (v 0 3) ≤ h then va_up (v 0) 3 (v 0 3 + 1) else va_up (v 0) 4 (bn (v 0 3 < v 0 1))))) = (wM q cI (va_up v 0 (va_up (v 0) 3 ((v 0 3) + 1)))) := (by rw [if_pos c_3])
    rw [← w_4] at hP
    exact W.zret (v := nI 1) hx hb hrt rfl (fun t ht hW => ⟨⟨_, (), rfl, (congrArg nI (Eq.symm (bn_t c_3))), by show va_P D vwCl _ t.heap; rw [ht]; exact hP⟩, hS.F ht⟩) hS.2.2 dX5_isDigit_26
  · skip
    refine lv_aload_n hx hb dX5_isDigit_10 rfl (lv_at hl 0 rfl) ?_
    refine o_wi (va_runV (As := []) (rest := []) ⟨hx, hb, hml, hown, hts⟩ (k_X5_stops l D cI cR cS cL s.heap.size q v (by show v 0 3 < 2 ^ 31; first | assumption | omega) (by show v 0 1 < 2 ^ 31; first | assumption | omega)) (cwV 0 hts gX5_isDigit_X5_stops rfl rfl rfl (by decide +kernel) ⟨Nat.le_of_ble_eq_true rfl, Nat.le_of_ble_eq_true rfl⟩) (o_v (o_pB hK hN hP hD) (va_recv hK hP (ci := 5) (q0 := 0) rfl rfl)) rfl rfl hl.1 rfl (lv_room (Nat.le_of_ble_eq_true rfl)) dX5_isDigit_11 ⟨Nat.zero_le _, Nat.zero_le _⟩) hP hD hS hA [0, 1, 2, 3, 4] (by decide) rfl (fun _ => rfl) (fun r_6 _ H locs e_5 hP hD hS => ?_)
    have e_5 : r_6 = nI 0 := e_5
    subst e_5
    have hP : va_P D vwCl (wM q cI (va_up v 0 (va_up (v 0) 4 (bn (v 0 3 < v 0 1))))) H := hP
    have hD : va_D A (wM q cI (va_up v 0 (va_up (v 0) 4 (bn (v 0 3 < v 0 1))))) := hD
    have w_7 : (wM q cI (va_up v 0 (if v 0 3 < v 0 1 ∧ 48 ≤ v 3 (v 0 3) ∧ v 3 (v 0 3) ≤ h then va_up (v 0) 3 (v 0 3 + 1) else va_up (v 0) 4 (bn (v 0 3 < v 0 1))))) = (wM q cI (va_up v 0 (va_up (v 0) 4 (bn (v 0 3 < v 0 1))))) := (by rw [if_neg c_3])
    rw [← w_7] at hP
    exact W.zret (v := nI 0) hx hb hrt rfl (fun t ht hW => ⟨⟨_, (), rfl, (congrArg nI (Eq.symm (bn_f c_3))), by show va_P D vwCl _ t.heap; rw [ht]; exact hP⟩, hS.F ht⟩) hS.2.2 dX5_isDigit_14
theorem inX5_isPart_X5 : ∀ w ∈ wsX50, w ∈ wsX5_isPart := by decide +kernel
set_option maxHeartbeats 4000000 in
set_option maxRecDepth 100000 in
theorem k_X5_isPart (l : Launch) (D : va_G) (cI cR cS cL : ClassId) (sz : Nat) (q : Nat → Nat) (v : Nat → Nat → Nat) (h1 : v 0 3 < v 0 1) (h5 : v 0 5 ≤ 30) (h2 : v 0 1 ≤ 60) (ht : ∀ k, v 3 k < 2 ^ 31) : Met l yX5_isPart wsX5_isPart ({ frames := 3, cells := 0, slots := 0, locals := 65 }) (va_Pc [.ref (q 0)] (o_B D (o_T cI cR cS cL) (wM q cI v) sz)) (va_Qi (fun rz (_ : Unit) => rz = nI ((m_pt (v 3) (v 0 1) (v 0 5) (v 0 3) (v 0 4) (v 4)).2.2.2)) (fun (_ : Unit) t => va_P D vwCl (wM q cI (va_up (va_up v 0 (va_up (va_up (v 0) 3 (m_pt (v 3) (v 0 1) (v 0 5) (v 0 3) (v 0 4) (v 4)).1) 4 (m_pt (v 3) (v 0 1) (v 0 5) (v 0 3) (v 0 4) (v 4)).2.1)) 4 (m_pt (v 3) (v 0 1) (v 0 5) (v 0 3) (v 0 4) (v 4)).2.2.1)) t.heap) (va_A (wM q cI v) sz)) 0 0 (va_A (wM q cI v) sz) := by
  refine Met.ofW (cc := cX5_isPart) (maxL := 2) (ret := (some .boolean)) (by decide) rfl ?_
  intro p e s m args below meth cd s₁ B hml hv
  obtain ⟨rfl, hsz, hP, hK, hD0, hN⟩ := hv
  have hx := B.exec
  have hb := B.bytes
  have hrt := B.returns
  have hts := atoms_spec (ws := wsX5_isPart) B.pre
  have hown : s.vm.findClass RX5 = some m.cls := findClass_of_methodNamed B.named
  have hlocks := B.notSynchronized
  subst hsz
  have hD := hD0.self (sz := s.heap.size)
  generalize hAe : va_A (wM q cI v) s.heap.size = A at hD ⊢
  have hA : ∀ q : Nat, s.heap.size ≤ q → A q := fun q h => by rw [← hAe]; exact Or.inr h
  have hS : va_S A s.heap s.heap [] := va_S.rf
  have hl := lv_entry ([.ref (q 0)]) (n := 2) (Nat.le_of_ble_eq_true rfl)
  rw [lg_entry_eq]
  generalize (lg_sl ([.ref (q 0)]) ++ List.replicate (2 - (lg_sl ([.ref (q 0)])).length) Slot.unset).toArray = ls at hl ⊢
  have hl : lv_has ls 2 [(0, .ref (q 0))] := hl
  refine lv_aload_n hx hb dX5_isPart_0 rfl (lv_at hl 0 rfl) ?_
  refine va_get (D := D) (ci := 5) (v := .ref (q 3)) (C := RX5) (T := TX5) (N := 10) hx hb hts inX5_isPart_X5 hown hK hP 0 rfl rfl 3 (by decide) (hts (.fieldLink RX5 16 "OddNoticeModel" "text" "[I") (List.mem_of_getElem? (i := 1) (by decide +kernel))) (fun _ h9 => h9) rfl dX5_isPart_1 ?_
  refine lv_aload_n hx hb dX5_isPart_4 rfl (lv_at hl 0 rfl) ?_
  refine va_get (D := D) (ci := 5) (v := .int (nI (v 0 3))) (C := RX5) (T := TX5) (N := 10) hx hb hts inX5_isPart_X5 hown hK hP 0 rfl rfl 6 (by decide) (hts (.fieldLink RX5 89 "OddNoticeModel" "at" "I") (List.mem_of_getElem? (i := 2) (by decide +kernel))) (fun _ h9 => h9) rfl dX5_isPart_5 ?_
  refine o_iald (v := nI (v 3 (v 0 3))) hx hb hK hP 3 0 rfl rfl (by omega) (Nat.le_of_ble_eq_true rfl) rfl dX5_isPart_8 ?_
  have f_1 := ht (v 0 3)
  refine lv_istore_n (lv' := [(1, .int (nI (v 3 (v 0 3)))), (0, .ref (q 0))]) hx hb dX5_isPart_9 rfl hl (by decide) rfl (fun ls hl => ?_)
  refine lv_iload_n hx hb dX5_isPart_10 rfl (lv_at hl 0 rfl) ?_
  refine o_bipush (k := 99) hx hb dX5_isPart_11 (by decide) ?_
  refine o_icmp_eq (tgt := 45) hx hb dX5_isPart_13 (by decide) (by omega) (Nat.le_of_ble_eq_true rfl) (fun c_2 => ?_) (fun c_2 => ?_)
  · skip
    refine lv_aload_n hx hb dX5_isPart_45 rfl (lv_at hl 1 rfl) ?_
    refine lv_dup hx hb dX5_isPart_46 rfl ?_
    refine va_get (D := D) (ci := 5) (v := .int (nI (v 0 3))) (C := RX5) (T := TX5) (N := 10) hx hb hts inX5_isPart_X5 hown hK hP 0 rfl rfl 6 (by decide) (hts (.fieldLink RX5 89 "OddNoticeModel" "at" "I") (List.mem_of_getElem? (i := 2) (by decide +kernel))) (fun _ h9 => h9) rfl dX5_isPart_47 ?_
    refine o_const (k := 1) hx hb dX5_isPart_50 (by decide) ?_
    refine o_iadd (a := (v 0 3)) (b := 1) (k := ((v 0 3) + 1)) hx hb dX5_isPart_51 rfl ?_
    refine va_put (D := D) (ci := 5) (v := .int (nI ((v 0 3) + 1))) (ty := .int) (C := RX5) (T := TX5) (N := 10) hx hb hts inX5_isPart_X5 tyX5 tyX5_ok nmX5 hown hK hP hD hS 0 rfl rfl 6 (by decide) (hts (.fieldLink RX5 89 "OddNoticeModel" "at" "I") (List.mem_of_getElem? (i := 2) (by decide +kernel))) (fun _ h9 => h9) rfl (by decide +kernel) rfl rfl (Nat.le_of_ble_eq_true rfl) dX5_isPart_52 (fun H locs hP hD hS => ?_)
    have hP : va_P D vwCl (wM q cI (va_up v 0 (va_up (v 0) 3 ((v 0 3) + 1)))) H := hP
    have hD : va_D A (wM q cI (va_up v 0 (va_up (v 0) 3 ((v 0 3) + 1)))) := hD
    refine lv_aload_n hx hb dX5_isPart_55 rfl (lv_at hl 1 rfl) ?_
    refine lv_iload_n hx hb dX5_isPart_56 rfl (lv_at hl 0 rfl) ?_
    refine o_bipush (k := 119) hx hb dX5_isPart_57 (by decide) ?_
    refine o_icmp_ne (tgt := 67) hx hb dX5_isPart_59 (by decide) (by omega) (Nat.le_of_ble_eq_true rfl) (fun c_3 => ?_) (fun c_3 => ?_)
    · skip
      refine lv_iload_n hx hb dX5_isPart_67 rfl (lv_at hl 0 rfl) ?_
      refine o_bipush (k := 99) hx hb dX5_isPart_68 (by decide) ?_
      refine o_icmp_eq (tgt := 79) hx hb dX5_isPart_70 (by decide) (by omega) (Nat.le_of_ble_eq_true rfl) (fun c_4 => ?_) (fun c_4 => ?_)
      · skip
        refine o_bipush (k := 50) hx hb dX5_isPart_79 (by decide) ?_
        refine lv_goto (tgt := 86) hx hb dX5_isPart_81 (by decide) ?_
        refine o_wi (va_runV (As := [.int (nI 50)]) (rest := []) ⟨hx, hb, hml, hown, hts⟩ (k_X5_isDigit l D cI cR cS cL H.size q (va_up v 0 (va_up (v 0) 3 ((v 0 3) + 1))) 50 (by show ((v 0 3) + 1) < 2 ^ 31; first | assumption | omega) (by show v 0 1 ≤ 60; first | assumption | omega) (by show ∀ k, v 3 k < 2 ^ 31; first | assumption | omega) (by show 50 < 2 ^ 31; first | assumption | omega)) (cwV 1 hts gX5_isPart_X5_isDigit rfl rfl rfl (by decide +kernel) ⟨Nat.le_of_ble_eq_true rfl, Nat.le_of_ble_eq_true rfl⟩) (o_v (o_pB hK hN hP hD) (va_recv hK hP (ci := 5) (q0 := 0) rfl rfl)) rfl rfl hl.1 rfl (lv_room (Nat.le_of_ble_eq_true rfl)) dX5_isPart_86 ⟨Nat.zero_le _, Nat.zero_le _⟩) hP hD hS hA [0, 1, 2, 3, 4] (by decide) rfl (fun _ => rfl) (fun r_6 _ H locs e_5 hP hD hS => ?_)
        have e_5 : r_6 = nI (bn (((v 0 3) + 1) < v 0 1 ∧ 48 ≤ v 3 (((v 0 3) + 1)) ∧ v 3 (((v 0 3) + 1)) ≤ 50)) := e_5
        subst e_5
        have hP : va_P D vwCl (wM q cI (va_up v 0 (if ((v 0 3) + 1) < v 0 1 ∧ 48 ≤ v 3 (((v 0 3) + 1)) ∧ v 3 (((v 0 3) + 1)) ≤ 50 then (va_up (va_up (v 0) 3 ((v 0 3) + 1)) 3 ((v 0 3) + 2)) else (va_up (va_up (v 0) 3 ((v 0 3) + 1)) 4 (bn (((v 0 3) + 1) < v 0 1)))))) H := hP
        have hD : va_D A (wM q cI (va_up v 0 (if ((v 0 3) + 1) < v 0 1 ∧ 48 ≤ v 3 (((v 0 3) + 1)) ∧ v 3 (((v 0 3) + 1)) ≤ 50 then (va_up (va_up (v 0) 3 ((v 0 3) + 1)) 3 ((v 0 3) + 2)) else (va_up (va_up (v 0) 3 ((v 0 3) + 1)) 4 (bn (((v 0 3) + 1) < v 0 1)))))) := hD
        refine o_ifnz (tgt := 94) hx hb dX5_isPart_89 (by decide) (fun c_7 => ?_) (fun c_7 => ?_)
        · skip
          rw [if_pos c_7] at hP hD
          have hP : va_P D vwCl (wM q cI (va_up v 0 (va_up (v 0) 3 ((v 0 3) + 2)))) H := hP
          have hD : va_D A (wM q cI (va_up v 0 (va_up (v 0) 3 ((v 0 3) + 2)))) := hD
          refine lv_aload_n hx hb dX5_isPart_94 rfl (lv_at hl 1 rfl) ?_
          refine va_get (D := D) (ci := 5) (v := .ref (q 4)) (C := RX5) (T := TX5) (N := 10) hx hb hts inX5_isPart_X5 hown hK hP 0 rfl rfl 8 (by decide) (hts (.fieldLink RX5 19 "OddNoticeModel" "told" "[I") (List.mem_of_getElem? (i := 3) (by decide +kernel))) (fun _ h9 => h9) rfl dX5_isPart_95 ?_
          refine o_const (k := 3) hx hb dX5_isPart_98 (by decide) ?_
          refine lv_aload_n hx hb dX5_isPart_99 rfl (lv_at hl 1 rfl) ?_
          refine va_get (D := D) (ci := 5) (v := .int (nI (v 0 5))) (C := RX5) (T := TX5) (N := 10) hx hb hts inX5_isPart_X5 hown hK hP 0 rfl rfl 9 (by decide) (hts (.fieldLink RX5 106 "OddNoticeModel" "tolds" "I") (List.mem_of_getElem? (i := 4) (by decide +kernel))) (fun _ h9 => h9) rfl dX5_isPart_100 ?_
          refine o_imul (a := 3) (b := (v 0 5)) (k := (3 * (v 0 5))) hx hb dX5_isPart_103 rfl ?_
          refine lv_iload_n hx hb dX5_isPart_104 rfl (lv_at hl 0 rfl) ?_
          refine o_iast (g := (v 4)) hx hb hK hP hD hS 4 0 rfl rfl (by omega) (Nat.le_of_ble_eq_true rfl) dX5_isPart_105 (fun H locs hP hD hS => ?_)
          have hP : va_P D vwCl (wM q cI (va_up (va_up v 0 (va_up (v 0) 3 ((v 0 3) + 2))) 4 (va_up (v 4) (3 * (v 0 5)) (v 3 (v 0 3))))) H := hP
          have hD : va_D A (wM q cI (va_up (va_up v 0 (va_up (v 0) 3 ((v 0 3) + 2))) 4 (va_up (v 4) (3 * (v 0 5)) (v 3 (v 0 3))))) := hD
          refine lv_aload_n hx hb dX5_isPart_106 rfl (lv_at hl 1 rfl) ?_
          refine va_get (D := D) (ci := 5) (v := .ref (q 4)) (C := RX5) (T := TX5) (N := 10) hx hb hts inX5_isPart_X5 hown hK hP 0 rfl rfl 8 (by decide) (hts (.fieldLink RX5 19 "OddNoticeModel" "told" "[I") (List.mem_of_getElem? (i := 3) (by decide +kernel))) (fun _ h9 => h9) rfl dX5_isPart_107 ?_
          refine o_const (k := 3) hx hb dX5_isPart_110 (by decide) ?_
          refine lv_aload_n hx hb dX5_isPart_111 rfl (lv_at hl 1 rfl) ?_
          refine va_get (D := D) (ci := 5) (v := .int (nI (v 0 5))) (C := RX5) (T := TX5) (N := 10) hx hb hts inX5_isPart_X5 hown hK hP 0 rfl rfl 9 (by decide) (hts (.fieldLink RX5 106 "OddNoticeModel" "tolds" "I") (List.mem_of_getElem? (i := 4) (by decide +kernel))) (fun _ h9 => h9) rfl dX5_isPart_112 ?_
          refine o_imul (a := 3) (b := (v 0 5)) (k := (3 * (v 0 5))) hx hb dX5_isPart_115 rfl ?_
          refine o_const (k := 1) hx hb dX5_isPart_116 (by decide) ?_
          refine o_iadd (a := (3 * (v 0 5))) (b := 1) (k := (3 * (v 0 5) + 1)) hx hb dX5_isPart_117 rfl ?_
          refine lv_aload_n hx hb dX5_isPart_118 rfl (lv_at hl 1 rfl) ?_
          refine va_get (D := D) (ci := 5) (v := .ref (q 3)) (C := RX5) (T := TX5) (N := 10) hx hb hts inX5_isPart_X5 hown hK hP 0 rfl rfl 3 (by decide) (hts (.fieldLink RX5 16 "OddNoticeModel" "text" "[I") (List.mem_of_getElem? (i := 1) (by decide +kernel))) (fun _ h9 => h9) rfl dX5_isPart_119 ?_
          refine lv_aload_n hx hb dX5_isPart_122 rfl (lv_at hl 1 rfl) ?_
          refine va_get (D := D) (ci := 5) (v := .int (nI ((v 0 3) + 2))) (C := RX5) (T := TX5) (N := 10) hx hb hts inX5_isPart_X5 hown hK hP 0 rfl rfl 6 (by decide) (hts (.fieldLink RX5 89 "OddNoticeModel" "at" "I") (List.mem_of_getElem? (i := 2) (by decide +kernel))) (fun _ h9 => h9) rfl dX5_isPart_123 ?_
          refine o_const (k := 1) hx hb dX5_isPart_126 (by decide) ?_
          refine o_isub (a := ((v 0 3) + 2)) (b := 1) (k := ((v 0 3) + 1)) hx hb dX5_isPart_127 (by omega) (by omega) ?_
          refine o_iald (v := nI (v 3 ((v 0 3) + 1))) hx hb hK hP 3 0 rfl rfl (by omega) (Nat.le_of_ble_eq_true rfl) rfl dX5_isPart_128 ?_
          have f_8 := ht ((v 0 3) + 1)
          refine o_bipush (k := 48) hx hb dX5_isPart_129 (by decide) ?_
          refine o_isub (a := (v 3 ((v 0 3) + 1))) (b := 48) (k := ((v 3 ((v 0 3) + 1)) - 48)) hx hb dX5_isPart_131 (by omega) rfl ?_
          refine o_iast (g := (va_up (v 4) (3 * (v 0 5)) (v 3 (v 0 3)))) hx hb hK hP hD hS 4 0 rfl rfl (by omega) (Nat.le_of_ble_eq_true rfl) dX5_isPart_132 (fun H locs hP hD hS => ?_)
          have hP : va_P D vwCl (wM q cI (va_up (va_up v 0 (va_up (v 0) 3 ((v 0 3) + 2))) 4 (va_up (va_up (v 4) (3 * (v 0 5)) (v 3 (v 0 3))) (3 * (v 0 5) + 1) ((v 3 ((v 0 3) + 1)) - 48)))) H := hP
          have hD : va_D A (wM q cI (va_up (va_up v 0 (va_up (v 0) 3 ((v 0 3) + 2))) 4 (va_up (va_up (v 4) (3 * (v 0 5)) (v 3 (v 0 3))) (3 * (v 0 5) + 1) ((v 3 ((v 0 3) + 1)) - 48)))) := hD
          refine lv_iload_n hx hb dX5_isPart_133 rfl (lv_at hl 0 rfl) ?_
          refine o_bipush (k := 119) hx hb dX5_isPart_134 (by decide) ?_
          refine o_icmp_ne (tgt := 204) hx hb dX5_isPart_136 (by decide) (by omega) (Nat.le_of_ble_eq_true rfl) (fun c_9 => ?_) (fun c_9 => ?_)
          · skip
            refine o_const (k := 1) hx hb dX5_isPart_204 (by decide) ?_
            have w_10 : (wM q cI (va_up (va_up v 0 (va_up (va_up (v 0) 3 (m_pt (v 3) (v 0 1) (v 0 5) (v 0 3) (v 0 4) (v 4)).1) 4 (m_pt (v 3) (v 0 1) (v 0 5) (v 0 3) (v 0 4) (v 4)).2.1)) 4 (m_pt (v 3) (v 0 1) (v 0 5) (v 0 3) (v 0 4) (v 4)).2.2.1)) = (wM q cI (va_up (va_up v 0 (va_up (v 0) 3 ((v 0 3) + 2))) 4 (va_up (va_up (v 4) (3 * (v 0 5)) (v 3 (v 0 3))) (3 * (v 0 5) + 1) ((v 3 ((v 0 3) + 1)) - 48)))) := (by unfold m_pt; rw [if_pos (by omega), if_pos (by unfold m_hi; (repeat' split) <;> omega), if_neg (by omega)]; first | done | rfl)
            rw [← w_10] at hP
            exact W.zret (v := nI 1) hx hb hrt rfl (fun t ht hW => ⟨⟨_, (), rfl, (congrArg nI (by unfold m_pt; rw [if_pos (by omega), if_pos (by unfold m_hi; (repeat' split) <;> omega), if_neg (by omega)])), by show va_P D vwCl _ t.heap; rw [ht]; exact hP⟩, hS.F ht⟩) hS.2.2 dX5_isPart_205
          · skip
            refine lv_aload_n hx hb dX5_isPart_139 rfl (lv_at hl 1 rfl) ?_
            refine o_bipush (k := 57) hx hb dX5_isPart_140 (by decide) ?_
            refine o_wi (va_runV (As := [.int (nI 57)]) (rest := []) ⟨hx, hb, hml, hown, hts⟩ (k_X5_isDigit l D cI cR cS cL H.size q (va_up (va_up v 0 (va_up (v 0) 3 ((v 0 3) + 2))) 4 (va_up (va_up (v 4) (3 * (v 0 5)) (v 3 (v 0 3))) (3 * (v 0 5) + 1) ((v 3 ((v 0 3) + 1)) - 48))) 57 (by show ((v 0 3) + 2) < 2 ^ 31; first | assumption | omega) (by show v 0 1 ≤ 60; first | assumption | omega) (by show ∀ k, v 3 k < 2 ^ 31; first | assumption | omega) (by show 57 < 2 ^ 31; first | assumption | omega)) (cwV 1 hts gX5_isPart_X5_isDigit rfl rfl rfl (by decide +kernel) ⟨Nat.le_of_ble_eq_true rfl, Nat.le_of_ble_eq_true rfl⟩) (o_v (o_pB hK hN hP hD) (va_recv hK hP (ci := 5) (q0 := 0) rfl rfl)) rfl rfl hl.1 rfl (lv_room (Nat.le_of_ble_eq_true rfl)) dX5_isPart_142 ⟨Nat.zero_le _, Nat.zero_le _⟩) hP hD hS hA [0, 1, 2, 3, 4] (by decide) rfl (fun _ => rfl) (fun r_12 _ H locs e_11 hP hD hS => ?_)
            have e_11 : r_12 = nI (bn (((v 0 3) + 2) < v 0 1 ∧ 48 ≤ v 3 (((v 0 3) + 2)) ∧ v 3 (((v 0 3) + 2)) ≤ 57)) := e_11
            subst e_11
            have hP : va_P D vwCl (wM q cI (va_up (va_up v 0 (if ((v 0 3) + 2) < v 0 1 ∧ 48 ≤ v 3 (((v 0 3) + 2)) ∧ v 3 (((v 0 3) + 2)) ≤ 57 then (va_up (va_up (v 0) 3 ((v 0 3) + 2)) 3 ((v 0 3) + 3)) else (va_up (va_up (v 0) 3 ((v 0 3) + 2)) 4 (bn (((v 0 3) + 2) < v 0 1))))) 4 (va_up (va_up (v 4) (3 * (v 0 5)) (v 3 (v 0 3))) (3 * (v 0 5) + 1) ((v 3 ((v 0 3) + 1)) - 48)))) H := hP
            have hD : va_D A (wM q cI (va_up (va_up v 0 (if ((v 0 3) + 2) < v 0 1 ∧ 48 ≤ v 3 (((v 0 3) + 2)) ∧ v 3 (((v 0 3) + 2)) ≤ 57 then (va_up (va_up (v 0) 3 ((v 0 3) + 2)) 3 ((v 0 3) + 3)) else (va_up (va_up (v 0) 3 ((v 0 3) + 2)) 4 (bn (((v 0 3) + 2) < v 0 1))))) 4 (va_up (va_up (v 4) (3 * (v 0 5)) (v 3 (v 0 3))) (3 * (v 0 5) + 1) ((v 3 ((v 0 3) + 1)) - 48)))) := hD
            refine o_ifz (tgt := 157) hx hb dX5_isPart_145 (by decide) (fun c_13 => ?_) (fun c_13 => ?_)
            · skip
              rw [if_neg c_13] at hP hD
              have hP : va_P D vwCl (wM q cI (va_up (va_up v 0 (va_up (va_up (v 0) 3 ((v 0 3) + 2)) 4 (bn (((v 0 3) + 2) < v 0 1)))) 4 (va_up (va_up (v 4) (3 * (v 0 5)) (v 3 (v 0 3))) (3 * (v 0 5) + 1) ((v 3 ((v 0 3) + 1)) - 48)))) H := hP
              have hD : va_D A (wM q cI (va_up (va_up v 0 (va_up (va_up (v 0) 3 ((v 0 3) + 2)) 4 (bn (((v 0 3) + 2) < v 0 1)))) 4 (va_up (va_up (v 4) (3 * (v 0 5)) (v 3 (v 0 3))) (3 * (v 0 5) + 1) ((v 3 ((v 0 3) + 1)) - 48)))) := hD
              refine o_const (k := 0) hx hb dX5_isPart_157 (by decide) ?_
              have w_14 : (wM q cI (va_up (va_up v 0 (va_up (va_up (v 0) 3 (m_pt (v 3) (v 0 1) (v 0 5) (v 0 3) (v 0 4) (v 4)).1) 4 (m_pt (v 3) (v 0 1) (v 0 5) (v 0 3) (v 0 4) (v 4)).2.1)) 4 (m_pt (v 3) (v 0 1) (v 0 5) (v 0 3) (v 0 4) (v 4)).2.2.1)) = (wM q cI (va_up (va_up v 0 (va_up (va_up (v 0) 3 ((v 0 3) + 2)) 4 (bn (((v 0 3) + 2) < v 0 1)))) 4 (va_up (va_up (v 4) (3 * (v 0 5)) (v 3 (v 0 3))) (3 * (v 0 5) + 1) ((v 3 ((v 0 3) + 1)) - 48)))) := (by unfold m_pt; rw [if_pos (by omega), if_pos (by unfold m_hi; (repeat' split) <;> omega), if_pos (by omega), if_neg (by omega)]; first | done | rfl)
              rw [← w_14] at hP
              exact W.zret (v := nI 0) hx hb hrt rfl (fun t ht hW => ⟨⟨_, (), rfl, (congrArg nI (by unfold m_pt; rw [if_pos (by omega), if_pos (by unfold m_hi; (repeat' split) <;> omega), if_pos (by omega), if_neg (by omega)])), by show va_P D vwCl _ t.heap; rw [ht]; exact hP⟩, hS.F ht⟩) hS.2.2 dX5_isPart_158
            · skip
              rw [if_pos c_13] at hP hD
              have hP : va_P D vwCl (wM q cI (va_up (va_up v 0 (va_up (v 0) 3 ((v 0 3) + 3))) 4 (va_up (va_up (v 4) (3 * (v 0 5)) (v 3 (v 0 3))) (3 * (v 0 5) + 1) ((v 3 ((v 0 3) + 1)) - 48)))) H := hP
              have hD : va_D A (wM q cI (va_up (va_up v 0 (va_up (v 0) 3 ((v 0 3) + 3))) 4 (va_up (va_up (v 4) (3 * (v 0 5)) (v 3 (v 0 3))) (3 * (v 0 5) + 1) ((v 3 ((v 0 3) + 1)) - 48)))) := hD
              refine lv_aload_n hx hb dX5_isPart_148 rfl (lv_at hl 1 rfl) ?_
              refine o_bipush (k := 57) hx hb dX5_isPart_149 (by decide) ?_
              refine o_wi (va_runV (As := [.int (nI 57)]) (rest := []) ⟨hx, hb, hml, hown, hts⟩ (k_X5_isDigit l D cI cR cS cL H.size q (va_up (va_up v 0 (va_up (v 0) 3 ((v 0 3) + 3))) 4 (va_up (va_up (v 4) (3 * (v 0 5)) (v 3 (v 0 3))) (3 * (v 0 5) + 1) ((v 3 ((v 0 3) + 1)) - 48))) 57 (by show ((v 0 3) + 3) < 2 ^ 31; first | assumption | omega) (by show v 0 1 ≤ 60; first | assumption | omega) (by show ∀ k, v 3 k < 2 ^ 31; first | assumption | omega) (by show 57 < 2 ^ 31; first | assumption | omega)) (cwV 1 hts gX5_isPart_X5_isDigit rfl rfl rfl (by decide +kernel) ⟨Nat.le_of_ble_eq_true rfl, Nat.le_of_ble_eq_true rfl⟩) (o_v (o_pB hK hN hP hD) (va_recv hK hP (ci := 5) (q0 := 0) rfl rfl)) rfl rfl hl.1 rfl (lv_room (Nat.le_of_ble_eq_true rfl)) dX5_isPart_151 ⟨Nat.zero_le _, Nat.zero_le _⟩) hP hD hS hA [0, 1, 2, 3, 4] (by decide) rfl (fun _ => rfl) (fun r_16 _ H locs e_15 hP hD hS => ?_)
              have e_15 : r_16 = nI (bn (((v 0 3) + 3) < v 0 1 ∧ 48 ≤ v 3 (((v 0 3) + 3)) ∧ v 3 (((v 0 3) + 3)) ≤ 57)) := e_15
              subst e_15
              have hP : va_P D vwCl (wM q cI (va_up (va_up v 0 (if ((v 0 3) + 3) < v 0 1 ∧ 48 ≤ v 3 (((v 0 3) + 3)) ∧ v 3 (((v 0 3) + 3)) ≤ 57 then (va_up (va_up (v 0) 3 ((v 0 3) + 3)) 3 ((v 0 3) + 4)) else (va_up (va_up (v 0) 3 ((v 0 3) + 3)) 4 (bn (((v 0 3) + 3) < v 0 1))))) 4 (va_up (va_up (v 4) (3 * (v 0 5)) (v 3 (v 0 3))) (3 * (v 0 5) + 1) ((v 3 ((v 0 3) + 1)) - 48)))) H := hP
              have hD : va_D A (wM q cI (va_up (va_up v 0 (if ((v 0 3) + 3) < v 0 1 ∧ 48 ≤ v 3 (((v 0 3) + 3)) ∧ v 3 (((v 0 3) + 3)) ≤ 57 then (va_up (va_up (v 0) 3 ((v 0 3) + 3)) 3 ((v 0 3) + 4)) else (va_up (va_up (v 0) 3 ((v 0 3) + 3)) 4 (bn (((v 0 3) + 3) < v 0 1))))) 4 (va_up (va_up (v 4) (3 * (v 0 5)) (v 3 (v 0 3))) (3 * (v 0 5) + 1) ((v 3 ((v 0 3) + 1)) - 48)))) := hD
              refine o_ifnz (tgt := 159) hx hb dX5_isPart_154 (by decide) (fun c_17 => ?_) (fun c_17 => ?_)
              · skip
                rw [if_pos c_17] at hP hD
                have hP : va_P D vwCl (wM q cI (va_up (va_up v 0 (va_up (v 0) 3 ((v 0 3) + 4))) 4 (va_up (va_up (v 4) (3 * (v 0 5)) (v 3 (v 0 3))) (3 * (v 0 5) + 1) ((v 3 ((v 0 3) + 1)) - 48)))) H := hP
                have hD : va_D A (wM q cI (va_up (va_up v 0 (va_up (v 0) 3 ((v 0 3) + 4))) 4 (va_up (va_up (v 4) (3 * (v 0 5)) (v 3 (v 0 3))) (3 * (v 0 5) + 1) ((v 3 ((v 0 3) + 1)) - 48)))) := hD
                refine lv_aload_n hx hb dX5_isPart_159 rfl (lv_at hl 1 rfl) ?_
                refine va_get (D := D) (ci := 5) (v := .ref (q 4)) (C := RX5) (T := TX5) (N := 10) hx hb hts inX5_isPart_X5 hown hK hP 0 rfl rfl 8 (by decide) (hts (.fieldLink RX5 19 "OddNoticeModel" "told" "[I") (List.mem_of_getElem? (i := 3) (by decide +kernel))) (fun _ h9 => h9) rfl dX5_isPart_160 ?_
                refine o_const (k := 3) hx hb dX5_isPart_163 (by decide) ?_
                refine lv_aload_n hx hb dX5_isPart_164 rfl (lv_at hl 1 rfl) ?_
                refine va_get (D := D) (ci := 5) (v := .int (nI (v 0 5))) (C := RX5) (T := TX5) (N := 10) hx hb hts inX5_isPart_X5 hown hK hP 0 rfl rfl 9 (by decide) (hts (.fieldLink RX5 106 "OddNoticeModel" "tolds" "I") (List.mem_of_getElem? (i := 4) (by decide +kernel))) (fun _ h9 => h9) rfl dX5_isPart_165 ?_
                refine o_imul (a := 3) (b := (v 0 5)) (k := (3 * (v 0 5))) hx hb dX5_isPart_168 rfl ?_
                refine o_const (k := 2) hx hb dX5_isPart_169 (by decide) ?_
                refine o_iadd (a := (3 * (v 0 5))) (b := 2) (k := (3 * (v 0 5) + 2)) hx hb dX5_isPart_170 rfl ?_
                refine o_bipush (k := 10) hx hb dX5_isPart_171 (by decide) ?_
                refine lv_aload_n hx hb dX5_isPart_173 rfl (lv_at hl 1 rfl) ?_
                refine va_get (D := D) (ci := 5) (v := .ref (q 3)) (C := RX5) (T := TX5) (N := 10) hx hb hts inX5_isPart_X5 hown hK hP 0 rfl rfl 3 (by decide) (hts (.fieldLink RX5 16 "OddNoticeModel" "text" "[I") (List.mem_of_getElem? (i := 1) (by decide +kernel))) (fun _ h9 => h9) rfl dX5_isPart_174 ?_
                refine lv_aload_n hx hb dX5_isPart_177 rfl (lv_at hl 1 rfl) ?_
                refine va_get (D := D) (ci := 5) (v := .int (nI ((v 0 3) + 4))) (C := RX5) (T := TX5) (N := 10) hx hb hts inX5_isPart_X5 hown hK hP 0 rfl rfl 6 (by decide) (hts (.fieldLink RX5 89 "OddNoticeModel" "at" "I") (List.mem_of_getElem? (i := 2) (by decide +kernel))) (fun _ h9 => h9) rfl dX5_isPart_178 ?_
                refine o_const (k := 2) hx hb dX5_isPart_181 (by decide) ?_
                refine o_isub (a := ((v 0 3) + 4)) (b := 2) (k := ((v 0 3) + 2)) hx hb dX5_isPart_182 (by omega) (by omega) ?_
                refine o_iald (v := nI (v 3 ((v 0 3) + 2))) hx hb hK hP 3 0 rfl rfl (by omega) (Nat.le_of_ble_eq_true rfl) rfl dX5_isPart_183 ?_
                have f_18 := ht ((v 0 3) + 2)
                refine o_bipush (k := 48) hx hb dX5_isPart_184 (by decide) ?_
                refine o_isub (a := (v 3 ((v 0 3) + 2))) (b := 48) (k := ((v 3 ((v 0 3) + 2)) - 48)) hx hb dX5_isPart_186 (by omega) rfl ?_
                refine o_imul (a := 10) (b := ((v 3 ((v 0 3) + 2)) - 48)) (k := (10 * ((v 3 ((v 0 3) + 2)) - 48))) hx hb dX5_isPart_187 rfl ?_
                refine lv_aload_n hx hb dX5_isPart_188 rfl (lv_at hl 1 rfl) ?_
                refine va_get (D := D) (ci := 5) (v := .ref (q 3)) (C := RX5) (T := TX5) (N := 10) hx hb hts inX5_isPart_X5 hown hK hP 0 rfl rfl 3 (by decide) (hts (.fieldLink RX5 16 "OddNoticeModel" "text" "[I") (List.mem_of_getElem? (i := 1) (by decide +kernel))) (fun _ h9 => h9) rfl dX5_isPart_189 ?_
                refine lv_aload_n hx hb dX5_isPart_192 rfl (lv_at hl 1 rfl) ?_
                refine va_get (D := D) (ci := 5) (v := .int (nI ((v 0 3) + 4))) (C := RX5) (T := TX5) (N := 10) hx hb hts inX5_isPart_X5 hown hK hP 0 rfl rfl 6 (by decide) (hts (.fieldLink RX5 89 "OddNoticeModel" "at" "I") (List.mem_of_getElem? (i := 2) (by decide +kernel))) (fun _ h9 => h9) rfl dX5_isPart_193 ?_
                refine o_const (k := 1) hx hb dX5_isPart_196 (by decide) ?_
                refine o_isub (a := ((v 0 3) + 4)) (b := 1) (k := ((v 0 3) + 3)) hx hb dX5_isPart_197 (by omega) (by omega) ?_
                refine o_iald (v := nI (v 3 ((v 0 3) + 3))) hx hb hK hP 3 0 rfl rfl (by omega) (Nat.le_of_ble_eq_true rfl) rfl dX5_isPart_198 ?_
                have f_19 := ht ((v 0 3) + 3)
                refine o_iadd (a := (10 * ((v 3 ((v 0 3) + 2)) - 48))) (b := (v 3 ((v 0 3) + 3))) (k := (10 * ((v 3 ((v 0 3) + 2)) - 48) + (v 3 ((v 0 3) + 3)))) hx hb dX5_isPart_199 rfl ?_
                refine o_bipush (k := 48) hx hb dX5_isPart_200 (by decide) ?_
                refine o_isub (a := (10 * ((v 3 ((v 0 3) + 2)) - 48) + (v 3 ((v 0 3) + 3)))) (b := 48) (k := (10 * ((v 3 ((v 0 3) + 2)) - 48) + (v 3 ((v 0 3) + 3)) - 48)) hx hb dX5_isPart_202 (by omega) rfl ?_
                refine o_iast (g := (va_up (va_up (v 4) (3 * (v 0 5)) (v 3 (v 0 3))) (3 * (v 0 5) + 1) ((v 3 ((v 0 3) + 1)) - 48))) hx hb hK hP hD hS 4 0 rfl rfl (by omega) (Nat.le_of_ble_eq_true rfl) dX5_isPart_203 (fun H locs hP hD hS => ?_)
                have hP : va_P D vwCl (wM q cI (va_up (va_up v 0 (va_up (v 0) 3 ((v 0 3) + 4))) 4 (va_up (va_up (va_up (v 4) (3 * (v 0 5)) (v 3 (v 0 3))) (3 * (v 0 5) + 1) ((v 3 ((v 0 3) + 1)) - 48)) (3 * (v 0 5) + 2) (10 * ((v 3 ((v 0 3) + 2)) - 48) + (v 3 ((v 0 3) + 3)) - 48)))) H := hP
                have hD : va_D A (wM q cI (va_up (va_up v 0 (va_up (v 0) 3 ((v 0 3) + 4))) 4 (va_up (va_up (va_up (v 4) (3 * (v 0 5)) (v 3 (v 0 3))) (3 * (v 0 5) + 1) ((v 3 ((v 0 3) + 1)) - 48)) (3 * (v 0 5) + 2) (10 * ((v 3 ((v 0 3) + 2)) - 48) + (v 3 ((v 0 3) + 3)) - 48)))) := hD
                refine o_const (k := 1) hx hb dX5_isPart_204 (by decide) ?_
                have w_20 : (wM q cI (va_up (va_up v 0 (va_up (va_up (v 0) 3 (m_pt (v 3) (v 0 1) (v 0 5) (v 0 3) (v 0 4) (v 4)).1) 4 (m_pt (v 3) (v 0 1) (v 0 5) (v 0 3) (v 0 4) (v 4)).2.1)) 4 (m_pt (v 3) (v 0 1) (v 0 5) (v 0 3) (v 0 4) (v 4)).2.2.1)) = (wM q cI (va_up (va_up v 0 (va_up (v 0) 3 ((v 0 3) + 4))) 4 (va_up (va_up (va_up (v 4) (3 * (v 0 5)) (v 3 (v 0 3))) (3 * (v 0 5) + 1) ((v 3 ((v 0 3) + 1)) - 48)) (3 * (v 0 5) + 2) (10 * ((v 3 ((v 0 3) + 2)) - 48) + (v 3 ((v 0 3) + 3)) - 48)))) := (by unfold m_pt; rw [if_pos (by omega), if_pos (by unfold m_hi; (repeat' split) <;> omega), if_pos (by omega), if_pos (by omega), if_pos (by omega)]; first | done | rfl)
                rw [← w_20] at hP
                exact W.zret (v := nI 1) hx hb hrt rfl (fun t ht hW => ⟨⟨_, (), rfl, (congrArg nI (by unfold m_pt; rw [if_pos (by omega), if_pos (by unfold m_hi; (repeat' split) <;> omega), if_pos (by omega), if_pos (by omega), if_pos (by omega)])), by show va_P D vwCl _ t.heap; rw [ht]; exact hP⟩, hS.F ht⟩) hS.2.2 dX5_isPart_205
              · skip
                rw [if_neg c_17] at hP hD
                have hP : va_P D vwCl (wM q cI (va_up (va_up v 0 (va_up (va_up (v 0) 3 ((v 0 3) + 3)) 4 (bn (((v 0 3) + 3) < v 0 1)))) 4 (va_up (va_up (v 4) (3 * (v 0 5)) (v 3 (v 0 3))) (3 * (v 0 5) + 1) ((v 3 ((v 0 3) + 1)) - 48)))) H := hP
                have hD : va_D A (wM q cI (va_up (va_up v 0 (va_up (va_up (v 0) 3 ((v 0 3) + 3)) 4 (bn (((v 0 3) + 3) < v 0 1)))) 4 (va_up (va_up (v 4) (3 * (v 0 5)) (v 3 (v 0 3))) (3 * (v 0 5) + 1) ((v 3 ((v 0 3) + 1)) - 48)))) := hD
                refine o_const (k := 0) hx hb dX5_isPart_157 (by decide) ?_
                have w_21 : (wM q cI (va_up (va_up v 0 (va_up (va_up (v 0) 3 (m_pt (v 3) (v 0 1) (v 0 5) (v 0 3) (v 0 4) (v 4)).1) 4 (m_pt (v 3) (v 0 1) (v 0 5) (v 0 3) (v 0 4) (v 4)).2.1)) 4 (m_pt (v 3) (v 0 1) (v 0 5) (v 0 3) (v 0 4) (v 4)).2.2.1)) = (wM q cI (va_up (va_up v 0 (va_up (va_up (v 0) 3 ((v 0 3) + 3)) 4 (bn (((v 0 3) + 3) < v 0 1)))) 4 (va_up (va_up (v 4) (3 * (v 0 5)) (v 3 (v 0 3))) (3 * (v 0 5) + 1) ((v 3 ((v 0 3) + 1)) - 48)))) := (by unfold m_pt; rw [if_pos (by omega), if_pos (by unfold m_hi; (repeat' split) <;> omega), if_pos (by omega), if_pos (by omega), if_neg (by omega)]; first | done | rfl)
                rw [← w_21] at hP
                exact W.zret (v := nI 0) hx hb hrt rfl (fun t ht hW => ⟨⟨_, (), rfl, (congrArg nI (by unfold m_pt; rw [if_pos (by omega), if_pos (by unfold m_hi; (repeat' split) <;> omega), if_pos (by omega), if_pos (by omega), if_neg (by omega)])), by show va_P D vwCl _ t.heap; rw [ht]; exact hP⟩, hS.F ht⟩) hS.2.2 dX5_isPart_158
        · skip
          rw [if_neg c_7] at hP hD
          have hP : va_P D vwCl (wM q cI (va_up v 0 (va_up (va_up (v 0) 3 ((v 0 3) + 1)) 4 (bn (((v 0 3) + 1) < v 0 1))))) H := hP
          have hD : va_D A (wM q cI (va_up v 0 (va_up (va_up (v 0) 3 ((v 0 3) + 1)) 4 (bn (((v 0 3) + 1) < v 0 1))))) := hD
          refine o_const (k := 0) hx hb dX5_isPart_92 (by decide) ?_
          have w_22 : (wM q cI (va_up (va_up v 0 (va_up (va_up (v 0) 3 (m_pt (v 3) (v 0 1) (v 0 5) (v 0 3) (v 0 4) (v 4)).1) 4 (m_pt (v 3) (v 0 1) (v 0 5) (v 0 3) (v 0 4) (v 4)).2.1)) 4 (m_pt (v 3) (v 0 1) (v 0 5) (v 0 3) (v 0 4) (v 4)).2.2.1)) = (wM q cI (va_up v 0 (va_up (va_up (v 0) 3 ((v 0 3) + 1)) 4 (bn (((v 0 3) + 1) < v 0 1))))) := (by unfold m_pt; rw [if_pos (by omega), if_neg (by unfold m_hi; (repeat' split) <;> omega)]; first | done | rfl)
          rw [← w_22] at hP
          exact W.zret (v := nI 0) hx hb hrt rfl (fun t ht hW => ⟨⟨_, (), rfl, (congrArg nI (by unfold m_pt; rw [if_pos (by omega), if_neg (by unfold m_hi; (repeat' split) <;> omega)])), by show va_P D vwCl _ t.heap; rw [ht]; exact hP⟩, hS.F ht⟩) hS.2.2 dX5_isPart_93
      · skip
        refine lv_iload_n hx hb dX5_isPart_73 rfl (lv_at hl 0 rfl) ?_
        refine o_bipush (k := 100) hx hb dX5_isPart_74 (by decide) ?_
        refine o_icmp_ne (tgt := 84) hx hb dX5_isPart_76 (by decide) (by omega) (Nat.le_of_ble_eq_true rfl) (fun c_23 => ?_) (fun c_23 => ?_)
        · skip
          refine o_bipush (k := 51) hx hb dX5_isPart_84 (by decide) ?_
          refine o_wi (va_runV (As := [.int (nI 51)]) (rest := []) ⟨hx, hb, hml, hown, hts⟩ (k_X5_isDigit l D cI cR cS cL H.size q (va_up v 0 (va_up (v 0) 3 ((v 0 3) + 1))) 51 (by show ((v 0 3) + 1) < 2 ^ 31; first | assumption | omega) (by show v 0 1 ≤ 60; first | assumption | omega) (by show ∀ k, v 3 k < 2 ^ 31; first | assumption | omega) (by show 51 < 2 ^ 31; first | assumption | omega)) (cwV 1 hts gX5_isPart_X5_isDigit rfl rfl rfl (by decide +kernel) ⟨Nat.le_of_ble_eq_true rfl, Nat.le_of_ble_eq_true rfl⟩) (o_v (o_pB hK hN hP hD) (va_recv hK hP (ci := 5) (q0 := 0) rfl rfl)) rfl rfl hl.1 rfl (lv_room (Nat.le_of_ble_eq_true rfl)) dX5_isPart_86 ⟨Nat.zero_le _, Nat.zero_le _⟩) hP hD hS hA [0, 1, 2, 3, 4] (by decide) rfl (fun _ => rfl) (fun r_25 _ H locs e_24 hP hD hS => ?_)
          have e_24 : r_25 = nI (bn (((v 0 3) + 1) < v 0 1 ∧ 48 ≤ v 3 (((v 0 3) + 1)) ∧ v 3 (((v 0 3) + 1)) ≤ 51)) := e_24
          subst e_24
          have hP : va_P D vwCl (wM q cI (va_up v 0 (if ((v 0 3) + 1) < v 0 1 ∧ 48 ≤ v 3 (((v 0 3) + 1)) ∧ v 3 (((v 0 3) + 1)) ≤ 51 then (va_up (va_up (v 0) 3 ((v 0 3) + 1)) 3 ((v 0 3) + 2)) else (va_up (va_up (v 0) 3 ((v 0 3) + 1)) 4 (bn (((v 0 3) + 1) < v 0 1)))))) H := hP
          have hD : va_D A (wM q cI (va_up v 0 (if ((v 0 3) + 1) < v 0 1 ∧ 48 ≤ v 3 (((v 0 3) + 1)) ∧ v 3 (((v 0 3) + 1)) ≤ 51 then (va_up (va_up (v 0) 3 ((v 0 3) + 1)) 3 ((v 0 3) + 2)) else (va_up (va_up (v 0) 3 ((v 0 3) + 1)) 4 (bn (((v 0 3) + 1) < v 0 1)))))) := hD
          refine o_ifnz (tgt := 94) hx hb dX5_isPart_89 (by decide) (fun c_26 => ?_) (fun c_26 => ?_)
          · skip
            rw [if_pos c_26] at hP hD
            have hP : va_P D vwCl (wM q cI (va_up v 0 (va_up (v 0) 3 ((v 0 3) + 2)))) H := hP
            have hD : va_D A (wM q cI (va_up v 0 (va_up (v 0) 3 ((v 0 3) + 2)))) := hD
            refine lv_aload_n hx hb dX5_isPart_94 rfl (lv_at hl 1 rfl) ?_
            refine va_get (D := D) (ci := 5) (v := .ref (q 4)) (C := RX5) (T := TX5) (N := 10) hx hb hts inX5_isPart_X5 hown hK hP 0 rfl rfl 8 (by decide) (hts (.fieldLink RX5 19 "OddNoticeModel" "told" "[I") (List.mem_of_getElem? (i := 3) (by decide +kernel))) (fun _ h9 => h9) rfl dX5_isPart_95 ?_
            refine o_const (k := 3) hx hb dX5_isPart_98 (by decide) ?_
            refine lv_aload_n hx hb dX5_isPart_99 rfl (lv_at hl 1 rfl) ?_
            refine va_get (D := D) (ci := 5) (v := .int (nI (v 0 5))) (C := RX5) (T := TX5) (N := 10) hx hb hts inX5_isPart_X5 hown hK hP 0 rfl rfl 9 (by decide) (hts (.fieldLink RX5 106 "OddNoticeModel" "tolds" "I") (List.mem_of_getElem? (i := 4) (by decide +kernel))) (fun _ h9 => h9) rfl dX5_isPart_100 ?_
            refine o_imul (a := 3) (b := (v 0 5)) (k := (3 * (v 0 5))) hx hb dX5_isPart_103 rfl ?_
            refine lv_iload_n hx hb dX5_isPart_104 rfl (lv_at hl 0 rfl) ?_
            refine o_iast (g := (v 4)) hx hb hK hP hD hS 4 0 rfl rfl (by omega) (Nat.le_of_ble_eq_true rfl) dX5_isPart_105 (fun H locs hP hD hS => ?_)
            have hP : va_P D vwCl (wM q cI (va_up (va_up v 0 (va_up (v 0) 3 ((v 0 3) + 2))) 4 (va_up (v 4) (3 * (v 0 5)) (v 3 (v 0 3))))) H := hP
            have hD : va_D A (wM q cI (va_up (va_up v 0 (va_up (v 0) 3 ((v 0 3) + 2))) 4 (va_up (v 4) (3 * (v 0 5)) (v 3 (v 0 3))))) := hD
            refine lv_aload_n hx hb dX5_isPart_106 rfl (lv_at hl 1 rfl) ?_
            refine va_get (D := D) (ci := 5) (v := .ref (q 4)) (C := RX5) (T := TX5) (N := 10) hx hb hts inX5_isPart_X5 hown hK hP 0 rfl rfl 8 (by decide) (hts (.fieldLink RX5 19 "OddNoticeModel" "told" "[I") (List.mem_of_getElem? (i := 3) (by decide +kernel))) (fun _ h9 => h9) rfl dX5_isPart_107 ?_
            refine o_const (k := 3) hx hb dX5_isPart_110 (by decide) ?_
            refine lv_aload_n hx hb dX5_isPart_111 rfl (lv_at hl 1 rfl) ?_
            refine va_get (D := D) (ci := 5) (v := .int (nI (v 0 5))) (C := RX5) (T := TX5) (N := 10) hx hb hts inX5_isPart_X5 hown hK hP 0 rfl rfl 9 (by decide) (hts (.fieldLink RX5 106 "OddNoticeModel" "tolds" "I") (List.mem_of_getElem? (i := 4) (by decide +kernel))) (fun _ h9 => h9) rfl dX5_isPart_112 ?_
            refine o_imul (a := 3) (b := (v 0 5)) (k := (3 * (v 0 5))) hx hb dX5_isPart_115 rfl ?_
            refine o_const (k := 1) hx hb dX5_isPart_116 (by decide) ?_
            refine o_iadd (a := (3 * (v 0 5))) (b := 1) (k := (3 * (v 0 5) + 1)) hx hb dX5_isPart_117 rfl ?_
            refine lv_aload_n hx hb dX5_isPart_118 rfl (lv_at hl 1 rfl) ?_
            refine va_get (D := D) (ci := 5) (v := .ref (q 3)) (C := RX5) (T := TX5) (N := 10) hx hb hts inX5_isPart_X5 hown hK hP 0 rfl rfl 3 (by decide) (hts (.fieldLink RX5 16 "OddNoticeModel" "text" "[I") (List.mem_of_getElem? (i := 1) (by decide +kernel))) (fun _ h9 => h9) rfl dX5_isPart_119 ?_
            refine lv_aload_n hx hb dX5_isPart_122 rfl (lv_at hl 1 rfl) ?_
            refine va_get (D := D) (ci := 5) (v := .int (nI ((v 0 3) + 2))) (C := RX5) (T := TX5) (N := 10) hx hb hts inX5_isPart_X5 hown hK hP 0 rfl rfl 6 (by decide) (hts (.fieldLink RX5 89 "OddNoticeModel" "at" "I") (List.mem_of_getElem? (i := 2) (by decide +kernel))) (fun _ h9 => h9) rfl dX5_isPart_123 ?_
            refine o_const (k := 1) hx hb dX5_isPart_126 (by decide) ?_
            refine o_isub (a := ((v 0 3) + 2)) (b := 1) (k := ((v 0 3) + 1)) hx hb dX5_isPart_127 (by omega) (by omega) ?_
            refine o_iald (v := nI (v 3 ((v 0 3) + 1))) hx hb hK hP 3 0 rfl rfl (by omega) (Nat.le_of_ble_eq_true rfl) rfl dX5_isPart_128 ?_
            have f_27 := ht ((v 0 3) + 1)
            refine o_bipush (k := 48) hx hb dX5_isPart_129 (by decide) ?_
            refine o_isub (a := (v 3 ((v 0 3) + 1))) (b := 48) (k := ((v 3 ((v 0 3) + 1)) - 48)) hx hb dX5_isPart_131 (by omega) rfl ?_
            refine o_iast (g := (va_up (v 4) (3 * (v 0 5)) (v 3 (v 0 3)))) hx hb hK hP hD hS 4 0 rfl rfl (by omega) (Nat.le_of_ble_eq_true rfl) dX5_isPart_132 (fun H locs hP hD hS => ?_)
            have hP : va_P D vwCl (wM q cI (va_up (va_up v 0 (va_up (v 0) 3 ((v 0 3) + 2))) 4 (va_up (va_up (v 4) (3 * (v 0 5)) (v 3 (v 0 3))) (3 * (v 0 5) + 1) ((v 3 ((v 0 3) + 1)) - 48)))) H := hP
            have hD : va_D A (wM q cI (va_up (va_up v 0 (va_up (v 0) 3 ((v 0 3) + 2))) 4 (va_up (va_up (v 4) (3 * (v 0 5)) (v 3 (v 0 3))) (3 * (v 0 5) + 1) ((v 3 ((v 0 3) + 1)) - 48)))) := hD
            refine lv_iload_n hx hb dX5_isPart_133 rfl (lv_at hl 0 rfl) ?_
            refine o_bipush (k := 119) hx hb dX5_isPart_134 (by decide) ?_
            refine o_icmp_ne (tgt := 204) hx hb dX5_isPart_136 (by decide) (by omega) (Nat.le_of_ble_eq_true rfl) (fun c_28 => ?_) (fun c_28 => ?_)
            · skip
              refine o_const (k := 1) hx hb dX5_isPart_204 (by decide) ?_
              have w_29 : (wM q cI (va_up (va_up v 0 (va_up (va_up (v 0) 3 (m_pt (v 3) (v 0 1) (v 0 5) (v 0 3) (v 0 4) (v 4)).1) 4 (m_pt (v 3) (v 0 1) (v 0 5) (v 0 3) (v 0 4) (v 4)).2.1)) 4 (m_pt (v 3) (v 0 1) (v 0 5) (v 0 3) (v 0 4) (v 4)).2.2.1)) = (wM q cI (va_up (va_up v 0 (va_up (v 0) 3 ((v 0 3) + 2))) 4 (va_up (va_up (v 4) (3 * (v 0 5)) (v 3 (v 0 3))) (3 * (v 0 5) + 1) ((v 3 ((v 0 3) + 1)) - 48)))) := (by unfold m_pt; rw [if_pos (by omega), if_pos (by unfold m_hi; (repeat' split) <;> omega), if_neg (by omega)]; first | done | rfl)
              rw [← w_29] at hP
              exact W.zret (v := nI 1) hx hb hrt rfl (fun t ht hW => ⟨⟨_, (), rfl, (congrArg nI (by unfold m_pt; rw [if_pos (by omega), if_pos (by unfold m_hi; (repeat' split) <;> omega), if_neg (by omega)])), by show va_P D vwCl _ t.heap; rw [ht]; exact hP⟩, hS.F ht⟩) hS.2.2 dX5_isPart_205
            · skip
              refine lv_aload_n hx hb dX5_isPart_139 rfl (lv_at hl 1 rfl) ?_
              refine o_bipush (k := 57) hx hb dX5_isPart_140 (by decide) ?_
              refine o_wi (va_runV (As := [.int (nI 57)]) (rest := []) ⟨hx, hb, hml, hown, hts⟩ (k_X5_isDigit l D cI cR cS cL H.size q (va_up (va_up v 0 (va_up (v 0) 3 ((v 0 3) + 2))) 4 (va_up (va_up (v 4) (3 * (v 0 5)) (v 3 (v 0 3))) (3 * (v 0 5) + 1) ((v 3 ((v 0 3) + 1)) - 48))) 57 (by show ((v 0 3) + 2) < 2 ^ 31; first | assumption | omega) (by show v 0 1 ≤ 60; first | assumption | omega) (by show ∀ k, v 3 k < 2 ^ 31; first | assumption | omega) (by show 57 < 2 ^ 31; first | assumption | omega)) (cwV 1 hts gX5_isPart_X5_isDigit rfl rfl rfl (by decide +kernel) ⟨Nat.le_of_ble_eq_true rfl, Nat.le_of_ble_eq_true rfl⟩) (o_v (o_pB hK hN hP hD) (va_recv hK hP (ci := 5) (q0 := 0) rfl rfl)) rfl rfl hl.1 rfl (lv_room (Nat.le_of_ble_eq_true rfl)) dX5_isPart_142 ⟨Nat.zero_le _, Nat.zero_le _⟩) hP hD hS hA [0, 1, 2, 3, 4] (by decide) rfl (fun _ => rfl) (fun r_31 _ H locs e_30 hP hD hS => ?_)
              have e_30 : r_31 = nI (bn (((v 0 3) + 2) < v 0 1 ∧ 48 ≤ v 3 (((v 0 3) + 2)) ∧ v 3 (((v 0 3) + 2)) ≤ 57)) := e_30
              subst e_30
              have hP : va_P D vwCl (wM q cI (va_up (va_up v 0 (if ((v 0 3) + 2) < v 0 1 ∧ 48 ≤ v 3 (((v 0 3) + 2)) ∧ v 3 (((v 0 3) + 2)) ≤ 57 then (va_up (va_up (v 0) 3 ((v 0 3) + 2)) 3 ((v 0 3) + 3)) else (va_up (va_up (v 0) 3 ((v 0 3) + 2)) 4 (bn (((v 0 3) + 2) < v 0 1))))) 4 (va_up (va_up (v 4) (3 * (v 0 5)) (v 3 (v 0 3))) (3 * (v 0 5) + 1) ((v 3 ((v 0 3) + 1)) - 48)))) H := hP
              have hD : va_D A (wM q cI (va_up (va_up v 0 (if ((v 0 3) + 2) < v 0 1 ∧ 48 ≤ v 3 (((v 0 3) + 2)) ∧ v 3 (((v 0 3) + 2)) ≤ 57 then (va_up (va_up (v 0) 3 ((v 0 3) + 2)) 3 ((v 0 3) + 3)) else (va_up (va_up (v 0) 3 ((v 0 3) + 2)) 4 (bn (((v 0 3) + 2) < v 0 1))))) 4 (va_up (va_up (v 4) (3 * (v 0 5)) (v 3 (v 0 3))) (3 * (v 0 5) + 1) ((v 3 ((v 0 3) + 1)) - 48)))) := hD
              refine o_ifz (tgt := 157) hx hb dX5_isPart_145 (by decide) (fun c_32 => ?_) (fun c_32 => ?_)
              · skip
                rw [if_neg c_32] at hP hD
                have hP : va_P D vwCl (wM q cI (va_up (va_up v 0 (va_up (va_up (v 0) 3 ((v 0 3) + 2)) 4 (bn (((v 0 3) + 2) < v 0 1)))) 4 (va_up (va_up (v 4) (3 * (v 0 5)) (v 3 (v 0 3))) (3 * (v 0 5) + 1) ((v 3 ((v 0 3) + 1)) - 48)))) H := hP
                have hD : va_D A (wM q cI (va_up (va_up v 0 (va_up (va_up (v 0) 3 ((v 0 3) + 2)) 4 (bn (((v 0 3) + 2) < v 0 1)))) 4 (va_up (va_up (v 4) (3 * (v 0 5)) (v 3 (v 0 3))) (3 * (v 0 5) + 1) ((v 3 ((v 0 3) + 1)) - 48)))) := hD
                refine o_const (k := 0) hx hb dX5_isPart_157 (by decide) ?_
                have w_33 : (wM q cI (va_up (va_up v 0 (va_up (va_up (v 0) 3 (m_pt (v 3) (v 0 1) (v 0 5) (v 0 3) (v 0 4) (v 4)).1) 4 (m_pt (v 3) (v 0 1) (v 0 5) (v 0 3) (v 0 4) (v 4)).2.1)) 4 (m_pt (v 3) (v 0 1) (v 0 5) (v 0 3) (v 0 4) (v 4)).2.2.1)) = (wM q cI (va_up (va_up v 0 (va_up (va_up (v 0) 3 ((v 0 3) + 2)) 4 (bn (((v 0 3) + 2) < v 0 1)))) 4 (va_up (va_up (v 4) (3 * (v 0 5)) (v 3 (v 0 3))) (3 * (v 0 5) + 1) ((v 3 ((v 0 3) + 1)) - 48)))) := (by unfold m_pt; rw [if_pos (by omega), if_pos (by unfold m_hi; (repeat' split) <;> omega), if_pos (by omega), if_neg (by omega)]; first | done | rfl)
                rw [← w_33] at hP
                exact W.zret (v := nI 0) hx hb hrt rfl (fun t ht hW => ⟨⟨_, (), rfl, (congrArg nI (by unfold m_pt; rw [if_pos (by omega), if_pos (by unfold m_hi; (repeat' split) <;> omega), if_pos (by omega), if_neg (by omega)])), by show va_P D vwCl _ t.heap; rw [ht]; exact hP⟩, hS.F ht⟩) hS.2.2 dX5_isPart_158
              · skip
                rw [if_pos c_32] at hP hD
                have hP : va_P D vwCl (wM q cI (va_up (va_up v 0 (va_up (v 0) 3 ((v 0 3) + 3))) 4 (va_up (va_up (v 4) (3 * (v 0 5)) (v 3 (v 0 3))) (3 * (v 0 5) + 1) ((v 3 ((v 0 3) + 1)) - 48)))) H := hP
                have hD : va_D A (wM q cI (va_up (va_up v 0 (va_up (v 0) 3 ((v 0 3) + 3))) 4 (va_up (va_up (v 4) (3 * (v 0 5)) (v 3 (v 0 3))) (3 * (v 0 5) + 1) ((v 3 ((v 0 3) + 1)) - 48)))) := hD
                refine lv_aload_n hx hb dX5_isPart_148 rfl (lv_at hl 1 rfl) ?_
                refine o_bipush (k := 57) hx hb dX5_isPart_149 (by decide) ?_
                refine o_wi (va_runV (As := [.int (nI 57)]) (rest := []) ⟨hx, hb, hml, hown, hts⟩ (k_X5_isDigit l D cI cR cS cL H.size q (va_up (va_up v 0 (va_up (v 0) 3 ((v 0 3) + 3))) 4 (va_up (va_up (v 4) (3 * (v 0 5)) (v 3 (v 0 3))) (3 * (v 0 5) + 1) ((v 3 ((v 0 3) + 1)) - 48))) 57 (by show ((v 0 3) + 3) < 2 ^ 31; first | assumption | omega) (by show v 0 1 ≤ 60; first | assumption | omega) (by show ∀ k, v 3 k < 2 ^ 31; first | assumption | omega) (by show 57 < 2 ^ 31; first | assumption | omega)) (cwV 1 hts gX5_isPart_X5_isDigit rfl rfl rfl (by decide +kernel) ⟨Nat.le_of_ble_eq_true rfl, Nat.le_of_ble_eq_true rfl⟩) (o_v (o_pB hK hN hP hD) (va_recv hK hP (ci := 5) (q0 := 0) rfl rfl)) rfl rfl hl.1 rfl (lv_room (Nat.le_of_ble_eq_true rfl)) dX5_isPart_151 ⟨Nat.zero_le _, Nat.zero_le _⟩) hP hD hS hA [0, 1, 2, 3, 4] (by decide) rfl (fun _ => rfl) (fun r_35 _ H locs e_34 hP hD hS => ?_)
                have e_34 : r_35 = nI (bn (((v 0 3) + 3) < v 0 1 ∧ 48 ≤ v 3 (((v 0 3) + 3)) ∧ v 3 (((v 0 3) + 3)) ≤ 57)) := e_34
                subst e_34
                have hP : va_P D vwCl (wM q cI (va_up (va_up v 0 (if ((v 0 3) + 3) < v 0 1 ∧ 48 ≤ v 3 (((v 0 3) + 3)) ∧ v 3 (((v 0 3) + 3)) ≤ 57 then (va_up (va_up (v 0) 3 ((v 0 3) + 3)) 3 ((v 0 3) + 4)) else (va_up (va_up (v 0) 3 ((v 0 3) + 3)) 4 (bn (((v 0 3) + 3) < v 0 1))))) 4 (va_up (va_up (v 4) (3 * (v 0 5)) (v 3 (v 0 3))) (3 * (v 0 5) + 1) ((v 3 ((v 0 3) + 1)) - 48)))) H := hP
                have hD : va_D A (wM q cI (va_up (va_up v 0 (if ((v 0 3) + 3) < v 0 1 ∧ 48 ≤ v 3 (((v 0 3) + 3)) ∧ v 3 (((v 0 3) + 3)) ≤ 57 then (va_up (va_up (v 0) 3 ((v 0 3) + 3)) 3 ((v 0 3) + 4)) else (va_up (va_up (v 0) 3 ((v 0 3) + 3)) 4 (bn (((v 0 3) + 3) < v 0 1))))) 4 (va_up (va_up (v 4) (3 * (v 0 5)) (v 3 (v 0 3))) (3 * (v 0 5) + 1) ((v 3 ((v 0 3) + 1)) - 48)))) := hD
                refine o_ifnz (tgt := 159) hx hb dX5_isPart_154 (by decide) (fun c_36 => ?_) (fun c_36 => ?_)
                · skip
                  rw [if_pos c_36] at hP hD
                  have hP : va_P D vwCl (wM q cI (va_up (va_up v 0 (va_up (v 0) 3 ((v 0 3) + 4))) 4 (va_up (va_up (v 4) (3 * (v 0 5)) (v 3 (v 0 3))) (3 * (v 0 5) + 1) ((v 3 ((v 0 3) + 1)) - 48)))) H := hP
                  have hD : va_D A (wM q cI (va_up (va_up v 0 (va_up (v 0) 3 ((v 0 3) + 4))) 4 (va_up (va_up (v 4) (3 * (v 0 5)) (v 3 (v 0 3))) (3 * (v 0 5) + 1) ((v 3 ((v 0 3) + 1)) - 48)))) := hD
                  refine lv_aload_n hx hb dX5_isPart_159 rfl (lv_at hl 1 rfl) ?_
                  refine va_get (D := D) (ci := 5) (v := .ref (q 4)) (C := RX5) (T := TX5) (N := 10) hx hb hts inX5_isPart_X5 hown hK hP 0 rfl rfl 8 (by decide) (hts (.fieldLink RX5 19 "OddNoticeModel" "told" "[I") (List.mem_of_getElem? (i := 3) (by decide +kernel))) (fun _ h9 => h9) rfl dX5_isPart_160 ?_
                  refine o_const (k := 3) hx hb dX5_isPart_163 (by decide) ?_
                  refine lv_aload_n hx hb dX5_isPart_164 rfl (lv_at hl 1 rfl) ?_
                  refine va_get (D := D) (ci := 5) (v := .int (nI (v 0 5))) (C := RX5) (T := TX5) (N := 10) hx hb hts inX5_isPart_X5 hown hK hP 0 rfl rfl 9 (by decide) (hts (.fieldLink RX5 106 "OddNoticeModel" "tolds" "I") (List.mem_of_getElem? (i := 4) (by decide +kernel))) (fun _ h9 => h9) rfl dX5_isPart_165 ?_
                  refine o_imul (a := 3) (b := (v 0 5)) (k := (3 * (v 0 5))) hx hb dX5_isPart_168 rfl ?_
                  refine o_const (k := 2) hx hb dX5_isPart_169 (by decide) ?_
                  refine o_iadd (a := (3 * (v 0 5))) (b := 2) (k := (3 * (v 0 5) + 2)) hx hb dX5_isPart_170 rfl ?_
                  refine o_bipush (k := 10) hx hb dX5_isPart_171 (by decide) ?_
                  refine lv_aload_n hx hb dX5_isPart_173 rfl (lv_at hl 1 rfl) ?_
                  refine va_get (D := D) (ci := 5) (v := .ref (q 3)) (C := RX5) (T := TX5) (N := 10) hx hb hts inX5_isPart_X5 hown hK hP 0 rfl rfl 3 (by decide) (hts (.fieldLink RX5 16 "OddNoticeModel" "text" "[I") (List.mem_of_getElem? (i := 1) (by decide +kernel))) (fun _ h9 => h9) rfl dX5_isPart_174 ?_
                  refine lv_aload_n hx hb dX5_isPart_177 rfl (lv_at hl 1 rfl) ?_
                  refine va_get (D := D) (ci := 5) (v := .int (nI ((v 0 3) + 4))) (C := RX5) (T := TX5) (N := 10) hx hb hts inX5_isPart_X5 hown hK hP 0 rfl rfl 6 (by decide) (hts (.fieldLink RX5 89 "OddNoticeModel" "at" "I") (List.mem_of_getElem? (i := 2) (by decide +kernel))) (fun _ h9 => h9) rfl dX5_isPart_178 ?_
                  refine o_const (k := 2) hx hb dX5_isPart_181 (by decide) ?_
                  refine o_isub (a := ((v 0 3) + 4)) (b := 2) (k := ((v 0 3) + 2)) hx hb dX5_isPart_182 (by omega) (by omega) ?_
                  refine o_iald (v := nI (v 3 ((v 0 3) + 2))) hx hb hK hP 3 0 rfl rfl (by omega) (Nat.le_of_ble_eq_true rfl) rfl dX5_isPart_183 ?_
                  have f_37 := ht ((v 0 3) + 2)
                  refine o_bipush (k := 48) hx hb dX5_isPart_184 (by decide) ?_
                  refine o_isub (a := (v 3 ((v 0 3) + 2))) (b := 48) (k := ((v 3 ((v 0 3) + 2)) - 48)) hx hb dX5_isPart_186 (by omega) rfl ?_
                  refine o_imul (a := 10) (b := ((v 3 ((v 0 3) + 2)) - 48)) (k := (10 * ((v 3 ((v 0 3) + 2)) - 48))) hx hb dX5_isPart_187 rfl ?_
                  refine lv_aload_n hx hb dX5_isPart_188 rfl (lv_at hl 1 rfl) ?_
                  refine va_get (D := D) (ci := 5) (v := .ref (q 3)) (C := RX5) (T := TX5) (N := 10) hx hb hts inX5_isPart_X5 hown hK hP 0 rfl rfl 3 (by decide) (hts (.fieldLink RX5 16 "OddNoticeModel" "text" "[I") (List.mem_of_getElem? (i := 1) (by decide +kernel))) (fun _ h9 => h9) rfl dX5_isPart_189 ?_
                  refine lv_aload_n hx hb dX5_isPart_192 rfl (lv_at hl 1 rfl) ?_
                  refine va_get (D := D) (ci := 5) (v := .int (nI ((v 0 3) + 4))) (C := RX5) (T := TX5) (N := 10) hx hb hts inX5_isPart_X5 hown hK hP 0 rfl rfl 6 (by decide) (hts (.fieldLink RX5 89 "OddNoticeModel" "at" "I") (List.mem_of_getElem? (i := 2) (by decide +kernel))) (fun _ h9 => h9) rfl dX5_isPart_193 ?_
                  refine o_const (k := 1) hx hb dX5_isPart_196 (by decide) ?_
                  refine o_isub (a := ((v 0 3) + 4)) (b := 1) (k := ((v 0 3) + 3)) hx hb dX5_isPart_197 (by omega) (by omega) ?_
                  refine o_iald (v := nI (v 3 ((v 0 3) + 3))) hx hb hK hP 3 0 rfl rfl (by omega) (Nat.le_of_ble_eq_true rfl) rfl dX5_isPart_198 ?_
                  have f_38 := ht ((v 0 3) + 3)
                  refine o_iadd (a := (10 * ((v 3 ((v 0 3) + 2)) - 48))) (b := (v 3 ((v 0 3) + 3))) (k := (10 * ((v 3 ((v 0 3) + 2)) - 48) + (v 3 ((v 0 3) + 3)))) hx hb dX5_isPart_199 rfl ?_
                  refine o_bipush (k := 48) hx hb dX5_isPart_200 (by decide) ?_
                  refine o_isub (a := (10 * ((v 3 ((v 0 3) + 2)) - 48) + (v 3 ((v 0 3) + 3)))) (b := 48) (k := (10 * ((v 3 ((v 0 3) + 2)) - 48) + (v 3 ((v 0 3) + 3)) - 48)) hx hb dX5_isPart_202 (by omega) rfl ?_
                  refine o_iast (g := (va_up (va_up (v 4) (3 * (v 0 5)) (v 3 (v 0 3))) (3 * (v 0 5) + 1) ((v 3 ((v 0 3) + 1)) - 48))) hx hb hK hP hD hS 4 0 rfl rfl (by omega) (Nat.le_of_ble_eq_true rfl) dX5_isPart_203 (fun H locs hP hD hS => ?_)
                  have hP : va_P D vwCl (wM q cI (va_up (va_up v 0 (va_up (v 0) 3 ((v 0 3) + 4))) 4 (va_up (va_up (va_up (v 4) (3 * (v 0 5)) (v 3 (v 0 3))) (3 * (v 0 5) + 1) ((v 3 ((v 0 3) + 1)) - 48)) (3 * (v 0 5) + 2) (10 * ((v 3 ((v 0 3) + 2)) - 48) + (v 3 ((v 0 3) + 3)) - 48)))) H := hP
                  have hD : va_D A (wM q cI (va_up (va_up v 0 (va_up (v 0) 3 ((v 0 3) + 4))) 4 (va_up (va_up (va_up (v 4) (3 * (v 0 5)) (v 3 (v 0 3))) (3 * (v 0 5) + 1) ((v 3 ((v 0 3) + 1)) - 48)) (3 * (v 0 5) + 2) (10 * ((v 3 ((v 0 3) + 2)) - 48) + (v 3 ((v 0 3) + 3)) - 48)))) := hD
                  refine o_const (k := 1) hx hb dX5_isPart_204 (by decide) ?_
                  have w_39 : (wM q cI (va_up (va_up v 0 (va_up (va_up (v 0) 3 (m_pt (v 3) (v 0 1) (v 0 5) (v 0 3) (v 0 4) (v 4)).1) 4 (m_pt (v 3) (v 0 1) (v 0 5) (v 0 3) (v 0 4) (v 4)).2.1)) 4 (m_pt (v 3) (v 0 1) (v 0 5) (v 0 3) (v 0 4) (v 4)).2.2.1)) = (wM q cI (va_up (va_up v 0 (va_up (v 0) 3 ((v 0 3) + 4))) 4 (va_up (va_up (va_up (v 4) (3 * (v 0 5)) (v 3 (v 0 3))) (3 * (v 0 5) + 1) ((v 3 ((v 0 3) + 1)) - 48)) (3 * (v 0 5) + 2) (10 * ((v 3 ((v 0 3) + 2)) - 48) + (v 3 ((v 0 3) + 3)) - 48)))) := (by unfold m_pt; rw [if_pos (by omega), if_pos (by unfold m_hi; (repeat' split) <;> omega), if_pos (by omega), if_pos (by omega), if_pos (by omega)]; first | done | rfl)
                  rw [← w_39] at hP
                  exact W.zret (v := nI 1) hx hb hrt rfl (fun t ht hW => ⟨⟨_, (), rfl, (congrArg nI (by unfold m_pt; rw [if_pos (by omega), if_pos (by unfold m_hi; (repeat' split) <;> omega), if_pos (by omega), if_pos (by omega), if_pos (by omega)])), by show va_P D vwCl _ t.heap; rw [ht]; exact hP⟩, hS.F ht⟩) hS.2.2 dX5_isPart_205
                · skip
                  rw [if_neg c_36] at hP hD
                  have hP : va_P D vwCl (wM q cI (va_up (va_up v 0 (va_up (va_up (v 0) 3 ((v 0 3) + 3)) 4 (bn (((v 0 3) + 3) < v 0 1)))) 4 (va_up (va_up (v 4) (3 * (v 0 5)) (v 3 (v 0 3))) (3 * (v 0 5) + 1) ((v 3 ((v 0 3) + 1)) - 48)))) H := hP
                  have hD : va_D A (wM q cI (va_up (va_up v 0 (va_up (va_up (v 0) 3 ((v 0 3) + 3)) 4 (bn (((v 0 3) + 3) < v 0 1)))) 4 (va_up (va_up (v 4) (3 * (v 0 5)) (v 3 (v 0 3))) (3 * (v 0 5) + 1) ((v 3 ((v 0 3) + 1)) - 48)))) := hD
                  refine o_const (k := 0) hx hb dX5_isPart_157 (by decide) ?_
                  have w_40 : (wM q cI (va_up (va_up v 0 (va_up (va_up (v 0) 3 (m_pt (v 3) (v 0 1) (v 0 5) (v 0 3) (v 0 4) (v 4)).1) 4 (m_pt (v 3) (v 0 1) (v 0 5) (v 0 3) (v 0 4) (v 4)).2.1)) 4 (m_pt (v 3) (v 0 1) (v 0 5) (v 0 3) (v 0 4) (v 4)).2.2.1)) = (wM q cI (va_up (va_up v 0 (va_up (va_up (v 0) 3 ((v 0 3) + 3)) 4 (bn (((v 0 3) + 3) < v 0 1)))) 4 (va_up (va_up (v 4) (3 * (v 0 5)) (v 3 (v 0 3))) (3 * (v 0 5) + 1) ((v 3 ((v 0 3) + 1)) - 48)))) := (by unfold m_pt; rw [if_pos (by omega), if_pos (by unfold m_hi; (repeat' split) <;> omega), if_pos (by omega), if_pos (by omega), if_neg (by omega)]; first | done | rfl)
                  rw [← w_40] at hP
                  exact W.zret (v := nI 0) hx hb hrt rfl (fun t ht hW => ⟨⟨_, (), rfl, (congrArg nI (by unfold m_pt; rw [if_pos (by omega), if_pos (by unfold m_hi; (repeat' split) <;> omega), if_pos (by omega), if_pos (by omega), if_neg (by omega)])), by show va_P D vwCl _ t.heap; rw [ht]; exact hP⟩, hS.F ht⟩) hS.2.2 dX5_isPart_158
          · skip
            rw [if_neg c_26] at hP hD
            have hP : va_P D vwCl (wM q cI (va_up v 0 (va_up (va_up (v 0) 3 ((v 0 3) + 1)) 4 (bn (((v 0 3) + 1) < v 0 1))))) H := hP
            have hD : va_D A (wM q cI (va_up v 0 (va_up (va_up (v 0) 3 ((v 0 3) + 1)) 4 (bn (((v 0 3) + 1) < v 0 1))))) := hD
            refine o_const (k := 0) hx hb dX5_isPart_92 (by decide) ?_
            have w_41 : (wM q cI (va_up (va_up v 0 (va_up (va_up (v 0) 3 (m_pt (v 3) (v 0 1) (v 0 5) (v 0 3) (v 0 4) (v 4)).1) 4 (m_pt (v 3) (v 0 1) (v 0 5) (v 0 3) (v 0 4) (v 4)).2.1)) 4 (m_pt (v 3) (v 0 1) (v 0 5) (v 0 3) (v 0 4) (v 4)).2.2.1)) = (wM q cI (va_up v 0 (va_up (va_up (v 0) 3 ((v 0 3) + 1)) 4 (bn (((v 0 3) + 1) < v 0 1))))) := (by unfold m_pt; rw [if_pos (by omega), if_neg (by unfold m_hi; (repeat' split) <;> omega)]; first | done | rfl)
            rw [← w_41] at hP
            exact W.zret (v := nI 0) hx hb hrt rfl (fun t ht hW => ⟨⟨_, (), rfl, (congrArg nI (by unfold m_pt; rw [if_pos (by omega), if_neg (by unfold m_hi; (repeat' split) <;> omega)])), by show va_P D vwCl _ t.heap; rw [ht]; exact hP⟩, hS.F ht⟩) hS.2.2 dX5_isPart_93
        · skip
          refine o_bipush (k := 50) hx hb dX5_isPart_79 (by decide) ?_
          refine lv_goto (tgt := 86) hx hb dX5_isPart_81 (by decide) ?_
          refine o_wi (va_runV (As := [.int (nI 50)]) (rest := []) ⟨hx, hb, hml, hown, hts⟩ (k_X5_isDigit l D cI cR cS cL H.size q (va_up v 0 (va_up (v 0) 3 ((v 0 3) + 1))) 50 (by show ((v 0 3) + 1) < 2 ^ 31; first | assumption | omega) (by show v 0 1 ≤ 60; first | assumption | omega) (by show ∀ k, v 3 k < 2 ^ 31; first | assumption | omega) (by show 50 < 2 ^ 31; first | assumption | omega)) (cwV 1 hts gX5_isPart_X5_isDigit rfl rfl rfl (by decide +kernel) ⟨Nat.le_of_ble_eq_true rfl, Nat.le_of_ble_eq_true rfl⟩) (o_v (o_pB hK hN hP hD) (va_recv hK hP (ci := 5) (q0 := 0) rfl rfl)) rfl rfl hl.1 rfl (lv_room (Nat.le_of_ble_eq_true rfl)) dX5_isPart_86 ⟨Nat.zero_le _, Nat.zero_le _⟩) hP hD hS hA [0, 1, 2, 3, 4] (by decide) rfl (fun _ => rfl) (fun r_43 _ H locs e_42 hP hD hS => ?_)
          have e_42 : r_43 = nI (bn (((v 0 3) + 1) < v 0 1 ∧ 48 ≤ v 3 (((v 0 3) + 1)) ∧ v 3 (((v 0 3) + 1)) ≤ 50)) := e_42
          subst e_42
          have hP : va_P D vwCl (wM q cI (va_up v 0 (if ((v 0 3) + 1) < v 0 1 ∧ 48 ≤ v 3 (((v 0 3) + 1)) ∧ v 3 (((v 0 3) + 1)) ≤ 50 then (va_up (va_up (v 0) 3 ((v 0 3) + 1)) 3 ((v 0 3) + 2)) else (va_up (va_up (v 0) 3 ((v 0 3) + 1)) 4 (bn (((v 0 3) + 1) < v 0 1)))))) H := hP
          have hD : va_D A (wM q cI (va_up v 0 (if ((v 0 3) + 1) < v 0 1 ∧ 48 ≤ v 3 (((v 0 3) + 1)) ∧ v 3 (((v 0 3) + 1)) ≤ 50 then (va_up (va_up (v 0) 3 ((v 0 3) + 1)) 3 ((v 0 3) + 2)) else (va_up (va_up (v 0) 3 ((v 0 3) + 1)) 4 (bn (((v 0 3) + 1) < v 0 1)))))) := hD
          refine o_ifnz (tgt := 94) hx hb dX5_isPart_89 (by decide) (fun c_44 => ?_) (fun c_44 => ?_)
          · skip
            rw [if_pos c_44] at hP hD
            have hP : va_P D vwCl (wM q cI (va_up v 0 (va_up (v 0) 3 ((v 0 3) + 2)))) H := hP
            have hD : va_D A (wM q cI (va_up v 0 (va_up (v 0) 3 ((v 0 3) + 2)))) := hD
            refine lv_aload_n hx hb dX5_isPart_94 rfl (lv_at hl 1 rfl) ?_
            refine va_get (D := D) (ci := 5) (v := .ref (q 4)) (C := RX5) (T := TX5) (N := 10) hx hb hts inX5_isPart_X5 hown hK hP 0 rfl rfl 8 (by decide) (hts (.fieldLink RX5 19 "OddNoticeModel" "told" "[I") (List.mem_of_getElem? (i := 3) (by decide +kernel))) (fun _ h9 => h9) rfl dX5_isPart_95 ?_
            refine o_const (k := 3) hx hb dX5_isPart_98 (by decide) ?_
            refine lv_aload_n hx hb dX5_isPart_99 rfl (lv_at hl 1 rfl) ?_
            refine va_get (D := D) (ci := 5) (v := .int (nI (v 0 5))) (C := RX5) (T := TX5) (N := 10) hx hb hts inX5_isPart_X5 hown hK hP 0 rfl rfl 9 (by decide) (hts (.fieldLink RX5 106 "OddNoticeModel" "tolds" "I") (List.mem_of_getElem? (i := 4) (by decide +kernel))) (fun _ h9 => h9) rfl dX5_isPart_100 ?_
            refine o_imul (a := 3) (b := (v 0 5)) (k := (3 * (v 0 5))) hx hb dX5_isPart_103 rfl ?_
            refine lv_iload_n hx hb dX5_isPart_104 rfl (lv_at hl 0 rfl) ?_
            refine o_iast (g := (v 4)) hx hb hK hP hD hS 4 0 rfl rfl (by omega) (Nat.le_of_ble_eq_true rfl) dX5_isPart_105 (fun H locs hP hD hS => ?_)
            have hP : va_P D vwCl (wM q cI (va_up (va_up v 0 (va_up (v 0) 3 ((v 0 3) + 2))) 4 (va_up (v 4) (3 * (v 0 5)) (v 3 (v 0 3))))) H := hP
            have hD : va_D A (wM q cI (va_up (va_up v 0 (va_up (v 0) 3 ((v 0 3) + 2))) 4 (va_up (v 4) (3 * (v 0 5)) (v 3 (v 0 3))))) := hD
            refine lv_aload_n hx hb dX5_isPart_106 rfl (lv_at hl 1 rfl) ?_
            refine va_get (D := D) (ci := 5) (v := .ref (q 4)) (C := RX5) (T := TX5) (N := 10) hx hb hts inX5_isPart_X5 hown hK hP 0 rfl rfl 8 (by decide) (hts (.fieldLink RX5 19 "OddNoticeModel" "told" "[I") (List.mem_of_getElem? (i := 3) (by decide +kernel))) (fun _ h9 => h9) rfl dX5_isPart_107 ?_
            refine o_const (k := 3) hx hb dX5_isPart_110 (by decide) ?_
            refine lv_aload_n hx hb dX5_isPart_111 rfl (lv_at hl 1 rfl) ?_
            refine va_get (D := D) (ci := 5) (v := .int (nI (v 0 5))) (C := RX5) (T := TX5) (N := 10) hx hb hts inX5_isPart_X5 hown hK hP 0 rfl rfl 9 (by decide) (hts (.fieldLink RX5 106 "OddNoticeModel" "tolds" "I") (List.mem_of_getElem? (i := 4) (by decide +kernel))) (fun _ h9 => h9) rfl dX5_isPart_112 ?_
            refine o_imul (a := 3) (b := (v 0 5)) (k := (3 * (v 0 5))) hx hb dX5_isPart_115 rfl ?_
            refine o_const (k := 1) hx hb dX5_isPart_116 (by decide) ?_
            refine o_iadd (a := (3 * (v 0 5))) (b := 1) (k := (3 * (v 0 5) + 1)) hx hb dX5_isPart_117 rfl ?_
            refine lv_aload_n hx hb dX5_isPart_118 rfl (lv_at hl 1 rfl) ?_
            refine va_get (D := D) (ci := 5) (v := .ref (q 3)) (C := RX5) (T := TX5) (N := 10) hx hb hts inX5_isPart_X5 hown hK hP 0 rfl rfl 3 (by decide) (hts (.fieldLink RX5 16 "OddNoticeModel" "text" "[I") (List.mem_of_getElem? (i := 1) (by decide +kernel))) (fun _ h9 => h9) rfl dX5_isPart_119 ?_
            refine lv_aload_n hx hb dX5_isPart_122 rfl (lv_at hl 1 rfl) ?_
            refine va_get (D := D) (ci := 5) (v := .int (nI ((v 0 3) + 2))) (C := RX5) (T := TX5) (N := 10) hx hb hts inX5_isPart_X5 hown hK hP 0 rfl rfl 6 (by decide) (hts (.fieldLink RX5 89 "OddNoticeModel" "at" "I") (List.mem_of_getElem? (i := 2) (by decide +kernel))) (fun _ h9 => h9) rfl dX5_isPart_123 ?_
            refine o_const (k := 1) hx hb dX5_isPart_126 (by decide) ?_
            refine o_isub (a := ((v 0 3) + 2)) (b := 1) (k := ((v 0 3) + 1)) hx hb dX5_isPart_127 (by omega) (by omega) ?_
            refine o_iald (v := nI (v 3 ((v 0 3) + 1))) hx hb hK hP 3 0 rfl rfl (by omega) (Nat.le_of_ble_eq_true rfl) rfl dX5_isPart_128 ?_
            have f_45 := ht ((v 0 3) + 1)
            refine o_bipush (k := 48) hx hb dX5_isPart_129 (by decide) ?_
            refine o_isub (a := (v 3 ((v 0 3) + 1))) (b := 48) (k := ((v 3 ((v 0 3) + 1)) - 48)) hx hb dX5_isPart_131 (by omega) rfl ?_
            refine o_iast (g := (va_up (v 4) (3 * (v 0 5)) (v 3 (v 0 3)))) hx hb hK hP hD hS 4 0 rfl rfl (by omega) (Nat.le_of_ble_eq_true rfl) dX5_isPart_132 (fun H locs hP hD hS => ?_)
            have hP : va_P D vwCl (wM q cI (va_up (va_up v 0 (va_up (v 0) 3 ((v 0 3) + 2))) 4 (va_up (va_up (v 4) (3 * (v 0 5)) (v 3 (v 0 3))) (3 * (v 0 5) + 1) ((v 3 ((v 0 3) + 1)) - 48)))) H := hP
            have hD : va_D A (wM q cI (va_up (va_up v 0 (va_up (v 0) 3 ((v 0 3) + 2))) 4 (va_up (va_up (v 4) (3 * (v 0 5)) (v 3 (v 0 3))) (3 * (v 0 5) + 1) ((v 3 ((v 0 3) + 1)) - 48)))) := hD
            refine lv_iload_n hx hb dX5_isPart_133 rfl (lv_at hl 0 rfl) ?_
            refine o_bipush (k := 119) hx hb dX5_isPart_134 (by decide) ?_
            refine o_icmp_ne (tgt := 204) hx hb dX5_isPart_136 (by decide) (by omega) (Nat.le_of_ble_eq_true rfl) (fun c_46 => ?_) (fun c_46 => ?_)
            · skip
              refine o_const (k := 1) hx hb dX5_isPart_204 (by decide) ?_
              have w_47 : (wM q cI (va_up (va_up v 0 (va_up (va_up (v 0) 3 (m_pt (v 3) (v 0 1) (v 0 5) (v 0 3) (v 0 4) (v 4)).1) 4 (m_pt (v 3) (v 0 1) (v 0 5) (v 0 3) (v 0 4) (v 4)).2.1)) 4 (m_pt (v 3) (v 0 1) (v 0 5) (v 0 3) (v 0 4) (v 4)).2.2.1)) = (wM q cI (va_up (va_up v 0 (va_up (v 0) 3 ((v 0 3) + 2))) 4 (va_up (va_up (v 4) (3 * (v 0 5)) (v 3 (v 0 3))) (3 * (v 0 5) + 1) ((v 3 ((v 0 3) + 1)) - 48)))) := (by unfold m_pt; rw [if_pos (by omega), if_pos (by unfold m_hi; (repeat' split) <;> omega), if_neg (by omega)]; first | done | rfl)
              rw [← w_47] at hP
              exact W.zret (v := nI 1) hx hb hrt rfl (fun t ht hW => ⟨⟨_, (), rfl, (congrArg nI (by unfold m_pt; rw [if_pos (by omega), if_pos (by unfold m_hi; (repeat' split) <;> omega), if_neg (by omega)])), by show va_P D vwCl _ t.heap; rw [ht]; exact hP⟩, hS.F ht⟩) hS.2.2 dX5_isPart_205
            · skip
              refine lv_aload_n hx hb dX5_isPart_139 rfl (lv_at hl 1 rfl) ?_
              refine o_bipush (k := 57) hx hb dX5_isPart_140 (by decide) ?_
              refine o_wi (va_runV (As := [.int (nI 57)]) (rest := []) ⟨hx, hb, hml, hown, hts⟩ (k_X5_isDigit l D cI cR cS cL H.size q (va_up (va_up v 0 (va_up (v 0) 3 ((v 0 3) + 2))) 4 (va_up (va_up (v 4) (3 * (v 0 5)) (v 3 (v 0 3))) (3 * (v 0 5) + 1) ((v 3 ((v 0 3) + 1)) - 48))) 57 (by show ((v 0 3) + 2) < 2 ^ 31; first | assumption | omega) (by show v 0 1 ≤ 60; first | assumption | omega) (by show ∀ k, v 3 k < 2 ^ 31; first | assumption | omega) (by show 57 < 2 ^ 31; first | assumption | omega)) (cwV 1 hts gX5_isPart_X5_isDigit rfl rfl rfl (by decide +kernel) ⟨Nat.le_of_ble_eq_true rfl, Nat.le_of_ble_eq_true rfl⟩) (o_v (o_pB hK hN hP hD) (va_recv hK hP (ci := 5) (q0 := 0) rfl rfl)) rfl rfl hl.1 rfl (lv_room (Nat.le_of_ble_eq_true rfl)) dX5_isPart_142 ⟨Nat.zero_le _, Nat.zero_le _⟩) hP hD hS hA [0, 1, 2, 3, 4] (by decide) rfl (fun _ => rfl) (fun r_49 _ H locs e_48 hP hD hS => ?_)
              have e_48 : r_49 = nI (bn (((v 0 3) + 2) < v 0 1 ∧ 48 ≤ v 3 (((v 0 3) + 2)) ∧ v 3 (((v 0 3) + 2)) ≤ 57)) := e_48
              subst e_48
              have hP : va_P D vwCl (wM q cI (va_up (va_up v 0 (if ((v 0 3) + 2) < v 0 1 ∧ 48 ≤ v 3 (((v 0 3) + 2)) ∧ v 3 (((v 0 3) + 2)) ≤ 57 then (va_up (va_up (v 0) 3 ((v 0 3) + 2)) 3 ((v 0 3) + 3)) else (va_up (va_up (v 0) 3 ((v 0 3) + 2)) 4 (bn (((v 0 3) + 2) < v 0 1))))) 4 (va_up (va_up (v 4) (3 * (v 0 5)) (v 3 (v 0 3))) (3 * (v 0 5) + 1) ((v 3 ((v 0 3) + 1)) - 48)))) H := hP
              have hD : va_D A (wM q cI (va_up (va_up v 0 (if ((v 0 3) + 2) < v 0 1 ∧ 48 ≤ v 3 (((v 0 3) + 2)) ∧ v 3 (((v 0 3) + 2)) ≤ 57 then (va_up (va_up (v 0) 3 ((v 0 3) + 2)) 3 ((v 0 3) + 3)) else (va_up (va_up (v 0) 3 ((v 0 3) + 2)) 4 (bn (((v 0 3) + 2) < v 0 1))))) 4 (va_up (va_up (v 4) (3 * (v 0 5)) (v 3 (v 0 3))) (3 * (v 0 5) + 1) ((v 3 ((v 0 3) + 1)) - 48)))) := hD
              refine o_ifz (tgt := 157) hx hb dX5_isPart_145 (by decide) (fun c_50 => ?_) (fun c_50 => ?_)
              · skip
                rw [if_neg c_50] at hP hD
                have hP : va_P D vwCl (wM q cI (va_up (va_up v 0 (va_up (va_up (v 0) 3 ((v 0 3) + 2)) 4 (bn (((v 0 3) + 2) < v 0 1)))) 4 (va_up (va_up (v 4) (3 * (v 0 5)) (v 3 (v 0 3))) (3 * (v 0 5) + 1) ((v 3 ((v 0 3) + 1)) - 48)))) H := hP
                have hD : va_D A (wM q cI (va_up (va_up v 0 (va_up (va_up (v 0) 3 ((v 0 3) + 2)) 4 (bn (((v 0 3) + 2) < v 0 1)))) 4 (va_up (va_up (v 4) (3 * (v 0 5)) (v 3 (v 0 3))) (3 * (v 0 5) + 1) ((v 3 ((v 0 3) + 1)) - 48)))) := hD
                refine o_const (k := 0) hx hb dX5_isPart_157 (by decide) ?_
                have w_51 : (wM q cI (va_up (va_up v 0 (va_up (va_up (v 0) 3 (m_pt (v 3) (v 0 1) (v 0 5) (v 0 3) (v 0 4) (v 4)).1) 4 (m_pt (v 3) (v 0 1) (v 0 5) (v 0 3) (v 0 4) (v 4)).2.1)) 4 (m_pt (v 3) (v 0 1) (v 0 5) (v 0 3) (v 0 4) (v 4)).2.2.1)) = (wM q cI (va_up (va_up v 0 (va_up (va_up (v 0) 3 ((v 0 3) + 2)) 4 (bn (((v 0 3) + 2) < v 0 1)))) 4 (va_up (va_up (v 4) (3 * (v 0 5)) (v 3 (v 0 3))) (3 * (v 0 5) + 1) ((v 3 ((v 0 3) + 1)) - 48)))) := (by unfold m_pt; rw [if_pos (by omega), if_pos (by unfold m_hi; (repeat' split) <;> omega), if_pos (by omega), if_neg (by omega)]; first | done | rfl)
                rw [← w_51] at hP
                exact W.zret (v := nI 0) hx hb hrt rfl (fun t ht hW => ⟨⟨_, (), rfl, (congrArg nI (by unfold m_pt; rw [if_pos (by omega), if_pos (by unfold m_hi; (repeat' split) <;> omega), if_pos (by omega), if_neg (by omega)])), by show va_P D vwCl _ t.heap; rw [ht]; exact hP⟩, hS.F ht⟩) hS.2.2 dX5_isPart_158
              · skip
                rw [if_pos c_50] at hP hD
                have hP : va_P D vwCl (wM q cI (va_up (va_up v 0 (va_up (v 0) 3 ((v 0 3) + 3))) 4 (va_up (va_up (v 4) (3 * (v 0 5)) (v 3 (v 0 3))) (3 * (v 0 5) + 1) ((v 3 ((v 0 3) + 1)) - 48)))) H := hP
                have hD : va_D A (wM q cI (va_up (va_up v 0 (va_up (v 0) 3 ((v 0 3) + 3))) 4 (va_up (va_up (v 4) (3 * (v 0 5)) (v 3 (v 0 3))) (3 * (v 0 5) + 1) ((v 3 ((v 0 3) + 1)) - 48)))) := hD
                refine lv_aload_n hx hb dX5_isPart_148 rfl (lv_at hl 1 rfl) ?_
                refine o_bipush (k := 57) hx hb dX5_isPart_149 (by decide) ?_
                refine o_wi (va_runV (As := [.int (nI 57)]) (rest := []) ⟨hx, hb, hml, hown, hts⟩ (k_X5_isDigit l D cI cR cS cL H.size q (va_up (va_up v 0 (va_up (v 0) 3 ((v 0 3) + 3))) 4 (va_up (va_up (v 4) (3 * (v 0 5)) (v 3 (v 0 3))) (3 * (v 0 5) + 1) ((v 3 ((v 0 3) + 1)) - 48))) 57 (by show ((v 0 3) + 3) < 2 ^ 31; first | assumption | omega) (by show v 0 1 ≤ 60; first | assumption | omega) (by show ∀ k, v 3 k < 2 ^ 31; first | assumption | omega) (by show 57 < 2 ^ 31; first | assumption | omega)) (cwV 1 hts gX5_isPart_X5_isDigit rfl rfl rfl (by decide +kernel) ⟨Nat.le_of_ble_eq_true rfl, Nat.le_of_ble_eq_true rfl⟩) (o_v (o_pB hK hN hP hD) (va_recv hK hP (ci := 5) (q0 := 0) rfl rfl)) rfl rfl hl.1 rfl (lv_room (Nat.le_of_ble_eq_true rfl)) dX5_isPart_151 ⟨Nat.zero_le _, Nat.zero_le _⟩) hP hD hS hA [0, 1, 2, 3, 4] (by decide) rfl (fun _ => rfl) (fun r_53 _ H locs e_52 hP hD hS => ?_)
                have e_52 : r_53 = nI (bn (((v 0 3) + 3) < v 0 1 ∧ 48 ≤ v 3 (((v 0 3) + 3)) ∧ v 3 (((v 0 3) + 3)) ≤ 57)) := e_52
                subst e_52
                have hP : va_P D vwCl (wM q cI (va_up (va_up v 0 (if ((v 0 3) + 3) < v 0 1 ∧ 48 ≤ v 3 (((v 0 3) + 3)) ∧ v 3 (((v 0 3) + 3)) ≤ 57 then (va_up (va_up (v 0) 3 ((v 0 3) + 3)) 3 ((v 0 3) + 4)) else (va_up (va_up (v 0) 3 ((v 0 3) + 3)) 4 (bn (((v 0 3) + 3) < v 0 1))))) 4 (va_up (va_up (v 4) (3 * (v 0 5)) (v 3 (v 0 3))) (3 * (v 0 5) + 1) ((v 3 ((v 0 3) + 1)) - 48)))) H := hP
                have hD : va_D A (wM q cI (va_up (va_up v 0 (if ((v 0 3) + 3) < v 0 1 ∧ 48 ≤ v 3 (((v 0 3) + 3)) ∧ v 3 (((v 0 3) + 3)) ≤ 57 then (va_up (va_up (v 0) 3 ((v 0 3) + 3)) 3 ((v 0 3) + 4)) else (va_up (va_up (v 0) 3 ((v 0 3) + 3)) 4 (bn (((v 0 3) + 3) < v 0 1))))) 4 (va_up (va_up (v 4) (3 * (v 0 5)) (v 3 (v 0 3))) (3 * (v 0 5) + 1) ((v 3 ((v 0 3) + 1)) - 48)))) := hD
                refine o_ifnz (tgt := 159) hx hb dX5_isPart_154 (by decide) (fun c_54 => ?_) (fun c_54 => ?_)
                · skip
                  rw [if_pos c_54] at hP hD
                  have hP : va_P D vwCl (wM q cI (va_up (va_up v 0 (va_up (v 0) 3 ((v 0 3) + 4))) 4 (va_up (va_up (v 4) (3 * (v 0 5)) (v 3 (v 0 3))) (3 * (v 0 5) + 1) ((v 3 ((v 0 3) + 1)) - 48)))) H := hP
                  have hD : va_D A (wM q cI (va_up (va_up v 0 (va_up (v 0) 3 ((v 0 3) + 4))) 4 (va_up (va_up (v 4) (3 * (v 0 5)) (v 3 (v 0 3))) (3 * (v 0 5) + 1) ((v 3 ((v 0 3) + 1)) - 48)))) := hD
                  refine lv_aload_n hx hb dX5_isPart_159 rfl (lv_at hl 1 rfl) ?_
                  refine va_get (D := D) (ci := 5) (v := .ref (q 4)) (C := RX5) (T := TX5) (N := 10) hx hb hts inX5_isPart_X5 hown hK hP 0 rfl rfl 8 (by decide) (hts (.fieldLink RX5 19 "OddNoticeModel" "told" "[I") (List.mem_of_getElem? (i := 3) (by decide +kernel))) (fun _ h9 => h9) rfl dX5_isPart_160 ?_
                  refine o_const (k := 3) hx hb dX5_isPart_163 (by decide) ?_
                  refine lv_aload_n hx hb dX5_isPart_164 rfl (lv_at hl 1 rfl) ?_
                  refine va_get (D := D) (ci := 5) (v := .int (nI (v 0 5))) (C := RX5) (T := TX5) (N := 10) hx hb hts inX5_isPart_X5 hown hK hP 0 rfl rfl 9 (by decide) (hts (.fieldLink RX5 106 "OddNoticeModel" "tolds" "I") (List.mem_of_getElem? (i := 4) (by decide +kernel))) (fun _ h9 => h9) rfl dX5_isPart_165 ?_
                  refine o_imul (a := 3) (b := (v 0 5)) (k := (3 * (v 0 5))) hx hb dX5_isPart_168 rfl ?_
                  refine o_const (k := 2) hx hb dX5_isPart_169 (by decide) ?_
                  refine o_iadd (a := (3 * (v 0 5))) (b := 2) (k := (3 * (v 0 5) + 2)) hx hb dX5_isPart_170 rfl ?_
                  refine o_bipush (k := 10) hx hb dX5_isPart_171 (by decide) ?_
                  refine lv_aload_n hx hb dX5_isPart_173 rfl (lv_at hl 1 rfl) ?_
                  refine va_get (D := D) (ci := 5) (v := .ref (q 3)) (C := RX5) (T := TX5) (N := 10) hx hb hts inX5_isPart_X5 hown hK hP 0 rfl rfl 3 (by decide) (hts (.fieldLink RX5 16 "OddNoticeModel" "text" "[I") (List.mem_of_getElem? (i := 1) (by decide +kernel))) (fun _ h9 => h9) rfl dX5_isPart_174 ?_
                  refine lv_aload_n hx hb dX5_isPart_177 rfl (lv_at hl 1 rfl) ?_
                  refine va_get (D := D) (ci := 5) (v := .int (nI ((v 0 3) + 4))) (C := RX5) (T := TX5) (N := 10) hx hb hts inX5_isPart_X5 hown hK hP 0 rfl rfl 6 (by decide) (hts (.fieldLink RX5 89 "OddNoticeModel" "at" "I") (List.mem_of_getElem? (i := 2) (by decide +kernel))) (fun _ h9 => h9) rfl dX5_isPart_178 ?_
                  refine o_const (k := 2) hx hb dX5_isPart_181 (by decide) ?_
                  refine o_isub (a := ((v 0 3) + 4)) (b := 2) (k := ((v 0 3) + 2)) hx hb dX5_isPart_182 (by omega) (by omega) ?_
                  refine o_iald (v := nI (v 3 ((v 0 3) + 2))) hx hb hK hP 3 0 rfl rfl (by omega) (Nat.le_of_ble_eq_true rfl) rfl dX5_isPart_183 ?_
                  have f_55 := ht ((v 0 3) + 2)
                  refine o_bipush (k := 48) hx hb dX5_isPart_184 (by decide) ?_
                  refine o_isub (a := (v 3 ((v 0 3) + 2))) (b := 48) (k := ((v 3 ((v 0 3) + 2)) - 48)) hx hb dX5_isPart_186 (by omega) rfl ?_
                  refine o_imul (a := 10) (b := ((v 3 ((v 0 3) + 2)) - 48)) (k := (10 * ((v 3 ((v 0 3) + 2)) - 48))) hx hb dX5_isPart_187 rfl ?_
                  refine lv_aload_n hx hb dX5_isPart_188 rfl (lv_at hl 1 rfl) ?_
                  refine va_get (D := D) (ci := 5) (v := .ref (q 3)) (C := RX5) (T := TX5) (N := 10) hx hb hts inX5_isPart_X5 hown hK hP 0 rfl rfl 3 (by decide) (hts (.fieldLink RX5 16 "OddNoticeModel" "text" "[I") (List.mem_of_getElem? (i := 1) (by decide +kernel))) (fun _ h9 => h9) rfl dX5_isPart_189 ?_
                  refine lv_aload_n hx hb dX5_isPart_192 rfl (lv_at hl 1 rfl) ?_
                  refine va_get (D := D) (ci := 5) (v := .int (nI ((v 0 3) + 4))) (C := RX5) (T := TX5) (N := 10) hx hb hts inX5_isPart_X5 hown hK hP 0 rfl rfl 6 (by decide) (hts (.fieldLink RX5 89 "OddNoticeModel" "at" "I") (List.mem_of_getElem? (i := 2) (by decide +kernel))) (fun _ h9 => h9) rfl dX5_isPart_193 ?_
                  refine o_const (k := 1) hx hb dX5_isPart_196 (by decide) ?_
                  refine o_isub (a := ((v 0 3) + 4)) (b := 1) (k := ((v 0 3) + 3)) hx hb dX5_isPart_197 (by omega) (by omega) ?_
                  refine o_iald (v := nI (v 3 ((v 0 3) + 3))) hx hb hK hP 3 0 rfl rfl (by omega) (Nat.le_of_ble_eq_true rfl) rfl dX5_isPart_198 ?_
                  have f_56 := ht ((v 0 3) + 3)
                  refine o_iadd (a := (10 * ((v 3 ((v 0 3) + 2)) - 48))) (b := (v 3 ((v 0 3) + 3))) (k := (10 * ((v 3 ((v 0 3) + 2)) - 48) + (v 3 ((v 0 3) + 3)))) hx hb dX5_isPart_199 rfl ?_
                  refine o_bipush (k := 48) hx hb dX5_isPart_200 (by decide) ?_
                  refine o_isub (a := (10 * ((v 3 ((v 0 3) + 2)) - 48) + (v 3 ((v 0 3) + 3)))) (b := 48) (k := (10 * ((v 3 ((v 0 3) + 2)) - 48) + (v 3 ((v 0 3) + 3)) - 48)) hx hb dX5_isPart_202 (by omega) rfl ?_
                  refine o_iast (g := (va_up (va_up (v 4) (3 * (v 0 5)) (v 3 (v 0 3))) (3 * (v 0 5) + 1) ((v 3 ((v 0 3) + 1)) - 48))) hx hb hK hP hD hS 4 0 rfl rfl (by omega) (Nat.le_of_ble_eq_true rfl) dX5_isPart_203 (fun H locs hP hD hS => ?_)
                  have hP : va_P D vwCl (wM q cI (va_up (va_up v 0 (va_up (v 0) 3 ((v 0 3) + 4))) 4 (va_up (va_up (va_up (v 4) (3 * (v 0 5)) (v 3 (v 0 3))) (3 * (v 0 5) + 1) ((v 3 ((v 0 3) + 1)) - 48)) (3 * (v 0 5) + 2) (10 * ((v 3 ((v 0 3) + 2)) - 48) + (v 3 ((v 0 3) + 3)) - 48)))) H := hP
                  have hD : va_D A (wM q cI (va_up (va_up v 0 (va_up (v 0) 3 ((v 0 3) + 4))) 4 (va_up (va_up (va_up (v 4) (3 * (v 0 5)) (v 3 (v 0 3))) (3 * (v 0 5) + 1) ((v 3 ((v 0 3) + 1)) - 48)) (3 * (v 0 5) + 2) (10 * ((v 3 ((v 0 3) + 2)) - 48) + (v 3 ((v 0 3) + 3)) - 48)))) := hD
                  refine o_const (k := 1) hx hb dX5_isPart_204 (by decide) ?_
                  have w_57 : (wM q cI (va_up (va_up v 0 (va_up (va_up (v 0) 3 (m_pt (v 3) (v 0 1) (v 0 5) (v 0 3) (v 0 4) (v 4)).1) 4 (m_pt (v 3) (v 0 1) (v 0 5) (v 0 3) (v 0 4) (v 4)).2.1)) 4 (m_pt (v 3) (v 0 1) (v 0 5) (v 0 3) (v 0 4) (v 4)).2.2.1)) = (wM q cI (va_up (va_up v 0 (va_up (v 0) 3 ((v 0 3) + 4))) 4 (va_up (va_up (va_up (v 4) (3 * (v 0 5)) (v 3 (v 0 3))) (3 * (v 0 5) + 1) ((v 3 ((v 0 3) + 1)) - 48)) (3 * (v 0 5) + 2) (10 * ((v 3 ((v 0 3) + 2)) - 48) + (v 3 ((v 0 3) + 3)) - 48)))) := (by unfold m_pt; rw [if_pos (by omega), if_pos (by unfold m_hi; (repeat' split) <;> omega), if_pos (by omega), if_pos (by omega), if_pos (by omega)]; first | done | rfl)
                  rw [← w_57] at hP
                  exact W.zret (v := nI 1) hx hb hrt rfl (fun t ht hW => ⟨⟨_, (), rfl, (congrArg nI (by unfold m_pt; rw [if_pos (by omega), if_pos (by unfold m_hi; (repeat' split) <;> omega), if_pos (by omega), if_pos (by omega), if_pos (by omega)])), by show va_P D vwCl _ t.heap; rw [ht]; exact hP⟩, hS.F ht⟩) hS.2.2 dX5_isPart_205
                · skip
                  rw [if_neg c_54] at hP hD
                  have hP : va_P D vwCl (wM q cI (va_up (va_up v 0 (va_up (va_up (v 0) 3 ((v 0 3) + 3)) 4 (bn (((v 0 3) + 3) < v 0 1)))) 4 (va_up (va_up (v 4) (3 * (v 0 5)) (v 3 (v 0 3))) (3 * (v 0 5) + 1) ((v 3 ((v 0 3) + 1)) - 48)))) H := hP
                  have hD : va_D A (wM q cI (va_up (va_up v 0 (va_up (va_up (v 0) 3 ((v 0 3) + 3)) 4 (bn (((v 0 3) + 3) < v 0 1)))) 4 (va_up (va_up (v 4) (3 * (v 0 5)) (v 3 (v 0 3))) (3 * (v 0 5) + 1) ((v 3 ((v 0 3) + 1)) - 48)))) := hD
                  refine o_const (k := 0) hx hb dX5_isPart_157 (by decide) ?_
                  have w_58 : (wM q cI (va_up (va_up v 0 (va_up (va_up (v 0) 3 (m_pt (v 3) (v 0 1) (v 0 5) (v 0 3) (v 0 4) (v 4)).1) 4 (m_pt (v 3) (v 0 1) (v 0 5) (v 0 3) (v 0 4) (v 4)).2.1)) 4 (m_pt (v 3) (v 0 1) (v 0 5) (v 0 3) (v 0 4) (v 4)).2.2.1)) = (wM q cI (va_up (va_up v 0 (va_up (va_up (v 0) 3 ((v 0 3) + 3)) 4 (bn (((v 0 3) + 3) < v 0 1)))) 4 (va_up (va_up (v 4) (3 * (v 0 5)) (v 3 (v 0 3))) (3 * (v 0 5) + 1) ((v 3 ((v 0 3) + 1)) - 48)))) := (by unfold m_pt; rw [if_pos (by omega), if_pos (by unfold m_hi; (repeat' split) <;> omega), if_pos (by omega), if_pos (by omega), if_neg (by omega)]; first | done | rfl)
                  rw [← w_58] at hP
                  exact W.zret (v := nI 0) hx hb hrt rfl (fun t ht hW => ⟨⟨_, (), rfl, (congrArg nI (by unfold m_pt; rw [if_pos (by omega), if_pos (by unfold m_hi; (repeat' split) <;> omega), if_pos (by omega), if_pos (by omega), if_neg (by omega)])), by show va_P D vwCl _ t.heap; rw [ht]; exact hP⟩, hS.F ht⟩) hS.2.2 dX5_isPart_158
          · skip
            rw [if_neg c_44] at hP hD
            have hP : va_P D vwCl (wM q cI (va_up v 0 (va_up (va_up (v 0) 3 ((v 0 3) + 1)) 4 (bn (((v 0 3) + 1) < v 0 1))))) H := hP
            have hD : va_D A (wM q cI (va_up v 0 (va_up (va_up (v 0) 3 ((v 0 3) + 1)) 4 (bn (((v 0 3) + 1) < v 0 1))))) := hD
            refine o_const (k := 0) hx hb dX5_isPart_92 (by decide) ?_
            have w_59 : (wM q cI (va_up (va_up v 0 (va_up (va_up (v 0) 3 (m_pt (v 3) (v 0 1) (v 0 5) (v 0 3) (v 0 4) (v 4)).1) 4 (m_pt (v 3) (v 0 1) (v 0 5) (v 0 3) (v 0 4) (v 4)).2.1)) 4 (m_pt (v 3) (v 0 1) (v 0 5) (v 0 3) (v 0 4) (v 4)).2.2.1)) = (wM q cI (va_up v 0 (va_up (va_up (v 0) 3 ((v 0 3) + 1)) 4 (bn (((v 0 3) + 1) < v 0 1))))) := (by unfold m_pt; rw [if_pos (by omega), if_neg (by unfold m_hi; (repeat' split) <;> omega)]; first | done | rfl)
            rw [← w_59] at hP
            exact W.zret (v := nI 0) hx hb hrt rfl (fun t ht hW => ⟨⟨_, (), rfl, (congrArg nI (by unfold m_pt; rw [if_pos (by omega), if_neg (by unfold m_hi; (repeat' split) <;> omega)])), by show va_P D vwCl _ t.heap; rw [ht]; exact hP⟩, hS.F ht⟩) hS.2.2 dX5_isPart_93
    · skip
      refine o_bipush (k := 52) hx hb dX5_isPart_62 (by decide) ?_
      refine lv_goto (tgt := 86) hx hb dX5_isPart_64 (by decide) ?_
      refine o_wi (va_runV (As := [.int (nI 52)]) (rest := []) ⟨hx, hb, hml, hown, hts⟩ (k_X5_isDigit l D cI cR cS cL H.size q (va_up v 0 (va_up (v 0) 3 ((v 0 3) + 1))) 52 (by show ((v 0 3) + 1) < 2 ^ 31; first | assumption | omega) (by show v 0 1 ≤ 60; first | assumption | omega) (by show ∀ k, v 3 k < 2 ^ 31; first | assumption | omega) (by show 52 < 2 ^ 31; first | assumption | omega)) (cwV 1 hts gX5_isPart_X5_isDigit rfl rfl rfl (by decide +kernel) ⟨Nat.le_of_ble_eq_true rfl, Nat.le_of_ble_eq_true rfl⟩) (o_v (o_pB hK hN hP hD) (va_recv hK hP (ci := 5) (q0 := 0) rfl rfl)) rfl rfl hl.1 rfl (lv_room (Nat.le_of_ble_eq_true rfl)) dX5_isPart_86 ⟨Nat.zero_le _, Nat.zero_le _⟩) hP hD hS hA [0, 1, 2, 3, 4] (by decide) rfl (fun _ => rfl) (fun r_61 _ H locs e_60 hP hD hS => ?_)
      have e_60 : r_61 = nI (bn (((v 0 3) + 1) < v 0 1 ∧ 48 ≤ v 3 (((v 0 3) + 1)) ∧ v 3 (((v 0 3) + 1)) ≤ 52)) := e_60
      subst e_60
      have hP : va_P D vwCl (wM q cI (va_up v 0 (if ((v 0 3) + 1) < v 0 1 ∧ 48 ≤ v 3 (((v 0 3) + 1)) ∧ v 3 (((v 0 3) + 1)) ≤ 52 then (va_up (va_up (v 0) 3 ((v 0 3) + 1)) 3 ((v 0 3) + 2)) else (va_up (va_up (v 0) 3 ((v 0 3) + 1)) 4 (bn (((v 0 3) + 1) < v 0 1)))))) H := hP
      have hD : va_D A (wM q cI (va_up v 0 (if ((v 0 3) + 1) < v 0 1 ∧ 48 ≤ v 3 (((v 0 3) + 1)) ∧ v 3 (((v 0 3) + 1)) ≤ 52 then (va_up (va_up (v 0) 3 ((v 0 3) + 1)) 3 ((v 0 3) + 2)) else (va_up (va_up (v 0) 3 ((v 0 3) + 1)) 4 (bn (((v 0 3) + 1) < v 0 1)))))) := hD
      refine o_ifnz (tgt := 94) hx hb dX5_isPart_89 (by decide) (fun c_62 => ?_) (fun c_62 => ?_)
      · skip
        rw [if_pos c_62] at hP hD
        have hP : va_P D vwCl (wM q cI (va_up v 0 (va_up (v 0) 3 ((v 0 3) + 2)))) H := hP
        have hD : va_D A (wM q cI (va_up v 0 (va_up (v 0) 3 ((v 0 3) + 2)))) := hD
        refine lv_aload_n hx hb dX5_isPart_94 rfl (lv_at hl 1 rfl) ?_
        refine va_get (D := D) (ci := 5) (v := .ref (q 4)) (C := RX5) (T := TX5) (N := 10) hx hb hts inX5_isPart_X5 hown hK hP 0 rfl rfl 8 (by decide) (hts (.fieldLink RX5 19 "OddNoticeModel" "told" "[I") (List.mem_of_getElem? (i := 3) (by decide +kernel))) (fun _ h9 => h9) rfl dX5_isPart_95 ?_
        refine o_const (k := 3) hx hb dX5_isPart_98 (by decide) ?_
        refine lv_aload_n hx hb dX5_isPart_99 rfl (lv_at hl 1 rfl) ?_
        refine va_get (D := D) (ci := 5) (v := .int (nI (v 0 5))) (C := RX5) (T := TX5) (N := 10) hx hb hts inX5_isPart_X5 hown hK hP 0 rfl rfl 9 (by decide) (hts (.fieldLink RX5 106 "OddNoticeModel" "tolds" "I") (List.mem_of_getElem? (i := 4) (by decide +kernel))) (fun _ h9 => h9) rfl dX5_isPart_100 ?_
        refine o_imul (a := 3) (b := (v 0 5)) (k := (3 * (v 0 5))) hx hb dX5_isPart_103 rfl ?_
        refine lv_iload_n hx hb dX5_isPart_104 rfl (lv_at hl 0 rfl) ?_
        refine o_iast (g := (v 4)) hx hb hK hP hD hS 4 0 rfl rfl (by omega) (Nat.le_of_ble_eq_true rfl) dX5_isPart_105 (fun H locs hP hD hS => ?_)
        have hP : va_P D vwCl (wM q cI (va_up (va_up v 0 (va_up (v 0) 3 ((v 0 3) + 2))) 4 (va_up (v 4) (3 * (v 0 5)) (v 3 (v 0 3))))) H := hP
        have hD : va_D A (wM q cI (va_up (va_up v 0 (va_up (v 0) 3 ((v 0 3) + 2))) 4 (va_up (v 4) (3 * (v 0 5)) (v 3 (v 0 3))))) := hD
        refine lv_aload_n hx hb dX5_isPart_106 rfl (lv_at hl 1 rfl) ?_
        refine va_get (D := D) (ci := 5) (v := .ref (q 4)) (C := RX5) (T := TX5) (N := 10) hx hb hts inX5_isPart_X5 hown hK hP 0 rfl rfl 8 (by decide) (hts (.fieldLink RX5 19 "OddNoticeModel" "told" "[I") (List.mem_of_getElem? (i := 3) (by decide +kernel))) (fun _ h9 => h9) rfl dX5_isPart_107 ?_
        refine o_const (k := 3) hx hb dX5_isPart_110 (by decide) ?_
        refine lv_aload_n hx hb dX5_isPart_111 rfl (lv_at hl 1 rfl) ?_
        refine va_get (D := D) (ci := 5) (v := .int (nI (v 0 5))) (C := RX5) (T := TX5) (N := 10) hx hb hts inX5_isPart_X5 hown hK hP 0 rfl rfl 9 (by decide) (hts (.fieldLink RX5 106 "OddNoticeModel" "tolds" "I") (List.mem_of_getElem? (i := 4) (by decide +kernel))) (fun _ h9 => h9) rfl dX5_isPart_112 ?_
        refine o_imul (a := 3) (b := (v 0 5)) (k := (3 * (v 0 5))) hx hb dX5_isPart_115 rfl ?_
        refine o_const (k := 1) hx hb dX5_isPart_116 (by decide) ?_
        refine o_iadd (a := (3 * (v 0 5))) (b := 1) (k := (3 * (v 0 5) + 1)) hx hb dX5_isPart_117 rfl ?_
        refine lv_aload_n hx hb dX5_isPart_118 rfl (lv_at hl 1 rfl) ?_
        refine va_get (D := D) (ci := 5) (v := .ref (q 3)) (C := RX5) (T := TX5) (N := 10) hx hb hts inX5_isPart_X5 hown hK hP 0 rfl rfl 3 (by decide) (hts (.fieldLink RX5 16 "OddNoticeModel" "text" "[I") (List.mem_of_getElem? (i := 1) (by decide +kernel))) (fun _ h9 => h9) rfl dX5_isPart_119 ?_
        refine lv_aload_n hx hb dX5_isPart_122 rfl (lv_at hl 1 rfl) ?_
        refine va_get (D := D) (ci := 5) (v := .int (nI ((v 0 3) + 2))) (C := RX5) (T := TX5) (N := 10) hx hb hts inX5_isPart_X5 hown hK hP 0 rfl rfl 6 (by decide) (hts (.fieldLink RX5 89 "OddNoticeModel" "at" "I") (List.mem_of_getElem? (i := 2) (by decide +kernel))) (fun _ h9 => h9) rfl dX5_isPart_123 ?_
        refine o_const (k := 1) hx hb dX5_isPart_126 (by decide) ?_
        refine o_isub (a := ((v 0 3) + 2)) (b := 1) (k := ((v 0 3) + 1)) hx hb dX5_isPart_127 (by omega) (by omega) ?_
        refine o_iald (v := nI (v 3 ((v 0 3) + 1))) hx hb hK hP 3 0 rfl rfl (by omega) (Nat.le_of_ble_eq_true rfl) rfl dX5_isPart_128 ?_
        have f_63 := ht ((v 0 3) + 1)
        refine o_bipush (k := 48) hx hb dX5_isPart_129 (by decide) ?_
        refine o_isub (a := (v 3 ((v 0 3) + 1))) (b := 48) (k := ((v 3 ((v 0 3) + 1)) - 48)) hx hb dX5_isPart_131 (by omega) rfl ?_
        refine o_iast (g := (va_up (v 4) (3 * (v 0 5)) (v 3 (v 0 3)))) hx hb hK hP hD hS 4 0 rfl rfl (by omega) (Nat.le_of_ble_eq_true rfl) dX5_isPart_132 (fun H locs hP hD hS => ?_)
        have hP : va_P D vwCl (wM q cI (va_up (va_up v 0 (va_up (v 0) 3 ((v 0 3) + 2))) 4 (va_up (va_up (v 4) (3 * (v 0 5)) (v 3 (v 0 3))) (3 * (v 0 5) + 1) ((v 3 ((v 0 3) + 1)) - 48)))) H := hP
        have hD : va_D A (wM q cI (va_up (va_up v 0 (va_up (v 0) 3 ((v 0 3) + 2))) 4 (va_up (va_up (v 4) (3 * (v 0 5)) (v 3 (v 0 3))) (3 * (v 0 5) + 1) ((v 3 ((v 0 3) + 1)) - 48)))) := hD
        refine lv_iload_n hx hb dX5_isPart_133 rfl (lv_at hl 0 rfl) ?_
        refine o_bipush (k := 119) hx hb dX5_isPart_134 (by decide) ?_
        refine o_icmp_ne (tgt := 204) hx hb dX5_isPart_136 (by decide) (by omega) (Nat.le_of_ble_eq_true rfl) (fun c_64 => ?_) (fun c_64 => ?_)
        · skip
          refine o_const (k := 1) hx hb dX5_isPart_204 (by decide) ?_
          have w_65 : (wM q cI (va_up (va_up v 0 (va_up (va_up (v 0) 3 (m_pt (v 3) (v 0 1) (v 0 5) (v 0 3) (v 0 4) (v 4)).1) 4 (m_pt (v 3) (v 0 1) (v 0 5) (v 0 3) (v 0 4) (v 4)).2.1)) 4 (m_pt (v 3) (v 0 1) (v 0 5) (v 0 3) (v 0 4) (v 4)).2.2.1)) = (wM q cI (va_up (va_up v 0 (va_up (v 0) 3 ((v 0 3) + 2))) 4 (va_up (va_up (v 4) (3 * (v 0 5)) (v 3 (v 0 3))) (3 * (v 0 5) + 1) ((v 3 ((v 0 3) + 1)) - 48)))) := (by unfold m_pt; rw [if_pos (by omega), if_pos (by unfold m_hi; (repeat' split) <;> omega), if_neg (by omega)]; first | done | rfl)
          rw [← w_65] at hP
          exact W.zret (v := nI 1) hx hb hrt rfl (fun t ht hW => ⟨⟨_, (), rfl, (congrArg nI (by unfold m_pt; rw [if_pos (by omega), if_pos (by unfold m_hi; (repeat' split) <;> omega), if_neg (by omega)])), by show va_P D vwCl _ t.heap; rw [ht]; exact hP⟩, hS.F ht⟩) hS.2.2 dX5_isPart_205
        · skip
          refine lv_aload_n hx hb dX5_isPart_139 rfl (lv_at hl 1 rfl) ?_
          refine o_bipush (k := 57) hx hb dX5_isPart_140 (by decide) ?_
          refine o_wi (va_runV (As := [.int (nI 57)]) (rest := []) ⟨hx, hb, hml, hown, hts⟩ (k_X5_isDigit l D cI cR cS cL H.size q (va_up (va_up v 0 (va_up (v 0) 3 ((v 0 3) + 2))) 4 (va_up (va_up (v 4) (3 * (v 0 5)) (v 3 (v 0 3))) (3 * (v 0 5) + 1) ((v 3 ((v 0 3) + 1)) - 48))) 57 (by show ((v 0 3) + 2) < 2 ^ 31; first | assumption | omega) (by show v 0 1 ≤ 60; first | assumption | omega) (by show ∀ k, v 3 k < 2 ^ 31; first | assumption | omega) (by show 57 < 2 ^ 31; first | assumption | omega)) (cwV 1 hts gX5_isPart_X5_isDigit rfl rfl rfl (by decide +kernel) ⟨Nat.le_of_ble_eq_true rfl, Nat.le_of_ble_eq_true rfl⟩) (o_v (o_pB hK hN hP hD) (va_recv hK hP (ci := 5) (q0 := 0) rfl rfl)) rfl rfl hl.1 rfl (lv_room (Nat.le_of_ble_eq_true rfl)) dX5_isPart_142 ⟨Nat.zero_le _, Nat.zero_le _⟩) hP hD hS hA [0, 1, 2, 3, 4] (by decide) rfl (fun _ => rfl) (fun r_67 _ H locs e_66 hP hD hS => ?_)
          have e_66 : r_67 = nI (bn (((v 0 3) + 2) < v 0 1 ∧ 48 ≤ v 3 (((v 0 3) + 2)) ∧ v 3 (((v 0 3) + 2)) ≤ 57)) := e_66
          subst e_66
          have hP : va_P D vwCl (wM q cI (va_up (va_up v 0 (if ((v 0 3) + 2) < v 0 1 ∧ 48 ≤ v 3 (((v 0 3) + 2)) ∧ v 3 (((v 0 3) + 2)) ≤ 57 then (va_up (va_up (v 0) 3 ((v 0 3) + 2)) 3 ((v 0 3) + 3)) else (va_up (va_up (v 0) 3 ((v 0 3) + 2)) 4 (bn (((v 0 3) + 2) < v 0 1))))) 4 (va_up (va_up (v 4) (3 * (v 0 5)) (v 3 (v 0 3))) (3 * (v 0 5) + 1) ((v 3 ((v 0 3) + 1)) - 48)))) H := hP
          have hD : va_D A (wM q cI (va_up (va_up v 0 (if ((v 0 3) + 2) < v 0 1 ∧ 48 ≤ v 3 (((v 0 3) + 2)) ∧ v 3 (((v 0 3) + 2)) ≤ 57 then (va_up (va_up (v 0) 3 ((v 0 3) + 2)) 3 ((v 0 3) + 3)) else (va_up (va_up (v 0) 3 ((v 0 3) + 2)) 4 (bn (((v 0 3) + 2) < v 0 1))))) 4 (va_up (va_up (v 4) (3 * (v 0 5)) (v 3 (v 0 3))) (3 * (v 0 5) + 1) ((v 3 ((v 0 3) + 1)) - 48)))) := hD
          refine o_ifz (tgt := 157) hx hb dX5_isPart_145 (by decide) (fun c_68 => ?_) (fun c_68 => ?_)
          · skip
            rw [if_neg c_68] at hP hD
            have hP : va_P D vwCl (wM q cI (va_up (va_up v 0 (va_up (va_up (v 0) 3 ((v 0 3) + 2)) 4 (bn (((v 0 3) + 2) < v 0 1)))) 4 (va_up (va_up (v 4) (3 * (v 0 5)) (v 3 (v 0 3))) (3 * (v 0 5) + 1) ((v 3 ((v 0 3) + 1)) - 48)))) H := hP
            have hD : va_D A (wM q cI (va_up (va_up v 0 (va_up (va_up (v 0) 3 ((v 0 3) + 2)) 4 (bn (((v 0 3) + 2) < v 0 1)))) 4 (va_up (va_up (v 4) (3 * (v 0 5)) (v 3 (v 0 3))) (3 * (v 0 5) + 1) ((v 3 ((v 0 3) + 1)) - 48)))) := hD
            refine o_const (k := 0) hx hb dX5_isPart_157 (by decide) ?_
            have w_69 : (wM q cI (va_up (va_up v 0 (va_up (va_up (v 0) 3 (m_pt (v 3) (v 0 1) (v 0 5) (v 0 3) (v 0 4) (v 4)).1) 4 (m_pt (v 3) (v 0 1) (v 0 5) (v 0 3) (v 0 4) (v 4)).2.1)) 4 (m_pt (v 3) (v 0 1) (v 0 5) (v 0 3) (v 0 4) (v 4)).2.2.1)) = (wM q cI (va_up (va_up v 0 (va_up (va_up (v 0) 3 ((v 0 3) + 2)) 4 (bn (((v 0 3) + 2) < v 0 1)))) 4 (va_up (va_up (v 4) (3 * (v 0 5)) (v 3 (v 0 3))) (3 * (v 0 5) + 1) ((v 3 ((v 0 3) + 1)) - 48)))) := (by unfold m_pt; rw [if_pos (by omega), if_pos (by unfold m_hi; (repeat' split) <;> omega), if_pos (by omega), if_neg (by omega)]; first | done | rfl)
            rw [← w_69] at hP
            exact W.zret (v := nI 0) hx hb hrt rfl (fun t ht hW => ⟨⟨_, (), rfl, (congrArg nI (by unfold m_pt; rw [if_pos (by omega), if_pos (by unfold m_hi; (repeat' split) <;> omega), if_pos (by omega), if_neg (by omega)])), by show va_P D vwCl _ t.heap; rw [ht]; exact hP⟩, hS.F ht⟩) hS.2.2 dX5_isPart_158
          · skip
            rw [if_pos c_68] at hP hD
            have hP : va_P D vwCl (wM q cI (va_up (va_up v 0 (va_up (v 0) 3 ((v 0 3) + 3))) 4 (va_up (va_up (v 4) (3 * (v 0 5)) (v 3 (v 0 3))) (3 * (v 0 5) + 1) ((v 3 ((v 0 3) + 1)) - 48)))) H := hP
            have hD : va_D A (wM q cI (va_up (va_up v 0 (va_up (v 0) 3 ((v 0 3) + 3))) 4 (va_up (va_up (v 4) (3 * (v 0 5)) (v 3 (v 0 3))) (3 * (v 0 5) + 1) ((v 3 ((v 0 3) + 1)) - 48)))) := hD
            refine lv_aload_n hx hb dX5_isPart_148 rfl (lv_at hl 1 rfl) ?_
            refine o_bipush (k := 57) hx hb dX5_isPart_149 (by decide) ?_
            refine o_wi (va_runV (As := [.int (nI 57)]) (rest := []) ⟨hx, hb, hml, hown, hts⟩ (k_X5_isDigit l D cI cR cS cL H.size q (va_up (va_up v 0 (va_up (v 0) 3 ((v 0 3) + 3))) 4 (va_up (va_up (v 4) (3 * (v 0 5)) (v 3 (v 0 3))) (3 * (v 0 5) + 1) ((v 3 ((v 0 3) + 1)) - 48))) 57 (by show ((v 0 3) + 3) < 2 ^ 31; first | assumption | omega) (by show v 0 1 ≤ 60; first | assumption | omega) (by show ∀ k, v 3 k < 2 ^ 31; first | assumption | omega) (by show 57 < 2 ^ 31; first | assumption | omega)) (cwV 1 hts gX5_isPart_X5_isDigit rfl rfl rfl (by decide +kernel) ⟨Nat.le_of_ble_eq_true rfl, Nat.le_of_ble_eq_true rfl⟩) (o_v (o_pB hK hN hP hD) (va_recv hK hP (ci := 5) (q0 := 0) rfl rfl)) rfl rfl hl.1 rfl (lv_room (Nat.le_of_ble_eq_true rfl)) dX5_isPart_151 ⟨Nat.zero_le _, Nat.zero_le _⟩) hP hD hS hA [0, 1, 2, 3, 4] (by decide) rfl (fun _ => rfl) (fun r_71 _ H locs e_70 hP hD hS => ?_)
            have e_70 : r_71 = nI (bn (((v 0 3) + 3) < v 0 1 ∧ 48 ≤ v 3 (((v 0 3) + 3)) ∧ v 3 (((v 0 3) + 3)) ≤ 57)) := e_70
            subst e_70
            have hP : va_P D vwCl (wM q cI (va_up (va_up v 0 (if ((v 0 3) + 3) < v 0 1 ∧ 48 ≤ v 3 (((v 0 3) + 3)) ∧ v 3 (((v 0 3) + 3)) ≤ 57 then (va_up (va_up (v 0) 3 ((v 0 3) + 3)) 3 ((v 0 3) + 4)) else (va_up (va_up (v 0) 3 ((v 0 3) + 3)) 4 (bn (((v 0 3) + 3) < v 0 1))))) 4 (va_up (va_up (v 4) (3 * (v 0 5)) (v 3 (v 0 3))) (3 * (v 0 5) + 1) ((v 3 ((v 0 3) + 1)) - 48)))) H := hP
            have hD : va_D A (wM q cI (va_up (va_up v 0 (if ((v 0 3) + 3) < v 0 1 ∧ 48 ≤ v 3 (((v 0 3) + 3)) ∧ v 3 (((v 0 3) + 3)) ≤ 57 then (va_up (va_up (v 0) 3 ((v 0 3) + 3)) 3 ((v 0 3) + 4)) else (va_up (va_up (v 0) 3 ((v 0 3) + 3)) 4 (bn (((v 0 3) + 3) < v 0 1))))) 4 (va_up (va_up (v 4) (3 * (v 0 5)) (v 3 (v 0 3))) (3 * (v 0 5) + 1) ((v 3 ((v 0 3) + 1)) - 48)))) := hD
            refine o_ifnz (tgt := 159) hx hb dX5_isPart_154 (by decide) (fun c_72 => ?_) (fun c_72 => ?_)
            · skip
              rw [if_pos c_72] at hP hD
              have hP : va_P D vwCl (wM q cI (va_up (va_up v 0 (va_up (v 0) 3 ((v 0 3) + 4))) 4 (va_up (va_up (v 4) (3 * (v 0 5)) (v 3 (v 0 3))) (3 * (v 0 5) + 1) ((v 3 ((v 0 3) + 1)) - 48)))) H := hP
              have hD : va_D A (wM q cI (va_up (va_up v 0 (va_up (v 0) 3 ((v 0 3) + 4))) 4 (va_up (va_up (v 4) (3 * (v 0 5)) (v 3 (v 0 3))) (3 * (v 0 5) + 1) ((v 3 ((v 0 3) + 1)) - 48)))) := hD
              refine lv_aload_n hx hb dX5_isPart_159 rfl (lv_at hl 1 rfl) ?_
              refine va_get (D := D) (ci := 5) (v := .ref (q 4)) (C := RX5) (T := TX5) (N := 10) hx hb hts inX5_isPart_X5 hown hK hP 0 rfl rfl 8 (by decide) (hts (.fieldLink RX5 19 "OddNoticeModel" "told" "[I") (List.mem_of_getElem? (i := 3) (by decide +kernel))) (fun _ h9 => h9) rfl dX5_isPart_160 ?_
              refine o_const (k := 3) hx hb dX5_isPart_163 (by decide) ?_
              refine lv_aload_n hx hb dX5_isPart_164 rfl (lv_at hl 1 rfl) ?_
              refine va_get (D := D) (ci := 5) (v := .int (nI (v 0 5))) (C := RX5) (T := TX5) (N := 10) hx hb hts inX5_isPart_X5 hown hK hP 0 rfl rfl 9 (by decide) (hts (.fieldLink RX5 106 "OddNoticeModel" "tolds" "I") (List.mem_of_getElem? (i := 4) (by decide +kernel))) (fun _ h9 => h9) rfl dX5_isPart_165 ?_
              refine o_imul (a := 3) (b := (v 0 5)) (k := (3 * (v 0 5))) hx hb dX5_isPart_168 rfl ?_
              refine o_const (k := 2) hx hb dX5_isPart_169 (by decide) ?_
              refine o_iadd (a := (3 * (v 0 5))) (b := 2) (k := (3 * (v 0 5) + 2)) hx hb dX5_isPart_170 rfl ?_
              refine o_bipush (k := 10) hx hb dX5_isPart_171 (by decide) ?_
              refine lv_aload_n hx hb dX5_isPart_173 rfl (lv_at hl 1 rfl) ?_
              refine va_get (D := D) (ci := 5) (v := .ref (q 3)) (C := RX5) (T := TX5) (N := 10) hx hb hts inX5_isPart_X5 hown hK hP 0 rfl rfl 3 (by decide) (hts (.fieldLink RX5 16 "OddNoticeModel" "text" "[I") (List.mem_of_getElem? (i := 1) (by decide +kernel))) (fun _ h9 => h9) rfl dX5_isPart_174 ?_
              refine lv_aload_n hx hb dX5_isPart_177 rfl (lv_at hl 1 rfl) ?_
              refine va_get (D := D) (ci := 5) (v := .int (nI ((v 0 3) + 4))) (C := RX5) (T := TX5) (N := 10) hx hb hts inX5_isPart_X5 hown hK hP 0 rfl rfl 6 (by decide) (hts (.fieldLink RX5 89 "OddNoticeModel" "at" "I") (List.mem_of_getElem? (i := 2) (by decide +kernel))) (fun _ h9 => h9) rfl dX5_isPart_178 ?_
              refine o_const (k := 2) hx hb dX5_isPart_181 (by decide) ?_
              refine o_isub (a := ((v 0 3) + 4)) (b := 2) (k := ((v 0 3) + 2)) hx hb dX5_isPart_182 (by omega) (by omega) ?_
              refine o_iald (v := nI (v 3 ((v 0 3) + 2))) hx hb hK hP 3 0 rfl rfl (by omega) (Nat.le_of_ble_eq_true rfl) rfl dX5_isPart_183 ?_
              have f_73 := ht ((v 0 3) + 2)
              refine o_bipush (k := 48) hx hb dX5_isPart_184 (by decide) ?_
              refine o_isub (a := (v 3 ((v 0 3) + 2))) (b := 48) (k := ((v 3 ((v 0 3) + 2)) - 48)) hx hb dX5_isPart_186 (by omega) rfl ?_
              refine o_imul (a := 10) (b := ((v 3 ((v 0 3) + 2)) - 48)) (k := (10 * ((v 3 ((v 0 3) + 2)) - 48))) hx hb dX5_isPart_187 rfl ?_
              refine lv_aload_n hx hb dX5_isPart_188 rfl (lv_at hl 1 rfl) ?_
              refine va_get (D := D) (ci := 5) (v := .ref (q 3)) (C := RX5) (T := TX5) (N := 10) hx hb hts inX5_isPart_X5 hown hK hP 0 rfl rfl 3 (by decide) (hts (.fieldLink RX5 16 "OddNoticeModel" "text" "[I") (List.mem_of_getElem? (i := 1) (by decide +kernel))) (fun _ h9 => h9) rfl dX5_isPart_189 ?_
              refine lv_aload_n hx hb dX5_isPart_192 rfl (lv_at hl 1 rfl) ?_
              refine va_get (D := D) (ci := 5) (v := .int (nI ((v 0 3) + 4))) (C := RX5) (T := TX5) (N := 10) hx hb hts inX5_isPart_X5 hown hK hP 0 rfl rfl 6 (by decide) (hts (.fieldLink RX5 89 "OddNoticeModel" "at" "I") (List.mem_of_getElem? (i := 2) (by decide +kernel))) (fun _ h9 => h9) rfl dX5_isPart_193 ?_
              refine o_const (k := 1) hx hb dX5_isPart_196 (by decide) ?_
              refine o_isub (a := ((v 0 3) + 4)) (b := 1) (k := ((v 0 3) + 3)) hx hb dX5_isPart_197 (by omega) (by omega) ?_
              refine o_iald (v := nI (v 3 ((v 0 3) + 3))) hx hb hK hP 3 0 rfl rfl (by omega) (Nat.le_of_ble_eq_true rfl) rfl dX5_isPart_198 ?_
              have f_74 := ht ((v 0 3) + 3)
              refine o_iadd (a := (10 * ((v 3 ((v 0 3) + 2)) - 48))) (b := (v 3 ((v 0 3) + 3))) (k := (10 * ((v 3 ((v 0 3) + 2)) - 48) + (v 3 ((v 0 3) + 3)))) hx hb dX5_isPart_199 rfl ?_
              refine o_bipush (k := 48) hx hb dX5_isPart_200 (by decide) ?_
              refine o_isub (a := (10 * ((v 3 ((v 0 3) + 2)) - 48) + (v 3 ((v 0 3) + 3)))) (b := 48) (k := (10 * ((v 3 ((v 0 3) + 2)) - 48) + (v 3 ((v 0 3) + 3)) - 48)) hx hb dX5_isPart_202 (by omega) rfl ?_
              refine o_iast (g := (va_up (va_up (v 4) (3 * (v 0 5)) (v 3 (v 0 3))) (3 * (v 0 5) + 1) ((v 3 ((v 0 3) + 1)) - 48))) hx hb hK hP hD hS 4 0 rfl rfl (by omega) (Nat.le_of_ble_eq_true rfl) dX5_isPart_203 (fun H locs hP hD hS => ?_)
              have hP : va_P D vwCl (wM q cI (va_up (va_up v 0 (va_up (v 0) 3 ((v 0 3) + 4))) 4 (va_up (va_up (va_up (v 4) (3 * (v 0 5)) (v 3 (v 0 3))) (3 * (v 0 5) + 1) ((v 3 ((v 0 3) + 1)) - 48)) (3 * (v 0 5) + 2) (10 * ((v 3 ((v 0 3) + 2)) - 48) + (v 3 ((v 0 3) + 3)) - 48)))) H := hP
              have hD : va_D A (wM q cI (va_up (va_up v 0 (va_up (v 0) 3 ((v 0 3) + 4))) 4 (va_up (va_up (va_up (v 4) (3 * (v 0 5)) (v 3 (v 0 3))) (3 * (v 0 5) + 1) ((v 3 ((v 0 3) + 1)) - 48)) (3 * (v 0 5) + 2) (10 * ((v 3 ((v 0 3) + 2)) - 48) + (v 3 ((v 0 3) + 3)) - 48)))) := hD
              refine o_const (k := 1) hx hb dX5_isPart_204 (by decide) ?_
              have w_75 : (wM q cI (va_up (va_up v 0 (va_up (va_up (v 0) 3 (m_pt (v 3) (v 0 1) (v 0 5) (v 0 3) (v 0 4) (v 4)).1) 4 (m_pt (v 3) (v 0 1) (v 0 5) (v 0 3) (v 0 4) (v 4)).2.1)) 4 (m_pt (v 3) (v 0 1) (v 0 5) (v 0 3) (v 0 4) (v 4)).2.2.1)) = (wM q cI (va_up (va_up v 0 (va_up (v 0) 3 ((v 0 3) + 4))) 4 (va_up (va_up (va_up (v 4) (3 * (v 0 5)) (v 3 (v 0 3))) (3 * (v 0 5) + 1) ((v 3 ((v 0 3) + 1)) - 48)) (3 * (v 0 5) + 2) (10 * ((v 3 ((v 0 3) + 2)) - 48) + (v 3 ((v 0 3) + 3)) - 48)))) := (by unfold m_pt; rw [if_pos (by omega), if_pos (by unfold m_hi; (repeat' split) <;> omega), if_pos (by omega), if_pos (by omega), if_pos (by omega)]; first | done | rfl)
              rw [← w_75] at hP
              exact W.zret (v := nI 1) hx hb hrt rfl (fun t ht hW => ⟨⟨_, (), rfl, (congrArg nI (by unfold m_pt; rw [if_pos (by omega), if_pos (by unfold m_hi; (repeat' split) <;> omega), if_pos (by omega), if_pos (by omega), if_pos (by omega)])), by show va_P D vwCl _ t.heap; rw [ht]; exact hP⟩, hS.F ht⟩) hS.2.2 dX5_isPart_205
            · skip
              rw [if_neg c_72] at hP hD
              have hP : va_P D vwCl (wM q cI (va_up (va_up v 0 (va_up (va_up (v 0) 3 ((v 0 3) + 3)) 4 (bn (((v 0 3) + 3) < v 0 1)))) 4 (va_up (va_up (v 4) (3 * (v 0 5)) (v 3 (v 0 3))) (3 * (v 0 5) + 1) ((v 3 ((v 0 3) + 1)) - 48)))) H := hP
              have hD : va_D A (wM q cI (va_up (va_up v 0 (va_up (va_up (v 0) 3 ((v 0 3) + 3)) 4 (bn (((v 0 3) + 3) < v 0 1)))) 4 (va_up (va_up (v 4) (3 * (v 0 5)) (v 3 (v 0 3))) (3 * (v 0 5) + 1) ((v 3 ((v 0 3) + 1)) - 48)))) := hD
              refine o_const (k := 0) hx hb dX5_isPart_157 (by decide) ?_
              have w_76 : (wM q cI (va_up (va_up v 0 (va_up (va_up (v 0) 3 (m_pt (v 3) (v 0 1) (v 0 5) (v 0 3) (v 0 4) (v 4)).1) 4 (m_pt (v 3) (v 0 1) (v 0 5) (v 0 3) (v 0 4) (v 4)).2.1)) 4 (m_pt (v 3) (v 0 1) (v 0 5) (v 0 3) (v 0 4) (v 4)).2.2.1)) = (wM q cI (va_up (va_up v 0 (va_up (va_up (v 0) 3 ((v 0 3) + 3)) 4 (bn (((v 0 3) + 3) < v 0 1)))) 4 (va_up (va_up (v 4) (3 * (v 0 5)) (v 3 (v 0 3))) (3 * (v 0 5) + 1) ((v 3 ((v 0 3) + 1)) - 48)))) := (by unfold m_pt; rw [if_pos (by omega), if_pos (by unfold m_hi; (repeat' split) <;> omega), if_pos (by omega), if_pos (by omega), if_neg (by omega)]; first | done | rfl)
              rw [← w_76] at hP
              exact W.zret (v := nI 0) hx hb hrt rfl (fun t ht hW => ⟨⟨_, (), rfl, (congrArg nI (by unfold m_pt; rw [if_pos (by omega), if_pos (by unfold m_hi; (repeat' split) <;> omega), if_pos (by omega), if_pos (by omega), if_neg (by omega)])), by show va_P D vwCl _ t.heap; rw [ht]; exact hP⟩, hS.F ht⟩) hS.2.2 dX5_isPart_158
      · skip
        rw [if_neg c_62] at hP hD
        have hP : va_P D vwCl (wM q cI (va_up v 0 (va_up (va_up (v 0) 3 ((v 0 3) + 1)) 4 (bn (((v 0 3) + 1) < v 0 1))))) H := hP
        have hD : va_D A (wM q cI (va_up v 0 (va_up (va_up (v 0) 3 ((v 0 3) + 1)) 4 (bn (((v 0 3) + 1) < v 0 1))))) := hD
        refine o_const (k := 0) hx hb dX5_isPart_92 (by decide) ?_
        have w_77 : (wM q cI (va_up (va_up v 0 (va_up (va_up (v 0) 3 (m_pt (v 3) (v 0 1) (v 0 5) (v 0 3) (v 0 4) (v 4)).1) 4 (m_pt (v 3) (v 0 1) (v 0 5) (v 0 3) (v 0 4) (v 4)).2.1)) 4 (m_pt (v 3) (v 0 1) (v 0 5) (v 0 3) (v 0 4) (v 4)).2.2.1)) = (wM q cI (va_up v 0 (va_up (va_up (v 0) 3 ((v 0 3) + 1)) 4 (bn (((v 0 3) + 1) < v 0 1))))) := (by unfold m_pt; rw [if_pos (by omega), if_neg (by unfold m_hi; (repeat' split) <;> omega)]; first | done | rfl)
        rw [← w_77] at hP
        exact W.zret (v := nI 0) hx hb hrt rfl (fun t ht hW => ⟨⟨_, (), rfl, (congrArg nI (by unfold m_pt; rw [if_pos (by omega), if_neg (by unfold m_hi; (repeat' split) <;> omega)])), by show va_P D vwCl _ t.heap; rw [ht]; exact hP⟩, hS.F ht⟩) hS.2.2 dX5_isPart_93
  · skip
    refine lv_iload_n hx hb dX5_isPart_16 rfl (lv_at hl 0 rfl) ?_
    refine o_bipush (k := 100) hx hb dX5_isPart_17 (by decide) ?_
    refine o_icmp_eq (tgt := 45) hx hb dX5_isPart_19 (by decide) (by omega) (Nat.le_of_ble_eq_true rfl) (fun c_78 => ?_) (fun c_78 => ?_)
    · skip
      refine lv_aload_n hx hb dX5_isPart_45 rfl (lv_at hl 1 rfl) ?_
      refine lv_dup hx hb dX5_isPart_46 rfl ?_
      refine va_get (D := D) (ci := 5) (v := .int (nI (v 0 3))) (C := RX5) (T := TX5) (N := 10) hx hb hts inX5_isPart_X5 hown hK hP 0 rfl rfl 6 (by decide) (hts (.fieldLink RX5 89 "OddNoticeModel" "at" "I") (List.mem_of_getElem? (i := 2) (by decide +kernel))) (fun _ h9 => h9) rfl dX5_isPart_47 ?_
      refine o_const (k := 1) hx hb dX5_isPart_50 (by decide) ?_
      refine o_iadd (a := (v 0 3)) (b := 1) (k := ((v 0 3) + 1)) hx hb dX5_isPart_51 rfl ?_
      refine va_put (D := D) (ci := 5) (v := .int (nI ((v 0 3) + 1))) (ty := .int) (C := RX5) (T := TX5) (N := 10) hx hb hts inX5_isPart_X5 tyX5 tyX5_ok nmX5 hown hK hP hD hS 0 rfl rfl 6 (by decide) (hts (.fieldLink RX5 89 "OddNoticeModel" "at" "I") (List.mem_of_getElem? (i := 2) (by decide +kernel))) (fun _ h9 => h9) rfl (by decide +kernel) rfl rfl (Nat.le_of_ble_eq_true rfl) dX5_isPart_52 (fun H locs hP hD hS => ?_)
      have hP : va_P D vwCl (wM q cI (va_up v 0 (va_up (v 0) 3 ((v 0 3) + 1)))) H := hP
      have hD : va_D A (wM q cI (va_up v 0 (va_up (v 0) 3 ((v 0 3) + 1)))) := hD
      refine lv_aload_n hx hb dX5_isPart_55 rfl (lv_at hl 1 rfl) ?_
      refine lv_iload_n hx hb dX5_isPart_56 rfl (lv_at hl 0 rfl) ?_
      refine o_bipush (k := 119) hx hb dX5_isPart_57 (by decide) ?_
      refine o_icmp_ne (tgt := 67) hx hb dX5_isPart_59 (by decide) (by omega) (Nat.le_of_ble_eq_true rfl) (fun c_79 => ?_) (fun c_79 => ?_)
      · skip
        refine lv_iload_n hx hb dX5_isPart_67 rfl (lv_at hl 0 rfl) ?_
        refine o_bipush (k := 99) hx hb dX5_isPart_68 (by decide) ?_
        refine o_icmp_eq (tgt := 79) hx hb dX5_isPart_70 (by decide) (by omega) (Nat.le_of_ble_eq_true rfl) (fun c_80 => ?_) (fun c_80 => ?_)
        · skip
          refine o_bipush (k := 50) hx hb dX5_isPart_79 (by decide) ?_
          refine lv_goto (tgt := 86) hx hb dX5_isPart_81 (by decide) ?_
          refine o_wi (va_runV (As := [.int (nI 50)]) (rest := []) ⟨hx, hb, hml, hown, hts⟩ (k_X5_isDigit l D cI cR cS cL H.size q (va_up v 0 (va_up (v 0) 3 ((v 0 3) + 1))) 50 (by show ((v 0 3) + 1) < 2 ^ 31; first | assumption | omega) (by show v 0 1 ≤ 60; first | assumption | omega) (by show ∀ k, v 3 k < 2 ^ 31; first | assumption | omega) (by show 50 < 2 ^ 31; first | assumption | omega)) (cwV 1 hts gX5_isPart_X5_isDigit rfl rfl rfl (by decide +kernel) ⟨Nat.le_of_ble_eq_true rfl, Nat.le_of_ble_eq_true rfl⟩) (o_v (o_pB hK hN hP hD) (va_recv hK hP (ci := 5) (q0 := 0) rfl rfl)) rfl rfl hl.1 rfl (lv_room (Nat.le_of_ble_eq_true rfl)) dX5_isPart_86 ⟨Nat.zero_le _, Nat.zero_le _⟩) hP hD hS hA [0, 1, 2, 3, 4] (by decide) rfl (fun _ => rfl) (fun r_82 _ H locs e_81 hP hD hS => ?_)
          have e_81 : r_82 = nI (bn (((v 0 3) + 1) < v 0 1 ∧ 48 ≤ v 3 (((v 0 3) + 1)) ∧ v 3 (((v 0 3) + 1)) ≤ 50)) := e_81
          subst e_81
          have hP : va_P D vwCl (wM q cI (va_up v 0 (if ((v 0 3) + 1) < v 0 1 ∧ 48 ≤ v 3 (((v 0 3) + 1)) ∧ v 3 (((v 0 3) + 1)) ≤ 50 then (va_up (va_up (v 0) 3 ((v 0 3) + 1)) 3 ((v 0 3) + 2)) else (va_up (va_up (v 0) 3 ((v 0 3) + 1)) 4 (bn (((v 0 3) + 1) < v 0 1)))))) H := hP
          have hD : va_D A (wM q cI (va_up v 0 (if ((v 0 3) + 1) < v 0 1 ∧ 48 ≤ v 3 (((v 0 3) + 1)) ∧ v 3 (((v 0 3) + 1)) ≤ 50 then (va_up (va_up (v 0) 3 ((v 0 3) + 1)) 3 ((v 0 3) + 2)) else (va_up (va_up (v 0) 3 ((v 0 3) + 1)) 4 (bn (((v 0 3) + 1) < v 0 1)))))) := hD
          refine o_ifnz (tgt := 94) hx hb dX5_isPart_89 (by decide) (fun c_83 => ?_) (fun c_83 => ?_)
          · skip
            rw [if_pos c_83] at hP hD
            have hP : va_P D vwCl (wM q cI (va_up v 0 (va_up (v 0) 3 ((v 0 3) + 2)))) H := hP
            have hD : va_D A (wM q cI (va_up v 0 (va_up (v 0) 3 ((v 0 3) + 2)))) := hD
            refine lv_aload_n hx hb dX5_isPart_94 rfl (lv_at hl 1 rfl) ?_
            refine va_get (D := D) (ci := 5) (v := .ref (q 4)) (C := RX5) (T := TX5) (N := 10) hx hb hts inX5_isPart_X5 hown hK hP 0 rfl rfl 8 (by decide) (hts (.fieldLink RX5 19 "OddNoticeModel" "told" "[I") (List.mem_of_getElem? (i := 3) (by decide +kernel))) (fun _ h9 => h9) rfl dX5_isPart_95 ?_
            refine o_const (k := 3) hx hb dX5_isPart_98 (by decide) ?_
            refine lv_aload_n hx hb dX5_isPart_99 rfl (lv_at hl 1 rfl) ?_
            refine va_get (D := D) (ci := 5) (v := .int (nI (v 0 5))) (C := RX5) (T := TX5) (N := 10) hx hb hts inX5_isPart_X5 hown hK hP 0 rfl rfl 9 (by decide) (hts (.fieldLink RX5 106 "OddNoticeModel" "tolds" "I") (List.mem_of_getElem? (i := 4) (by decide +kernel))) (fun _ h9 => h9) rfl dX5_isPart_100 ?_
            refine o_imul (a := 3) (b := (v 0 5)) (k := (3 * (v 0 5))) hx hb dX5_isPart_103 rfl ?_
            refine lv_iload_n hx hb dX5_isPart_104 rfl (lv_at hl 0 rfl) ?_
            refine o_iast (g := (v 4)) hx hb hK hP hD hS 4 0 rfl rfl (by omega) (Nat.le_of_ble_eq_true rfl) dX5_isPart_105 (fun H locs hP hD hS => ?_)
            have hP : va_P D vwCl (wM q cI (va_up (va_up v 0 (va_up (v 0) 3 ((v 0 3) + 2))) 4 (va_up (v 4) (3 * (v 0 5)) (v 3 (v 0 3))))) H := hP
            have hD : va_D A (wM q cI (va_up (va_up v 0 (va_up (v 0) 3 ((v 0 3) + 2))) 4 (va_up (v 4) (3 * (v 0 5)) (v 3 (v 0 3))))) := hD
            refine lv_aload_n hx hb dX5_isPart_106 rfl (lv_at hl 1 rfl) ?_
            refine va_get (D := D) (ci := 5) (v := .ref (q 4)) (C := RX5) (T := TX5) (N := 10) hx hb hts inX5_isPart_X5 hown hK hP 0 rfl rfl 8 (by decide) (hts (.fieldLink RX5 19 "OddNoticeModel" "told" "[I") (List.mem_of_getElem? (i := 3) (by decide +kernel))) (fun _ h9 => h9) rfl dX5_isPart_107 ?_
            refine o_const (k := 3) hx hb dX5_isPart_110 (by decide) ?_
            refine lv_aload_n hx hb dX5_isPart_111 rfl (lv_at hl 1 rfl) ?_
            refine va_get (D := D) (ci := 5) (v := .int (nI (v 0 5))) (C := RX5) (T := TX5) (N := 10) hx hb hts inX5_isPart_X5 hown hK hP 0 rfl rfl 9 (by decide) (hts (.fieldLink RX5 106 "OddNoticeModel" "tolds" "I") (List.mem_of_getElem? (i := 4) (by decide +kernel))) (fun _ h9 => h9) rfl dX5_isPart_112 ?_
            refine o_imul (a := 3) (b := (v 0 5)) (k := (3 * (v 0 5))) hx hb dX5_isPart_115 rfl ?_
            refine o_const (k := 1) hx hb dX5_isPart_116 (by decide) ?_
            refine o_iadd (a := (3 * (v 0 5))) (b := 1) (k := (3 * (v 0 5) + 1)) hx hb dX5_isPart_117 rfl ?_
            refine lv_aload_n hx hb dX5_isPart_118 rfl (lv_at hl 1 rfl) ?_
            refine va_get (D := D) (ci := 5) (v := .ref (q 3)) (C := RX5) (T := TX5) (N := 10) hx hb hts inX5_isPart_X5 hown hK hP 0 rfl rfl 3 (by decide) (hts (.fieldLink RX5 16 "OddNoticeModel" "text" "[I") (List.mem_of_getElem? (i := 1) (by decide +kernel))) (fun _ h9 => h9) rfl dX5_isPart_119 ?_
            refine lv_aload_n hx hb dX5_isPart_122 rfl (lv_at hl 1 rfl) ?_
            refine va_get (D := D) (ci := 5) (v := .int (nI ((v 0 3) + 2))) (C := RX5) (T := TX5) (N := 10) hx hb hts inX5_isPart_X5 hown hK hP 0 rfl rfl 6 (by decide) (hts (.fieldLink RX5 89 "OddNoticeModel" "at" "I") (List.mem_of_getElem? (i := 2) (by decide +kernel))) (fun _ h9 => h9) rfl dX5_isPart_123 ?_
            refine o_const (k := 1) hx hb dX5_isPart_126 (by decide) ?_
            refine o_isub (a := ((v 0 3) + 2)) (b := 1) (k := ((v 0 3) + 1)) hx hb dX5_isPart_127 (by omega) (by omega) ?_
            refine o_iald (v := nI (v 3 ((v 0 3) + 1))) hx hb hK hP 3 0 rfl rfl (by omega) (Nat.le_of_ble_eq_true rfl) rfl dX5_isPart_128 ?_
            have f_84 := ht ((v 0 3) + 1)
            refine o_bipush (k := 48) hx hb dX5_isPart_129 (by decide) ?_
            refine o_isub (a := (v 3 ((v 0 3) + 1))) (b := 48) (k := ((v 3 ((v 0 3) + 1)) - 48)) hx hb dX5_isPart_131 (by omega) rfl ?_
            refine o_iast (g := (va_up (v 4) (3 * (v 0 5)) (v 3 (v 0 3)))) hx hb hK hP hD hS 4 0 rfl rfl (by omega) (Nat.le_of_ble_eq_true rfl) dX5_isPart_132 (fun H locs hP hD hS => ?_)
            have hP : va_P D vwCl (wM q cI (va_up (va_up v 0 (va_up (v 0) 3 ((v 0 3) + 2))) 4 (va_up (va_up (v 4) (3 * (v 0 5)) (v 3 (v 0 3))) (3 * (v 0 5) + 1) ((v 3 ((v 0 3) + 1)) - 48)))) H := hP
            have hD : va_D A (wM q cI (va_up (va_up v 0 (va_up (v 0) 3 ((v 0 3) + 2))) 4 (va_up (va_up (v 4) (3 * (v 0 5)) (v 3 (v 0 3))) (3 * (v 0 5) + 1) ((v 3 ((v 0 3) + 1)) - 48)))) := hD
            refine lv_iload_n hx hb dX5_isPart_133 rfl (lv_at hl 0 rfl) ?_
            refine o_bipush (k := 119) hx hb dX5_isPart_134 (by decide) ?_
            refine o_icmp_ne (tgt := 204) hx hb dX5_isPart_136 (by decide) (by omega) (Nat.le_of_ble_eq_true rfl) (fun c_85 => ?_) (fun c_85 => ?_)
            · skip
              refine o_const (k := 1) hx hb dX5_isPart_204 (by decide) ?_
              have w_86 : (wM q cI (va_up (va_up v 0 (va_up (va_up (v 0) 3 (m_pt (v 3) (v 0 1) (v 0 5) (v 0 3) (v 0 4) (v 4)).1) 4 (m_pt (v 3) (v 0 1) (v 0 5) (v 0 3) (v 0 4) (v 4)).2.1)) 4 (m_pt (v 3) (v 0 1) (v 0 5) (v 0 3) (v 0 4) (v 4)).2.2.1)) = (wM q cI (va_up (va_up v 0 (va_up (v 0) 3 ((v 0 3) + 2))) 4 (va_up (va_up (v 4) (3 * (v 0 5)) (v 3 (v 0 3))) (3 * (v 0 5) + 1) ((v 3 ((v 0 3) + 1)) - 48)))) := (by unfold m_pt; rw [if_pos (by omega), if_pos (by unfold m_hi; (repeat' split) <;> omega), if_neg (by omega)]; first | done | rfl)
              rw [← w_86] at hP
              exact W.zret (v := nI 1) hx hb hrt rfl (fun t ht hW => ⟨⟨_, (), rfl, (congrArg nI (by unfold m_pt; rw [if_pos (by omega), if_pos (by unfold m_hi; (repeat' split) <;> omega), if_neg (by omega)])), by show va_P D vwCl _ t.heap; rw [ht]; exact hP⟩, hS.F ht⟩) hS.2.2 dX5_isPart_205
            · skip
              refine lv_aload_n hx hb dX5_isPart_139 rfl (lv_at hl 1 rfl) ?_
              refine o_bipush (k := 57) hx hb dX5_isPart_140 (by decide) ?_
              refine o_wi (va_runV (As := [.int (nI 57)]) (rest := []) ⟨hx, hb, hml, hown, hts⟩ (k_X5_isDigit l D cI cR cS cL H.size q (va_up (va_up v 0 (va_up (v 0) 3 ((v 0 3) + 2))) 4 (va_up (va_up (v 4) (3 * (v 0 5)) (v 3 (v 0 3))) (3 * (v 0 5) + 1) ((v 3 ((v 0 3) + 1)) - 48))) 57 (by show ((v 0 3) + 2) < 2 ^ 31; first | assumption | omega) (by show v 0 1 ≤ 60; first | assumption | omega) (by show ∀ k, v 3 k < 2 ^ 31; first | assumption | omega) (by show 57 < 2 ^ 31; first | assumption | omega)) (cwV 1 hts gX5_isPart_X5_isDigit rfl rfl rfl (by decide +kernel) ⟨Nat.le_of_ble_eq_true rfl, Nat.le_of_ble_eq_true rfl⟩) (o_v (o_pB hK hN hP hD) (va_recv hK hP (ci := 5) (q0 := 0) rfl rfl)) rfl rfl hl.1 rfl (lv_room (Nat.le_of_ble_eq_true rfl)) dX5_isPart_142 ⟨Nat.zero_le _, Nat.zero_le _⟩) hP hD hS hA [0, 1, 2, 3, 4] (by decide) rfl (fun _ => rfl) (fun r_88 _ H locs e_87 hP hD hS => ?_)
              have e_87 : r_88 = nI (bn (((v 0 3) + 2) < v 0 1 ∧ 48 ≤ v 3 (((v 0 3) + 2)) ∧ v 3 (((v 0 3) + 2)) ≤ 57)) := e_87
              subst e_87
              have hP : va_P D vwCl (wM q cI (va_up (va_up v 0 (if ((v 0 3) + 2) < v 0 1 ∧ 48 ≤ v 3 (((v 0 3) + 2)) ∧ v 3 (((v 0 3) + 2)) ≤ 57 then (va_up (va_up (v 0) 3 ((v 0 3) + 2)) 3 ((v 0 3) + 3)) else (va_up (va_up (v 0) 3 ((v 0 3) + 2)) 4 (bn (((v 0 3) + 2) < v 0 1))))) 4 (va_up (va_up (v 4) (3 * (v 0 5)) (v 3 (v 0 3))) (3 * (v 0 5) + 1) ((v 3 ((v 0 3) + 1)) - 48)))) H := hP
              have hD : va_D A (wM q cI (va_up (va_up v 0 (if ((v 0 3) + 2) < v 0 1 ∧ 48 ≤ v 3 (((v 0 3) + 2)) ∧ v 3 (((v 0 3) + 2)) ≤ 57 then (va_up (va_up (v 0) 3 ((v 0 3) + 2)) 3 ((v 0 3) + 3)) else (va_up (va_up (v 0) 3 ((v 0 3) + 2)) 4 (bn (((v 0 3) + 2) < v 0 1))))) 4 (va_up (va_up (v 4) (3 * (v 0 5)) (v 3 (v 0 3))) (3 * (v 0 5) + 1) ((v 3 ((v 0 3) + 1)) - 48)))) := hD
              refine o_ifz (tgt := 157) hx hb dX5_isPart_145 (by decide) (fun c_89 => ?_) (fun c_89 => ?_)
              · skip
                rw [if_neg c_89] at hP hD
                have hP : va_P D vwCl (wM q cI (va_up (va_up v 0 (va_up (va_up (v 0) 3 ((v 0 3) + 2)) 4 (bn (((v 0 3) + 2) < v 0 1)))) 4 (va_up (va_up (v 4) (3 * (v 0 5)) (v 3 (v 0 3))) (3 * (v 0 5) + 1) ((v 3 ((v 0 3) + 1)) - 48)))) H := hP
                have hD : va_D A (wM q cI (va_up (va_up v 0 (va_up (va_up (v 0) 3 ((v 0 3) + 2)) 4 (bn (((v 0 3) + 2) < v 0 1)))) 4 (va_up (va_up (v 4) (3 * (v 0 5)) (v 3 (v 0 3))) (3 * (v 0 5) + 1) ((v 3 ((v 0 3) + 1)) - 48)))) := hD
                refine o_const (k := 0) hx hb dX5_isPart_157 (by decide) ?_
                have w_90 : (wM q cI (va_up (va_up v 0 (va_up (va_up (v 0) 3 (m_pt (v 3) (v 0 1) (v 0 5) (v 0 3) (v 0 4) (v 4)).1) 4 (m_pt (v 3) (v 0 1) (v 0 5) (v 0 3) (v 0 4) (v 4)).2.1)) 4 (m_pt (v 3) (v 0 1) (v 0 5) (v 0 3) (v 0 4) (v 4)).2.2.1)) = (wM q cI (va_up (va_up v 0 (va_up (va_up (v 0) 3 ((v 0 3) + 2)) 4 (bn (((v 0 3) + 2) < v 0 1)))) 4 (va_up (va_up (v 4) (3 * (v 0 5)) (v 3 (v 0 3))) (3 * (v 0 5) + 1) ((v 3 ((v 0 3) + 1)) - 48)))) := (by unfold m_pt; rw [if_pos (by omega), if_pos (by unfold m_hi; (repeat' split) <;> omega), if_pos (by omega), if_neg (by omega)]; first | done | rfl)
                rw [← w_90] at hP
                exact W.zret (v := nI 0) hx hb hrt rfl (fun t ht hW => ⟨⟨_, (), rfl, (congrArg nI (by unfold m_pt; rw [if_pos (by omega), if_pos (by unfold m_hi; (repeat' split) <;> omega), if_pos (by omega), if_neg (by omega)])), by show va_P D vwCl _ t.heap; rw [ht]; exact hP⟩, hS.F ht⟩) hS.2.2 dX5_isPart_158
              · skip
                rw [if_pos c_89] at hP hD
                have hP : va_P D vwCl (wM q cI (va_up (va_up v 0 (va_up (v 0) 3 ((v 0 3) + 3))) 4 (va_up (va_up (v 4) (3 * (v 0 5)) (v 3 (v 0 3))) (3 * (v 0 5) + 1) ((v 3 ((v 0 3) + 1)) - 48)))) H := hP
                have hD : va_D A (wM q cI (va_up (va_up v 0 (va_up (v 0) 3 ((v 0 3) + 3))) 4 (va_up (va_up (v 4) (3 * (v 0 5)) (v 3 (v 0 3))) (3 * (v 0 5) + 1) ((v 3 ((v 0 3) + 1)) - 48)))) := hD
                refine lv_aload_n hx hb dX5_isPart_148 rfl (lv_at hl 1 rfl) ?_
                refine o_bipush (k := 57) hx hb dX5_isPart_149 (by decide) ?_
                refine o_wi (va_runV (As := [.int (nI 57)]) (rest := []) ⟨hx, hb, hml, hown, hts⟩ (k_X5_isDigit l D cI cR cS cL H.size q (va_up (va_up v 0 (va_up (v 0) 3 ((v 0 3) + 3))) 4 (va_up (va_up (v 4) (3 * (v 0 5)) (v 3 (v 0 3))) (3 * (v 0 5) + 1) ((v 3 ((v 0 3) + 1)) - 48))) 57 (by show ((v 0 3) + 3) < 2 ^ 31; first | assumption | omega) (by show v 0 1 ≤ 60; first | assumption | omega) (by show ∀ k, v 3 k < 2 ^ 31; first | assumption | omega) (by show 57 < 2 ^ 31; first | assumption | omega)) (cwV 1 hts gX5_isPart_X5_isDigit rfl rfl rfl (by decide +kernel) ⟨Nat.le_of_ble_eq_true rfl, Nat.le_of_ble_eq_true rfl⟩) (o_v (o_pB hK hN hP hD) (va_recv hK hP (ci := 5) (q0 := 0) rfl rfl)) rfl rfl hl.1 rfl (lv_room (Nat.le_of_ble_eq_true rfl)) dX5_isPart_151 ⟨Nat.zero_le _, Nat.zero_le _⟩) hP hD hS hA [0, 1, 2, 3, 4] (by decide) rfl (fun _ => rfl) (fun r_92 _ H locs e_91 hP hD hS => ?_)
                have e_91 : r_92 = nI (bn (((v 0 3) + 3) < v 0 1 ∧ 48 ≤ v 3 (((v 0 3) + 3)) ∧ v 3 (((v 0 3) + 3)) ≤ 57)) := e_91
                subst e_91
                have hP : va_P D vwCl (wM q cI (va_up (va_up v 0 (if ((v 0 3) + 3) < v 0 1 ∧ 48 ≤ v 3 (((v 0 3) + 3)) ∧ v 3 (((v 0 3) + 3)) ≤ 57 then (va_up (va_up (v 0) 3 ((v 0 3) + 3)) 3 ((v 0 3) + 4)) else (va_up (va_up (v 0) 3 ((v 0 3) + 3)) 4 (bn (((v 0 3) + 3) < v 0 1))))) 4 (va_up (va_up (v 4) (3 * (v 0 5)) (v 3 (v 0 3))) (3 * (v 0 5) + 1) ((v 3 ((v 0 3) + 1)) - 48)))) H := hP
                have hD : va_D A (wM q cI (va_up (va_up v 0 (if ((v 0 3) + 3) < v 0 1 ∧ 48 ≤ v 3 (((v 0 3) + 3)) ∧ v 3 (((v 0 3) + 3)) ≤ 57 then (va_up (va_up (v 0) 3 ((v 0 3) + 3)) 3 ((v 0 3) + 4)) else (va_up (va_up (v 0) 3 ((v 0 3) + 3)) 4 (bn (((v 0 3) + 3) < v 0 1))))) 4 (va_up (va_up (v 4) (3 * (v 0 5)) (v 3 (v 0 3))) (3 * (v 0 5) + 1) ((v 3 ((v 0 3) + 1)) - 48)))) := hD
                refine o_ifnz (tgt := 159) hx hb dX5_isPart_154 (by decide) (fun c_93 => ?_) (fun c_93 => ?_)
                · skip
                  rw [if_pos c_93] at hP hD
                  have hP : va_P D vwCl (wM q cI (va_up (va_up v 0 (va_up (v 0) 3 ((v 0 3) + 4))) 4 (va_up (va_up (v 4) (3 * (v 0 5)) (v 3 (v 0 3))) (3 * (v 0 5) + 1) ((v 3 ((v 0 3) + 1)) - 48)))) H := hP
                  have hD : va_D A (wM q cI (va_up (va_up v 0 (va_up (v 0) 3 ((v 0 3) + 4))) 4 (va_up (va_up (v 4) (3 * (v 0 5)) (v 3 (v 0 3))) (3 * (v 0 5) + 1) ((v 3 ((v 0 3) + 1)) - 48)))) := hD
                  refine lv_aload_n hx hb dX5_isPart_159 rfl (lv_at hl 1 rfl) ?_
                  refine va_get (D := D) (ci := 5) (v := .ref (q 4)) (C := RX5) (T := TX5) (N := 10) hx hb hts inX5_isPart_X5 hown hK hP 0 rfl rfl 8 (by decide) (hts (.fieldLink RX5 19 "OddNoticeModel" "told" "[I") (List.mem_of_getElem? (i := 3) (by decide +kernel))) (fun _ h9 => h9) rfl dX5_isPart_160 ?_
                  refine o_const (k := 3) hx hb dX5_isPart_163 (by decide) ?_
                  refine lv_aload_n hx hb dX5_isPart_164 rfl (lv_at hl 1 rfl) ?_
                  refine va_get (D := D) (ci := 5) (v := .int (nI (v 0 5))) (C := RX5) (T := TX5) (N := 10) hx hb hts inX5_isPart_X5 hown hK hP 0 rfl rfl 9 (by decide) (hts (.fieldLink RX5 106 "OddNoticeModel" "tolds" "I") (List.mem_of_getElem? (i := 4) (by decide +kernel))) (fun _ h9 => h9) rfl dX5_isPart_165 ?_
                  refine o_imul (a := 3) (b := (v 0 5)) (k := (3 * (v 0 5))) hx hb dX5_isPart_168 rfl ?_
                  refine o_const (k := 2) hx hb dX5_isPart_169 (by decide) ?_
                  refine o_iadd (a := (3 * (v 0 5))) (b := 2) (k := (3 * (v 0 5) + 2)) hx hb dX5_isPart_170 rfl ?_
                  refine o_bipush (k := 10) hx hb dX5_isPart_171 (by decide) ?_
                  refine lv_aload_n hx hb dX5_isPart_173 rfl (lv_at hl 1 rfl) ?_
                  refine va_get (D := D) (ci := 5) (v := .ref (q 3)) (C := RX5) (T := TX5) (N := 10) hx hb hts inX5_isPart_X5 hown hK hP 0 rfl rfl 3 (by decide) (hts (.fieldLink RX5 16 "OddNoticeModel" "text" "[I") (List.mem_of_getElem? (i := 1) (by decide +kernel))) (fun _ h9 => h9) rfl dX5_isPart_174 ?_
                  refine lv_aload_n hx hb dX5_isPart_177 rfl (lv_at hl 1 rfl) ?_
                  refine va_get (D := D) (ci := 5) (v := .int (nI ((v 0 3) + 4))) (C := RX5) (T := TX5) (N := 10) hx hb hts inX5_isPart_X5 hown hK hP 0 rfl rfl 6 (by decide) (hts (.fieldLink RX5 89 "OddNoticeModel" "at" "I") (List.mem_of_getElem? (i := 2) (by decide +kernel))) (fun _ h9 => h9) rfl dX5_isPart_178 ?_
                  refine o_const (k := 2) hx hb dX5_isPart_181 (by decide) ?_
                  refine o_isub (a := ((v 0 3) + 4)) (b := 2) (k := ((v 0 3) + 2)) hx hb dX5_isPart_182 (by omega) (by omega) ?_
                  refine o_iald (v := nI (v 3 ((v 0 3) + 2))) hx hb hK hP 3 0 rfl rfl (by omega) (Nat.le_of_ble_eq_true rfl) rfl dX5_isPart_183 ?_
                  have f_94 := ht ((v 0 3) + 2)
                  refine o_bipush (k := 48) hx hb dX5_isPart_184 (by decide) ?_
                  refine o_isub (a := (v 3 ((v 0 3) + 2))) (b := 48) (k := ((v 3 ((v 0 3) + 2)) - 48)) hx hb dX5_isPart_186 (by omega) rfl ?_
                  refine o_imul (a := 10) (b := ((v 3 ((v 0 3) + 2)) - 48)) (k := (10 * ((v 3 ((v 0 3) + 2)) - 48))) hx hb dX5_isPart_187 rfl ?_
                  refine lv_aload_n hx hb dX5_isPart_188 rfl (lv_at hl 1 rfl) ?_
                  refine va_get (D := D) (ci := 5) (v := .ref (q 3)) (C := RX5) (T := TX5) (N := 10) hx hb hts inX5_isPart_X5 hown hK hP 0 rfl rfl 3 (by decide) (hts (.fieldLink RX5 16 "OddNoticeModel" "text" "[I") (List.mem_of_getElem? (i := 1) (by decide +kernel))) (fun _ h9 => h9) rfl dX5_isPart_189 ?_
                  refine lv_aload_n hx hb dX5_isPart_192 rfl (lv_at hl 1 rfl) ?_
                  refine va_get (D := D) (ci := 5) (v := .int (nI ((v 0 3) + 4))) (C := RX5) (T := TX5) (N := 10) hx hb hts inX5_isPart_X5 hown hK hP 0 rfl rfl 6 (by decide) (hts (.fieldLink RX5 89 "OddNoticeModel" "at" "I") (List.mem_of_getElem? (i := 2) (by decide +kernel))) (fun _ h9 => h9) rfl dX5_isPart_193 ?_
                  refine o_const (k := 1) hx hb dX5_isPart_196 (by decide) ?_
                  refine o_isub (a := ((v 0 3) + 4)) (b := 1) (k := ((v 0 3) + 3)) hx hb dX5_isPart_197 (by omega) (by omega) ?_
                  refine o_iald (v := nI (v 3 ((v 0 3) + 3))) hx hb hK hP 3 0 rfl rfl (by omega) (Nat.le_of_ble_eq_true rfl) rfl dX5_isPart_198 ?_
                  have f_95 := ht ((v 0 3) + 3)
                  refine o_iadd (a := (10 * ((v 3 ((v 0 3) + 2)) - 48))) (b := (v 3 ((v 0 3) + 3))) (k := (10 * ((v 3 ((v 0 3) + 2)) - 48) + (v 3 ((v 0 3) + 3)))) hx hb dX5_isPart_199 rfl ?_
                  refine o_bipush (k := 48) hx hb dX5_isPart_200 (by decide) ?_
                  refine o_isub (a := (10 * ((v 3 ((v 0 3) + 2)) - 48) + (v 3 ((v 0 3) + 3)))) (b := 48) (k := (10 * ((v 3 ((v 0 3) + 2)) - 48) + (v 3 ((v 0 3) + 3)) - 48)) hx hb dX5_isPart_202 (by omega) rfl ?_
                  refine o_iast (g := (va_up (va_up (v 4) (3 * (v 0 5)) (v 3 (v 0 3))) (3 * (v 0 5) + 1) ((v 3 ((v 0 3) + 1)) - 48))) hx hb hK hP hD hS 4 0 rfl rfl (by omega) (Nat.le_of_ble_eq_true rfl) dX5_isPart_203 (fun H locs hP hD hS => ?_)
                  have hP : va_P D vwCl (wM q cI (va_up (va_up v 0 (va_up (v 0) 3 ((v 0 3) + 4))) 4 (va_up (va_up (va_up (v 4) (3 * (v 0 5)) (v 3 (v 0 3))) (3 * (v 0 5) + 1) ((v 3 ((v 0 3) + 1)) - 48)) (3 * (v 0 5) + 2) (10 * ((v 3 ((v 0 3) + 2)) - 48) + (v 3 ((v 0 3) + 3)) - 48)))) H := hP
                  have hD : va_D A (wM q cI (va_up (va_up v 0 (va_up (v 0) 3 ((v 0 3) + 4))) 4 (va_up (va_up (va_up (v 4) (3 * (v 0 5)) (v 3 (v 0 3))) (3 * (v 0 5) + 1) ((v 3 ((v 0 3) + 1)) - 48)) (3 * (v 0 5) + 2) (10 * ((v 3 ((v 0 3) + 2)) - 48) + (v 3 ((v 0 3) + 3)) - 48)))) := hD
                  refine o_const (k := 1) hx hb dX5_isPart_204 (by decide) ?_
                  have w_96 : (wM q cI (va_up (va_up v 0 (va_up (va_up (v 0) 3 (m_pt (v 3) (v 0 1) (v 0 5) (v 0 3) (v 0 4) (v 4)).1) 4 (m_pt (v 3) (v 0 1) (v 0 5) (v 0 3) (v 0 4) (v 4)).2.1)) 4 (m_pt (v 3) (v 0 1) (v 0 5) (v 0 3) (v 0 4) (v 4)).2.2.1)) = (wM q cI (va_up (va_up v 0 (va_up (v 0) 3 ((v 0 3) + 4))) 4 (va_up (va_up (va_up (v 4) (3 * (v 0 5)) (v 3 (v 0 3))) (3 * (v 0 5) + 1) ((v 3 ((v 0 3) + 1)) - 48)) (3 * (v 0 5) + 2) (10 * ((v 3 ((v 0 3) + 2)) - 48) + (v 3 ((v 0 3) + 3)) - 48)))) := (by unfold m_pt; rw [if_pos (by omega), if_pos (by unfold m_hi; (repeat' split) <;> omega), if_pos (by omega), if_pos (by omega), if_pos (by omega)]; first | done | rfl)
                  rw [← w_96] at hP
                  exact W.zret (v := nI 1) hx hb hrt rfl (fun t ht hW => ⟨⟨_, (), rfl, (congrArg nI (by unfold m_pt; rw [if_pos (by omega), if_pos (by unfold m_hi; (repeat' split) <;> omega), if_pos (by omega), if_pos (by omega), if_pos (by omega)])), by show va_P D vwCl _ t.heap; rw [ht]; exact hP⟩, hS.F ht⟩) hS.2.2 dX5_isPart_205
                · skip
                  rw [if_neg c_93] at hP hD
                  have hP : va_P D vwCl (wM q cI (va_up (va_up v 0 (va_up (va_up (v 0) 3 ((v 0 3) + 3)) 4 (bn (((v 0 3) + 3) < v 0 1)))) 4 (va_up (va_up (v 4) (3 * (v 0 5)) (v 3 (v 0 3))) (3 * (v 0 5) + 1) ((v 3 ((v 0 3) + 1)) - 48)))) H := hP
                  have hD : va_D A (wM q cI (va_up (va_up v 0 (va_up (va_up (v 0) 3 ((v 0 3) + 3)) 4 (bn (((v 0 3) + 3) < v 0 1)))) 4 (va_up (va_up (v 4) (3 * (v 0 5)) (v 3 (v 0 3))) (3 * (v 0 5) + 1) ((v 3 ((v 0 3) + 1)) - 48)))) := hD
                  refine o_const (k := 0) hx hb dX5_isPart_157 (by decide) ?_
                  have w_97 : (wM q cI (va_up (va_up v 0 (va_up (va_up (v 0) 3 (m_pt (v 3) (v 0 1) (v 0 5) (v 0 3) (v 0 4) (v 4)).1) 4 (m_pt (v 3) (v 0 1) (v 0 5) (v 0 3) (v 0 4) (v 4)).2.1)) 4 (m_pt (v 3) (v 0 1) (v 0 5) (v 0 3) (v 0 4) (v 4)).2.2.1)) = (wM q cI (va_up (va_up v 0 (va_up (va_up (v 0) 3 ((v 0 3) + 3)) 4 (bn (((v 0 3) + 3) < v 0 1)))) 4 (va_up (va_up (v 4) (3 * (v 0 5)) (v 3 (v 0 3))) (3 * (v 0 5) + 1) ((v 3 ((v 0 3) + 1)) - 48)))) := (by unfold m_pt; rw [if_pos (by omega), if_pos (by unfold m_hi; (repeat' split) <;> omega), if_pos (by omega), if_pos (by omega), if_neg (by omega)]; first | done | rfl)
                  rw [← w_97] at hP
                  exact W.zret (v := nI 0) hx hb hrt rfl (fun t ht hW => ⟨⟨_, (), rfl, (congrArg nI (by unfold m_pt; rw [if_pos (by omega), if_pos (by unfold m_hi; (repeat' split) <;> omega), if_pos (by omega), if_pos (by omega), if_neg (by omega)])), by show va_P D vwCl _ t.heap; rw [ht]; exact hP⟩, hS.F ht⟩) hS.2.2 dX5_isPart_158
          · skip
            rw [if_neg c_83] at hP hD
            have hP : va_P D vwCl (wM q cI (va_up v 0 (va_up (va_up (v 0) 3 ((v 0 3) + 1)) 4 (bn (((v 0 3) + 1) < v 0 1))))) H := hP
            have hD : va_D A (wM q cI (va_up v 0 (va_up (va_up (v 0) 3 ((v 0 3) + 1)) 4 (bn (((v 0 3) + 1) < v 0 1))))) := hD
            refine o_const (k := 0) hx hb dX5_isPart_92 (by decide) ?_
            have w_98 : (wM q cI (va_up (va_up v 0 (va_up (va_up (v 0) 3 (m_pt (v 3) (v 0 1) (v 0 5) (v 0 3) (v 0 4) (v 4)).1) 4 (m_pt (v 3) (v 0 1) (v 0 5) (v 0 3) (v 0 4) (v 4)).2.1)) 4 (m_pt (v 3) (v 0 1) (v 0 5) (v 0 3) (v 0 4) (v 4)).2.2.1)) = (wM q cI (va_up v 0 (va_up (va_up (v 0) 3 ((v 0 3) + 1)) 4 (bn (((v 0 3) + 1) < v 0 1))))) := (by unfold m_pt; rw [if_pos (by omega), if_neg (by unfold m_hi; (repeat' split) <;> omega)]; first | done | rfl)
            rw [← w_98] at hP
            exact W.zret (v := nI 0) hx hb hrt rfl (fun t ht hW => ⟨⟨_, (), rfl, (congrArg nI (by unfold m_pt; rw [if_pos (by omega), if_neg (by unfold m_hi; (repeat' split) <;> omega)])), by show va_P D vwCl _ t.heap; rw [ht]; exact hP⟩, hS.F ht⟩) hS.2.2 dX5_isPart_93
        · skip
          refine lv_iload_n hx hb dX5_isPart_73 rfl (lv_at hl 0 rfl) ?_
          refine o_bipush (k := 100) hx hb dX5_isPart_74 (by decide) ?_
          refine o_icmp_ne (tgt := 84) hx hb dX5_isPart_76 (by decide) (by omega) (Nat.le_of_ble_eq_true rfl) (fun c_99 => ?_) (fun c_99 => ?_)
          · skip
            refine o_bipush (k := 51) hx hb dX5_isPart_84 (by decide) ?_
            refine o_wi (va_runV (As := [.int (nI 51)]) (rest := []) ⟨hx, hb, hml, hown, hts⟩ (k_X5_isDigit l D cI cR cS cL H.size q (va_up v 0 (va_up (v 0) 3 ((v 0 3) + 1))) 51 (by show ((v 0 3) + 1) < 2 ^ 31; first | assumption | omega) (by show v 0 1 ≤ 60; first | assumption | omega) (by show ∀ k, v 3 k < 2 ^ 31; first | assumption | omega) (by show 51 < 2 ^ 31; first | assumption | omega)) (cwV 1 hts gX5_isPart_X5_isDigit rfl rfl rfl (by decide +kernel) ⟨Nat.le_of_ble_eq_true rfl, Nat.le_of_ble_eq_true rfl⟩) (o_v (o_pB hK hN hP hD) (va_recv hK hP (ci := 5) (q0 := 0) rfl rfl)) rfl rfl hl.1 rfl (lv_room (Nat.le_of_ble_eq_true rfl)) dX5_isPart_86 ⟨Nat.zero_le _, Nat.zero_le _⟩) hP hD hS hA [0, 1, 2, 3, 4] (by decide) rfl (fun _ => rfl) (fun r_101 _ H locs e_100 hP hD hS => ?_)
            have e_100 : r_101 = nI (bn (((v 0 3) + 1) < v 0 1 ∧ 48 ≤ v 3 (((v 0 3) + 1)) ∧ v 3 (((v 0 3) + 1)) ≤ 51)) := e_100
            subst e_100
            have hP : va_P D vwCl (wM q cI (va_up v 0 (if ((v 0 3) + 1) < v 0 1 ∧ 48 ≤ v 3 (((v 0 3) + 1)) ∧ v 3 (((v 0 3) + 1)) ≤ 51 then (va_up (va_up (v 0) 3 ((v 0 3) + 1)) 3 ((v 0 3) + 2)) else (va_up (va_up (v 0) 3 ((v 0 3) + 1)) 4 (bn (((v 0 3) + 1) < v 0 1)))))) H := hP
            have hD : va_D A (wM q cI (va_up v 0 (if ((v 0 3) + 1) < v 0 1 ∧ 48 ≤ v 3 (((v 0 3) + 1)) ∧ v 3 (((v 0 3) + 1)) ≤ 51 then (va_up (va_up (v 0) 3 ((v 0 3) + 1)) 3 ((v 0 3) + 2)) else (va_up (va_up (v 0) 3 ((v 0 3) + 1)) 4 (bn (((v 0 3) + 1) < v 0 1)))))) := hD
            refine o_ifnz (tgt := 94) hx hb dX5_isPart_89 (by decide) (fun c_102 => ?_) (fun c_102 => ?_)
            · skip
              rw [if_pos c_102] at hP hD
              have hP : va_P D vwCl (wM q cI (va_up v 0 (va_up (v 0) 3 ((v 0 3) + 2)))) H := hP
              have hD : va_D A (wM q cI (va_up v 0 (va_up (v 0) 3 ((v 0 3) + 2)))) := hD
              refine lv_aload_n hx hb dX5_isPart_94 rfl (lv_at hl 1 rfl) ?_
              refine va_get (D := D) (ci := 5) (v := .ref (q 4)) (C := RX5) (T := TX5) (N := 10) hx hb hts inX5_isPart_X5 hown hK hP 0 rfl rfl 8 (by decide) (hts (.fieldLink RX5 19 "OddNoticeModel" "told" "[I") (List.mem_of_getElem? (i := 3) (by decide +kernel))) (fun _ h9 => h9) rfl dX5_isPart_95 ?_
              refine o_const (k := 3) hx hb dX5_isPart_98 (by decide) ?_
              refine lv_aload_n hx hb dX5_isPart_99 rfl (lv_at hl 1 rfl) ?_
              refine va_get (D := D) (ci := 5) (v := .int (nI (v 0 5))) (C := RX5) (T := TX5) (N := 10) hx hb hts inX5_isPart_X5 hown hK hP 0 rfl rfl 9 (by decide) (hts (.fieldLink RX5 106 "OddNoticeModel" "tolds" "I") (List.mem_of_getElem? (i := 4) (by decide +kernel))) (fun _ h9 => h9) rfl dX5_isPart_100 ?_
              refine o_imul (a := 3) (b := (v 0 5)) (k := (3 * (v 0 5))) hx hb dX5_isPart_103 rfl ?_
              refine lv_iload_n hx hb dX5_isPart_104 rfl (lv_at hl 0 rfl) ?_
              refine o_iast (g := (v 4)) hx hb hK hP hD hS 4 0 rfl rfl (by omega) (Nat.le_of_ble_eq_true rfl) dX5_isPart_105 (fun H locs hP hD hS => ?_)
              have hP : va_P D vwCl (wM q cI (va_up (va_up v 0 (va_up (v 0) 3 ((v 0 3) + 2))) 4 (va_up (v 4) (3 * (v 0 5)) (v 3 (v 0 3))))) H := hP
              have hD : va_D A (wM q cI (va_up (va_up v 0 (va_up (v 0) 3 ((v 0 3) + 2))) 4 (va_up (v 4) (3 * (v 0 5)) (v 3 (v 0 3))))) := hD
              refine lv_aload_n hx hb dX5_isPart_106 rfl (lv_at hl 1 rfl) ?_
              refine va_get (D := D) (ci := 5) (v := .ref (q 4)) (C := RX5) (T := TX5) (N := 10) hx hb hts inX5_isPart_X5 hown hK hP 0 rfl rfl 8 (by decide) (hts (.fieldLink RX5 19 "OddNoticeModel" "told" "[I") (List.mem_of_getElem? (i := 3) (by decide +kernel))) (fun _ h9 => h9) rfl dX5_isPart_107 ?_
              refine o_const (k := 3) hx hb dX5_isPart_110 (by decide) ?_
              refine lv_aload_n hx hb dX5_isPart_111 rfl (lv_at hl 1 rfl) ?_
              refine va_get (D := D) (ci := 5) (v := .int (nI (v 0 5))) (C := RX5) (T := TX5) (N := 10) hx hb hts inX5_isPart_X5 hown hK hP 0 rfl rfl 9 (by decide) (hts (.fieldLink RX5 106 "OddNoticeModel" "tolds" "I") (List.mem_of_getElem? (i := 4) (by decide +kernel))) (fun _ h9 => h9) rfl dX5_isPart_112 ?_
              refine o_imul (a := 3) (b := (v 0 5)) (k := (3 * (v 0 5))) hx hb dX5_isPart_115 rfl ?_
              refine o_const (k := 1) hx hb dX5_isPart_116 (by decide) ?_
              refine o_iadd (a := (3 * (v 0 5))) (b := 1) (k := (3 * (v 0 5) + 1)) hx hb dX5_isPart_117 rfl ?_
              refine lv_aload_n hx hb dX5_isPart_118 rfl (lv_at hl 1 rfl) ?_
              refine va_get (D := D) (ci := 5) (v := .ref (q 3)) (C := RX5) (T := TX5) (N := 10) hx hb hts inX5_isPart_X5 hown hK hP 0 rfl rfl 3 (by decide) (hts (.fieldLink RX5 16 "OddNoticeModel" "text" "[I") (List.mem_of_getElem? (i := 1) (by decide +kernel))) (fun _ h9 => h9) rfl dX5_isPart_119 ?_
              refine lv_aload_n hx hb dX5_isPart_122 rfl (lv_at hl 1 rfl) ?_
              refine va_get (D := D) (ci := 5) (v := .int (nI ((v 0 3) + 2))) (C := RX5) (T := TX5) (N := 10) hx hb hts inX5_isPart_X5 hown hK hP 0 rfl rfl 6 (by decide) (hts (.fieldLink RX5 89 "OddNoticeModel" "at" "I") (List.mem_of_getElem? (i := 2) (by decide +kernel))) (fun _ h9 => h9) rfl dX5_isPart_123 ?_
              refine o_const (k := 1) hx hb dX5_isPart_126 (by decide) ?_
              refine o_isub (a := ((v 0 3) + 2)) (b := 1) (k := ((v 0 3) + 1)) hx hb dX5_isPart_127 (by omega) (by omega) ?_
              refine o_iald (v := nI (v 3 ((v 0 3) + 1))) hx hb hK hP 3 0 rfl rfl (by omega) (Nat.le_of_ble_eq_true rfl) rfl dX5_isPart_128 ?_
              have f_103 := ht ((v 0 3) + 1)
              refine o_bipush (k := 48) hx hb dX5_isPart_129 (by decide) ?_
              refine o_isub (a := (v 3 ((v 0 3) + 1))) (b := 48) (k := ((v 3 ((v 0 3) + 1)) - 48)) hx hb dX5_isPart_131 (by omega) rfl ?_
              refine o_iast (g := (va_up (v 4) (3 * (v 0 5)) (v 3 (v 0 3)))) hx hb hK hP hD hS 4 0 rfl rfl (by omega) (Nat.le_of_ble_eq_true rfl) dX5_isPart_132 (fun H locs hP hD hS => ?_)
              have hP : va_P D vwCl (wM q cI (va_up (va_up v 0 (va_up (v 0) 3 ((v 0 3) + 2))) 4 (va_up (va_up (v 4) (3 * (v 0 5)) (v 3 (v 0 3))) (3 * (v 0 5) + 1) ((v 3 ((v 0 3) + 1)) - 48)))) H := hP
              have hD : va_D A (wM q cI (va_up (va_up v 0 (va_up (v 0) 3 ((v 0 3) + 2))) 4 (va_up (va_up (v 4) (3 * (v 0 5)) (v 3 (v 0 3))) (3 * (v 0 5) + 1) ((v 3 ((v 0 3) + 1)) - 48)))) := hD
              refine lv_iload_n hx hb dX5_isPart_133 rfl (lv_at hl 0 rfl) ?_
              refine o_bipush (k := 119) hx hb dX5_isPart_134 (by decide) ?_
              refine o_icmp_ne (tgt := 204) hx hb dX5_isPart_136 (by decide) (by omega) (Nat.le_of_ble_eq_true rfl) (fun c_104 => ?_) (fun c_104 => ?_)
              · skip
                refine o_const (k := 1) hx hb dX5_isPart_204 (by decide) ?_
                have w_105 : (wM q cI (va_up (va_up v 0 (va_up (va_up (v 0) 3 (m_pt (v 3) (v 0 1) (v 0 5) (v 0 3) (v 0 4) (v 4)).1) 4 (m_pt (v 3) (v 0 1) (v 0 5) (v 0 3) (v 0 4) (v 4)).2.1)) 4 (m_pt (v 3) (v 0 1) (v 0 5) (v 0 3) (v 0 4) (v 4)).2.2.1)) = (wM q cI (va_up (va_up v 0 (va_up (v 0) 3 ((v 0 3) + 2))) 4 (va_up (va_up (v 4) (3 * (v 0 5)) (v 3 (v 0 3))) (3 * (v 0 5) + 1) ((v 3 ((v 0 3) + 1)) - 48)))) := (by unfold m_pt; rw [if_pos (by omega), if_pos (by unfold m_hi; (repeat' split) <;> omega), if_neg (by omega)]; first | done | rfl)
                rw [← w_105] at hP
                exact W.zret (v := nI 1) hx hb hrt rfl (fun t ht hW => ⟨⟨_, (), rfl, (congrArg nI (by unfold m_pt; rw [if_pos (by omega), if_pos (by unfold m_hi; (repeat' split) <;> omega), if_neg (by omega)])), by show va_P D vwCl _ t.heap; rw [ht]; exact hP⟩, hS.F ht⟩) hS.2.2 dX5_isPart_205
              · skip
                refine lv_aload_n hx hb dX5_isPart_139 rfl (lv_at hl 1 rfl) ?_
                refine o_bipush (k := 57) hx hb dX5_isPart_140 (by decide) ?_
                refine o_wi (va_runV (As := [.int (nI 57)]) (rest := []) ⟨hx, hb, hml, hown, hts⟩ (k_X5_isDigit l D cI cR cS cL H.size q (va_up (va_up v 0 (va_up (v 0) 3 ((v 0 3) + 2))) 4 (va_up (va_up (v 4) (3 * (v 0 5)) (v 3 (v 0 3))) (3 * (v 0 5) + 1) ((v 3 ((v 0 3) + 1)) - 48))) 57 (by show ((v 0 3) + 2) < 2 ^ 31; first | assumption | omega) (by show v 0 1 ≤ 60; first | assumption | omega) (by show ∀ k, v 3 k < 2 ^ 31; first | assumption | omega) (by show 57 < 2 ^ 31; first | assumption | omega)) (cwV 1 hts gX5_isPart_X5_isDigit rfl rfl rfl (by decide +kernel) ⟨Nat.le_of_ble_eq_true rfl, Nat.le_of_ble_eq_true rfl⟩) (o_v (o_pB hK hN hP hD) (va_recv hK hP (ci := 5) (q0 := 0) rfl rfl)) rfl rfl hl.1 rfl (lv_room (Nat.le_of_ble_eq_true rfl)) dX5_isPart_142 ⟨Nat.zero_le _, Nat.zero_le _⟩) hP hD hS hA [0, 1, 2, 3, 4] (by decide) rfl (fun _ => rfl) (fun r_107 _ H locs e_106 hP hD hS => ?_)
                have e_106 : r_107 = nI (bn (((v 0 3) + 2) < v 0 1 ∧ 48 ≤ v 3 (((v 0 3) + 2)) ∧ v 3 (((v 0 3) + 2)) ≤ 57)) := e_106
                subst e_106
                have hP : va_P D vwCl (wM q cI (va_up (va_up v 0 (if ((v 0 3) + 2) < v 0 1 ∧ 48 ≤ v 3 (((v 0 3) + 2)) ∧ v 3 (((v 0 3) + 2)) ≤ 57 then (va_up (va_up (v 0) 3 ((v 0 3) + 2)) 3 ((v 0 3) + 3)) else (va_up (va_up (v 0) 3 ((v 0 3) + 2)) 4 (bn (((v 0 3) + 2) < v 0 1))))) 4 (va_up (va_up (v 4) (3 * (v 0 5)) (v 3 (v 0 3))) (3 * (v 0 5) + 1) ((v 3 ((v 0 3) + 1)) - 48)))) H := hP
                have hD : va_D A (wM q cI (va_up (va_up v 0 (if ((v 0 3) + 2) < v 0 1 ∧ 48 ≤ v 3 (((v 0 3) + 2)) ∧ v 3 (((v 0 3) + 2)) ≤ 57 then (va_up (va_up (v 0) 3 ((v 0 3) + 2)) 3 ((v 0 3) + 3)) else (va_up (va_up (v 0) 3 ((v 0 3) + 2)) 4 (bn (((v 0 3) + 2) < v 0 1))))) 4 (va_up (va_up (v 4) (3 * (v 0 5)) (v 3 (v 0 3))) (3 * (v 0 5) + 1) ((v 3 ((v 0 3) + 1)) - 48)))) := hD
                refine o_ifz (tgt := 157) hx hb dX5_isPart_145 (by decide) (fun c_108 => ?_) (fun c_108 => ?_)
                · skip
                  rw [if_neg c_108] at hP hD
                  have hP : va_P D vwCl (wM q cI (va_up (va_up v 0 (va_up (va_up (v 0) 3 ((v 0 3) + 2)) 4 (bn (((v 0 3) + 2) < v 0 1)))) 4 (va_up (va_up (v 4) (3 * (v 0 5)) (v 3 (v 0 3))) (3 * (v 0 5) + 1) ((v 3 ((v 0 3) + 1)) - 48)))) H := hP
                  have hD : va_D A (wM q cI (va_up (va_up v 0 (va_up (va_up (v 0) 3 ((v 0 3) + 2)) 4 (bn (((v 0 3) + 2) < v 0 1)))) 4 (va_up (va_up (v 4) (3 * (v 0 5)) (v 3 (v 0 3))) (3 * (v 0 5) + 1) ((v 3 ((v 0 3) + 1)) - 48)))) := hD
                  refine o_const (k := 0) hx hb dX5_isPart_157 (by decide) ?_
                  have w_109 : (wM q cI (va_up (va_up v 0 (va_up (va_up (v 0) 3 (m_pt (v 3) (v 0 1) (v 0 5) (v 0 3) (v 0 4) (v 4)).1) 4 (m_pt (v 3) (v 0 1) (v 0 5) (v 0 3) (v 0 4) (v 4)).2.1)) 4 (m_pt (v 3) (v 0 1) (v 0 5) (v 0 3) (v 0 4) (v 4)).2.2.1)) = (wM q cI (va_up (va_up v 0 (va_up (va_up (v 0) 3 ((v 0 3) + 2)) 4 (bn (((v 0 3) + 2) < v 0 1)))) 4 (va_up (va_up (v 4) (3 * (v 0 5)) (v 3 (v 0 3))) (3 * (v 0 5) + 1) ((v 3 ((v 0 3) + 1)) - 48)))) := (by unfold m_pt; rw [if_pos (by omega), if_pos (by unfold m_hi; (repeat' split) <;> omega), if_pos (by omega), if_neg (by omega)]; first | done | rfl)
                  rw [← w_109] at hP
                  exact W.zret (v := nI 0) hx hb hrt rfl (fun t ht hW => ⟨⟨_, (), rfl, (congrArg nI (by unfold m_pt; rw [if_pos (by omega), if_pos (by unfold m_hi; (repeat' split) <;> omega), if_pos (by omega), if_neg (by omega)])), by show va_P D vwCl _ t.heap; rw [ht]; exact hP⟩, hS.F ht⟩) hS.2.2 dX5_isPart_158
                · skip
                  rw [if_pos c_108] at hP hD
                  have hP : va_P D vwCl (wM q cI (va_up (va_up v 0 (va_up (v 0) 3 ((v 0 3) + 3))) 4 (va_up (va_up (v 4) (3 * (v 0 5)) (v 3 (v 0 3))) (3 * (v 0 5) + 1) ((v 3 ((v 0 3) + 1)) - 48)))) H := hP
                  have hD : va_D A (wM q cI (va_up (va_up v 0 (va_up (v 0) 3 ((v 0 3) + 3))) 4 (va_up (va_up (v 4) (3 * (v 0 5)) (v 3 (v 0 3))) (3 * (v 0 5) + 1) ((v 3 ((v 0 3) + 1)) - 48)))) := hD
                  refine lv_aload_n hx hb dX5_isPart_148 rfl (lv_at hl 1 rfl) ?_
                  refine o_bipush (k := 57) hx hb dX5_isPart_149 (by decide) ?_
                  refine o_wi (va_runV (As := [.int (nI 57)]) (rest := []) ⟨hx, hb, hml, hown, hts⟩ (k_X5_isDigit l D cI cR cS cL H.size q (va_up (va_up v 0 (va_up (v 0) 3 ((v 0 3) + 3))) 4 (va_up (va_up (v 4) (3 * (v 0 5)) (v 3 (v 0 3))) (3 * (v 0 5) + 1) ((v 3 ((v 0 3) + 1)) - 48))) 57 (by show ((v 0 3) + 3) < 2 ^ 31; first | assumption | omega) (by show v 0 1 ≤ 60; first | assumption | omega) (by show ∀ k, v 3 k < 2 ^ 31; first | assumption | omega) (by show 57 < 2 ^ 31; first | assumption | omega)) (cwV 1 hts gX5_isPart_X5_isDigit rfl rfl rfl (by decide +kernel) ⟨Nat.le_of_ble_eq_true rfl, Nat.le_of_ble_eq_true rfl⟩) (o_v (o_pB hK hN hP hD) (va_recv hK hP (ci := 5) (q0 := 0) rfl rfl)) rfl rfl hl.1 rfl (lv_room (Nat.le_of_ble_eq_true rfl)) dX5_isPart_151 ⟨Nat.zero_le _, Nat.zero_le _⟩) hP hD hS hA [0, 1, 2, 3, 4] (by decide) rfl (fun _ => rfl) (fun r_111 _ H locs e_110 hP hD hS => ?_)
                  have e_110 : r_111 = nI (bn (((v 0 3) + 3) < v 0 1 ∧ 48 ≤ v 3 (((v 0 3) + 3)) ∧ v 3 (((v 0 3) + 3)) ≤ 57)) := e_110
                  subst e_110
                  have hP : va_P D vwCl (wM q cI (va_up (va_up v 0 (if ((v 0 3) + 3) < v 0 1 ∧ 48 ≤ v 3 (((v 0 3) + 3)) ∧ v 3 (((v 0 3) + 3)) ≤ 57 then (va_up (va_up (v 0) 3 ((v 0 3) + 3)) 3 ((v 0 3) + 4)) else (va_up (va_up (v 0) 3 ((v 0 3) + 3)) 4 (bn (((v 0 3) + 3) < v 0 1))))) 4 (va_up (va_up (v 4) (3 * (v 0 5)) (v 3 (v 0 3))) (3 * (v 0 5) + 1) ((v 3 ((v 0 3) + 1)) - 48)))) H := hP
                  have hD : va_D A (wM q cI (va_up (va_up v 0 (if ((v 0 3) + 3) < v 0 1 ∧ 48 ≤ v 3 (((v 0 3) + 3)) ∧ v 3 (((v 0 3) + 3)) ≤ 57 then (va_up (va_up (v 0) 3 ((v 0 3) + 3)) 3 ((v 0 3) + 4)) else (va_up (va_up (v 0) 3 ((v 0 3) + 3)) 4 (bn (((v 0 3) + 3) < v 0 1))))) 4 (va_up (va_up (v 4) (3 * (v 0 5)) (v 3 (v 0 3))) (3 * (v 0 5) + 1) ((v 3 ((v 0 3) + 1)) - 48)))) := hD
                  refine o_ifnz (tgt := 159) hx hb dX5_isPart_154 (by decide) (fun c_112 => ?_) (fun c_112 => ?_)
                  · skip
                    rw [if_pos c_112] at hP hD
                    have hP : va_P D vwCl (wM q cI (va_up (va_up v 0 (va_up (v 0) 3 ((v 0 3) + 4))) 4 (va_up (va_up (v 4) (3 * (v 0 5)) (v 3 (v 0 3))) (3 * (v 0 5) + 1) ((v 3 ((v 0 3) + 1)) - 48)))) H := hP
                    have hD : va_D A (wM q cI (va_up (va_up v 0 (va_up (v 0) 3 ((v 0 3) + 4))) 4 (va_up (va_up (v 4) (3 * (v 0 5)) (v 3 (v 0 3))) (3 * (v 0 5) + 1) ((v 3 ((v 0 3) + 1)) - 48)))) := hD
                    refine lv_aload_n hx hb dX5_isPart_159 rfl (lv_at hl 1 rfl) ?_
                    refine va_get (D := D) (ci := 5) (v := .ref (q 4)) (C := RX5) (T := TX5) (N := 10) hx hb hts inX5_isPart_X5 hown hK hP 0 rfl rfl 8 (by decide) (hts (.fieldLink RX5 19 "OddNoticeModel" "told" "[I") (List.mem_of_getElem? (i := 3) (by decide +kernel))) (fun _ h9 => h9) rfl dX5_isPart_160 ?_
                    refine o_const (k := 3) hx hb dX5_isPart_163 (by decide) ?_
                    refine lv_aload_n hx hb dX5_isPart_164 rfl (lv_at hl 1 rfl) ?_
                    refine va_get (D := D) (ci := 5) (v := .int (nI (v 0 5))) (C := RX5) (T := TX5) (N := 10) hx hb hts inX5_isPart_X5 hown hK hP 0 rfl rfl 9 (by decide) (hts (.fieldLink RX5 106 "OddNoticeModel" "tolds" "I") (List.mem_of_getElem? (i := 4) (by decide +kernel))) (fun _ h9 => h9) rfl dX5_isPart_165 ?_
                    refine o_imul (a := 3) (b := (v 0 5)) (k := (3 * (v 0 5))) hx hb dX5_isPart_168 rfl ?_
                    refine o_const (k := 2) hx hb dX5_isPart_169 (by decide) ?_
                    refine o_iadd (a := (3 * (v 0 5))) (b := 2) (k := (3 * (v 0 5) + 2)) hx hb dX5_isPart_170 rfl ?_
                    refine o_bipush (k := 10) hx hb dX5_isPart_171 (by decide) ?_
                    refine lv_aload_n hx hb dX5_isPart_173 rfl (lv_at hl 1 rfl) ?_
                    refine va_get (D := D) (ci := 5) (v := .ref (q 3)) (C := RX5) (T := TX5) (N := 10) hx hb hts inX5_isPart_X5 hown hK hP 0 rfl rfl 3 (by decide) (hts (.fieldLink RX5 16 "OddNoticeModel" "text" "[I") (List.mem_of_getElem? (i := 1) (by decide +kernel))) (fun _ h9 => h9) rfl dX5_isPart_174 ?_
                    refine lv_aload_n hx hb dX5_isPart_177 rfl (lv_at hl 1 rfl) ?_
                    refine va_get (D := D) (ci := 5) (v := .int (nI ((v 0 3) + 4))) (C := RX5) (T := TX5) (N := 10) hx hb hts inX5_isPart_X5 hown hK hP 0 rfl rfl 6 (by decide) (hts (.fieldLink RX5 89 "OddNoticeModel" "at" "I") (List.mem_of_getElem? (i := 2) (by decide +kernel))) (fun _ h9 => h9) rfl dX5_isPart_178 ?_
                    refine o_const (k := 2) hx hb dX5_isPart_181 (by decide) ?_
                    refine o_isub (a := ((v 0 3) + 4)) (b := 2) (k := ((v 0 3) + 2)) hx hb dX5_isPart_182 (by omega) (by omega) ?_
                    refine o_iald (v := nI (v 3 ((v 0 3) + 2))) hx hb hK hP 3 0 rfl rfl (by omega) (Nat.le_of_ble_eq_true rfl) rfl dX5_isPart_183 ?_
                    have f_113 := ht ((v 0 3) + 2)
                    refine o_bipush (k := 48) hx hb dX5_isPart_184 (by decide) ?_
                    refine o_isub (a := (v 3 ((v 0 3) + 2))) (b := 48) (k := ((v 3 ((v 0 3) + 2)) - 48)) hx hb dX5_isPart_186 (by omega) rfl ?_
                    refine o_imul (a := 10) (b := ((v 3 ((v 0 3) + 2)) - 48)) (k := (10 * ((v 3 ((v 0 3) + 2)) - 48))) hx hb dX5_isPart_187 rfl ?_
                    refine lv_aload_n hx hb dX5_isPart_188 rfl (lv_at hl 1 rfl) ?_
                    refine va_get (D := D) (ci := 5) (v := .ref (q 3)) (C := RX5) (T := TX5) (N := 10) hx hb hts inX5_isPart_X5 hown hK hP 0 rfl rfl 3 (by decide) (hts (.fieldLink RX5 16 "OddNoticeModel" "text" "[I") (List.mem_of_getElem? (i := 1) (by decide +kernel))) (fun _ h9 => h9) rfl dX5_isPart_189 ?_
                    refine lv_aload_n hx hb dX5_isPart_192 rfl (lv_at hl 1 rfl) ?_
                    refine va_get (D := D) (ci := 5) (v := .int (nI ((v 0 3) + 4))) (C := RX5) (T := TX5) (N := 10) hx hb hts inX5_isPart_X5 hown hK hP 0 rfl rfl 6 (by decide) (hts (.fieldLink RX5 89 "OddNoticeModel" "at" "I") (List.mem_of_getElem? (i := 2) (by decide +kernel))) (fun _ h9 => h9) rfl dX5_isPart_193 ?_
                    refine o_const (k := 1) hx hb dX5_isPart_196 (by decide) ?_
                    refine o_isub (a := ((v 0 3) + 4)) (b := 1) (k := ((v 0 3) + 3)) hx hb dX5_isPart_197 (by omega) (by omega) ?_
                    refine o_iald (v := nI (v 3 ((v 0 3) + 3))) hx hb hK hP 3 0 rfl rfl (by omega) (Nat.le_of_ble_eq_true rfl) rfl dX5_isPart_198 ?_
                    have f_114 := ht ((v 0 3) + 3)
                    refine o_iadd (a := (10 * ((v 3 ((v 0 3) + 2)) - 48))) (b := (v 3 ((v 0 3) + 3))) (k := (10 * ((v 3 ((v 0 3) + 2)) - 48) + (v 3 ((v 0 3) + 3)))) hx hb dX5_isPart_199 rfl ?_
                    refine o_bipush (k := 48) hx hb dX5_isPart_200 (by decide) ?_
                    refine o_isub (a := (10 * ((v 3 ((v 0 3) + 2)) - 48) + (v 3 ((v 0 3) + 3)))) (b := 48) (k := (10 * ((v 3 ((v 0 3) + 2)) - 48) + (v 3 ((v 0 3) + 3)) - 48)) hx hb dX5_isPart_202 (by omega) rfl ?_
                    refine o_iast (g := (va_up (va_up (v 4) (3 * (v 0 5)) (v 3 (v 0 3))) (3 * (v 0 5) + 1) ((v 3 ((v 0 3) + 1)) - 48))) hx hb hK hP hD hS 4 0 rfl rfl (by omega) (Nat.le_of_ble_eq_true rfl) dX5_isPart_203 (fun H locs hP hD hS => ?_)
                    have hP : va_P D vwCl (wM q cI (va_up (va_up v 0 (va_up (v 0) 3 ((v 0 3) + 4))) 4 (va_up (va_up (va_up (v 4) (3 * (v 0 5)) (v 3 (v 0 3))) (3 * (v 0 5) + 1) ((v 3 ((v 0 3) + 1)) - 48)) (3 * (v 0 5) + 2) (10 * ((v 3 ((v 0 3) + 2)) - 48) + (v 3 ((v 0 3) + 3)) - 48)))) H := hP
                    have hD : va_D A (wM q cI (va_up (va_up v 0 (va_up (v 0) 3 ((v 0 3) + 4))) 4 (va_up (va_up (va_up (v 4) (3 * (v 0 5)) (v 3 (v 0 3))) (3 * (v 0 5) + 1) ((v 3 ((v 0 3) + 1)) - 48)) (3 * (v 0 5) + 2) (10 * ((v 3 ((v 0 3) + 2)) - 48) + (v 3 ((v 0 3) + 3)) - 48)))) := hD
                    refine o_const (k := 1) hx hb dX5_isPart_204 (by decide) ?_
                    have w_115 : (wM q cI (va_up (va_up v 0 (va_up (va_up (v 0) 3 (m_pt (v 3) (v 0 1) (v 0 5) (v 0 3) (v 0 4) (v 4)).1) 4 (m_pt (v 3) (v 0 1) (v 0 5) (v 0 3) (v 0 4) (v 4)).2.1)) 4 (m_pt (v 3) (v 0 1) (v 0 5) (v 0 3) (v 0 4) (v 4)).2.2.1)) = (wM q cI (va_up (va_up v 0 (va_up (v 0) 3 ((v 0 3) + 4))) 4 (va_up (va_up (va_up (v 4) (3 * (v 0 5)) (v 3 (v 0 3))) (3 * (v 0 5) + 1) ((v 3 ((v 0 3) + 1)) - 48)) (3 * (v 0 5) + 2) (10 * ((v 3 ((v 0 3) + 2)) - 48) + (v 3 ((v 0 3) + 3)) - 48)))) := (by unfold m_pt; rw [if_pos (by omega), if_pos (by unfold m_hi; (repeat' split) <;> omega), if_pos (by omega), if_pos (by omega), if_pos (by omega)]; first | done | rfl)
                    rw [← w_115] at hP
                    exact W.zret (v := nI 1) hx hb hrt rfl (fun t ht hW => ⟨⟨_, (), rfl, (congrArg nI (by unfold m_pt; rw [if_pos (by omega), if_pos (by unfold m_hi; (repeat' split) <;> omega), if_pos (by omega), if_pos (by omega), if_pos (by omega)])), by show va_P D vwCl _ t.heap; rw [ht]; exact hP⟩, hS.F ht⟩) hS.2.2 dX5_isPart_205
                  · skip
                    rw [if_neg c_112] at hP hD
                    have hP : va_P D vwCl (wM q cI (va_up (va_up v 0 (va_up (va_up (v 0) 3 ((v 0 3) + 3)) 4 (bn (((v 0 3) + 3) < v 0 1)))) 4 (va_up (va_up (v 4) (3 * (v 0 5)) (v 3 (v 0 3))) (3 * (v 0 5) + 1) ((v 3 ((v 0 3) + 1)) - 48)))) H := hP
                    have hD : va_D A (wM q cI (va_up (va_up v 0 (va_up (va_up (v 0) 3 ((v 0 3) + 3)) 4 (bn (((v 0 3) + 3) < v 0 1)))) 4 (va_up (va_up (v 4) (3 * (v 0 5)) (v 3 (v 0 3))) (3 * (v 0 5) + 1) ((v 3 ((v 0 3) + 1)) - 48)))) := hD
                    refine o_const (k := 0) hx hb dX5_isPart_157 (by decide) ?_
                    have w_116 : (wM q cI (va_up (va_up v 0 (va_up (va_up (v 0) 3 (m_pt (v 3) (v 0 1) (v 0 5) (v 0 3) (v 0 4) (v 4)).1) 4 (m_pt (v 3) (v 0 1) (v 0 5) (v 0 3) (v 0 4) (v 4)).2.1)) 4 (m_pt (v 3) (v 0 1) (v 0 5) (v 0 3) (v 0 4) (v 4)).2.2.1)) = (wM q cI (va_up (va_up v 0 (va_up (va_up (v 0) 3 ((v 0 3) + 3)) 4 (bn (((v 0 3) + 3) < v 0 1)))) 4 (va_up (va_up (v 4) (3 * (v 0 5)) (v 3 (v 0 3))) (3 * (v 0 5) + 1) ((v 3 ((v 0 3) + 1)) - 48)))) := (by unfold m_pt; rw [if_pos (by omega), if_pos (by unfold m_hi; (repeat' split) <;> omega), if_pos (by omega), if_pos (by omega), if_neg (by omega)]; first | done | rfl)
                    rw [← w_116] at hP
                    exact W.zret (v := nI 0) hx hb hrt rfl (fun t ht hW => ⟨⟨_, (), rfl, (congrArg nI (by unfold m_pt; rw [if_pos (by omega), if_pos (by unfold m_hi; (repeat' split) <;> omega), if_pos (by omega), if_pos (by omega), if_neg (by omega)])), by show va_P D vwCl _ t.heap; rw [ht]; exact hP⟩, hS.F ht⟩) hS.2.2 dX5_isPart_158
            · skip
              rw [if_neg c_102] at hP hD
              have hP : va_P D vwCl (wM q cI (va_up v 0 (va_up (va_up (v 0) 3 ((v 0 3) + 1)) 4 (bn (((v 0 3) + 1) < v 0 1))))) H := hP
              have hD : va_D A (wM q cI (va_up v 0 (va_up (va_up (v 0) 3 ((v 0 3) + 1)) 4 (bn (((v 0 3) + 1) < v 0 1))))) := hD
              refine o_const (k := 0) hx hb dX5_isPart_92 (by decide) ?_
              have w_117 : (wM q cI (va_up (va_up v 0 (va_up (va_up (v 0) 3 (m_pt (v 3) (v 0 1) (v 0 5) (v 0 3) (v 0 4) (v 4)).1) 4 (m_pt (v 3) (v 0 1) (v 0 5) (v 0 3) (v 0 4) (v 4)).2.1)) 4 (m_pt (v 3) (v 0 1) (v 0 5) (v 0 3) (v 0 4) (v 4)).2.2.1)) = (wM q cI (va_up v 0 (va_up (va_up (v 0) 3 ((v 0 3) + 1)) 4 (bn (((v 0 3) + 1) < v 0 1))))) := (by unfold m_pt; rw [if_pos (by omega), if_neg (by unfold m_hi; (repeat' split) <;> omega)]; first | done | rfl)
              rw [← w_117] at hP
              exact W.zret (v := nI 0) hx hb hrt rfl (fun t ht hW => ⟨⟨_, (), rfl, (congrArg nI (by unfold m_pt; rw [if_pos (by omega), if_neg (by unfold m_hi; (repeat' split) <;> omega)])), by show va_P D vwCl _ t.heap; rw [ht]; exact hP⟩, hS.F ht⟩) hS.2.2 dX5_isPart_93
          · skip
            refine o_bipush (k := 50) hx hb dX5_isPart_79 (by decide) ?_
            refine lv_goto (tgt := 86) hx hb dX5_isPart_81 (by decide) ?_
            refine o_wi (va_runV (As := [.int (nI 50)]) (rest := []) ⟨hx, hb, hml, hown, hts⟩ (k_X5_isDigit l D cI cR cS cL H.size q (va_up v 0 (va_up (v 0) 3 ((v 0 3) + 1))) 50 (by show ((v 0 3) + 1) < 2 ^ 31; first | assumption | omega) (by show v 0 1 ≤ 60; first | assumption | omega) (by show ∀ k, v 3 k < 2 ^ 31; first | assumption | omega) (by show 50 < 2 ^ 31; first | assumption | omega)) (cwV 1 hts gX5_isPart_X5_isDigit rfl rfl rfl (by decide +kernel) ⟨Nat.le_of_ble_eq_true rfl, Nat.le_of_ble_eq_true rfl⟩) (o_v (o_pB hK hN hP hD) (va_recv hK hP (ci := 5) (q0 := 0) rfl rfl)) rfl rfl hl.1 rfl (lv_room (Nat.le_of_ble_eq_true rfl)) dX5_isPart_86 ⟨Nat.zero_le _, Nat.zero_le _⟩) hP hD hS hA [0, 1, 2, 3, 4] (by decide) rfl (fun _ => rfl) (fun r_119 _ H locs e_118 hP hD hS => ?_)
            have e_118 : r_119 = nI (bn (((v 0 3) + 1) < v 0 1 ∧ 48 ≤ v 3 (((v 0 3) + 1)) ∧ v 3 (((v 0 3) + 1)) ≤ 50)) := e_118
            subst e_118
            have hP : va_P D vwCl (wM q cI (va_up v 0 (if ((v 0 3) + 1) < v 0 1 ∧ 48 ≤ v 3 (((v 0 3) + 1)) ∧ v 3 (((v 0 3) + 1)) ≤ 50 then (va_up (va_up (v 0) 3 ((v 0 3) + 1)) 3 ((v 0 3) + 2)) else (va_up (va_up (v 0) 3 ((v 0 3) + 1)) 4 (bn (((v 0 3) + 1) < v 0 1)))))) H := hP
            have hD : va_D A (wM q cI (va_up v 0 (if ((v 0 3) + 1) < v 0 1 ∧ 48 ≤ v 3 (((v 0 3) + 1)) ∧ v 3 (((v 0 3) + 1)) ≤ 50 then (va_up (va_up (v 0) 3 ((v 0 3) + 1)) 3 ((v 0 3) + 2)) else (va_up (va_up (v 0) 3 ((v 0 3) + 1)) 4 (bn (((v 0 3) + 1) < v 0 1)))))) := hD
            refine o_ifnz (tgt := 94) hx hb dX5_isPart_89 (by decide) (fun c_120 => ?_) (fun c_120 => ?_)
            · skip
              rw [if_pos c_120] at hP hD
              have hP : va_P D vwCl (wM q cI (va_up v 0 (va_up (v 0) 3 ((v 0 3) + 2)))) H := hP
              have hD : va_D A (wM q cI (va_up v 0 (va_up (v 0) 3 ((v 0 3) + 2)))) := hD
              refine lv_aload_n hx hb dX5_isPart_94 rfl (lv_at hl 1 rfl) ?_
              refine va_get (D := D) (ci := 5) (v := .ref (q 4)) (C := RX5) (T := TX5) (N := 10) hx hb hts inX5_isPart_X5 hown hK hP 0 rfl rfl 8 (by decide) (hts (.fieldLink RX5 19 "OddNoticeModel" "told" "[I") (List.mem_of_getElem? (i := 3) (by decide +kernel))) (fun _ h9 => h9) rfl dX5_isPart_95 ?_
              refine o_const (k := 3) hx hb dX5_isPart_98 (by decide) ?_
              refine lv_aload_n hx hb dX5_isPart_99 rfl (lv_at hl 1 rfl) ?_
              refine va_get (D := D) (ci := 5) (v := .int (nI (v 0 5))) (C := RX5) (T := TX5) (N := 10) hx hb hts inX5_isPart_X5 hown hK hP 0 rfl rfl 9 (by decide) (hts (.fieldLink RX5 106 "OddNoticeModel" "tolds" "I") (List.mem_of_getElem? (i := 4) (by decide +kernel))) (fun _ h9 => h9) rfl dX5_isPart_100 ?_
              refine o_imul (a := 3) (b := (v 0 5)) (k := (3 * (v 0 5))) hx hb dX5_isPart_103 rfl ?_
              refine lv_iload_n hx hb dX5_isPart_104 rfl (lv_at hl 0 rfl) ?_
              refine o_iast (g := (v 4)) hx hb hK hP hD hS 4 0 rfl rfl (by omega) (Nat.le_of_ble_eq_true rfl) dX5_isPart_105 (fun H locs hP hD hS => ?_)
              have hP : va_P D vwCl (wM q cI (va_up (va_up v 0 (va_up (v 0) 3 ((v 0 3) + 2))) 4 (va_up (v 4) (3 * (v 0 5)) (v 3 (v 0 3))))) H := hP
              have hD : va_D A (wM q cI (va_up (va_up v 0 (va_up (v 0) 3 ((v 0 3) + 2))) 4 (va_up (v 4) (3 * (v 0 5)) (v 3 (v 0 3))))) := hD
              refine lv_aload_n hx hb dX5_isPart_106 rfl (lv_at hl 1 rfl) ?_
              refine va_get (D := D) (ci := 5) (v := .ref (q 4)) (C := RX5) (T := TX5) (N := 10) hx hb hts inX5_isPart_X5 hown hK hP 0 rfl rfl 8 (by decide) (hts (.fieldLink RX5 19 "OddNoticeModel" "told" "[I") (List.mem_of_getElem? (i := 3) (by decide +kernel))) (fun _ h9 => h9) rfl dX5_isPart_107 ?_
              refine o_const (k := 3) hx hb dX5_isPart_110 (by decide) ?_
              refine lv_aload_n hx hb dX5_isPart_111 rfl (lv_at hl 1 rfl) ?_
              refine va_get (D := D) (ci := 5) (v := .int (nI (v 0 5))) (C := RX5) (T := TX5) (N := 10) hx hb hts inX5_isPart_X5 hown hK hP 0 rfl rfl 9 (by decide) (hts (.fieldLink RX5 106 "OddNoticeModel" "tolds" "I") (List.mem_of_getElem? (i := 4) (by decide +kernel))) (fun _ h9 => h9) rfl dX5_isPart_112 ?_
              refine o_imul (a := 3) (b := (v 0 5)) (k := (3 * (v 0 5))) hx hb dX5_isPart_115 rfl ?_
              refine o_const (k := 1) hx hb dX5_isPart_116 (by decide) ?_
              refine o_iadd (a := (3 * (v 0 5))) (b := 1) (k := (3 * (v 0 5) + 1)) hx hb dX5_isPart_117 rfl ?_
              refine lv_aload_n hx hb dX5_isPart_118 rfl (lv_at hl 1 rfl) ?_
              refine va_get (D := D) (ci := 5) (v := .ref (q 3)) (C := RX5) (T := TX5) (N := 10) hx hb hts inX5_isPart_X5 hown hK hP 0 rfl rfl 3 (by decide) (hts (.fieldLink RX5 16 "OddNoticeModel" "text" "[I") (List.mem_of_getElem? (i := 1) (by decide +kernel))) (fun _ h9 => h9) rfl dX5_isPart_119 ?_
              refine lv_aload_n hx hb dX5_isPart_122 rfl (lv_at hl 1 rfl) ?_
              refine va_get (D := D) (ci := 5) (v := .int (nI ((v 0 3) + 2))) (C := RX5) (T := TX5) (N := 10) hx hb hts inX5_isPart_X5 hown hK hP 0 rfl rfl 6 (by decide) (hts (.fieldLink RX5 89 "OddNoticeModel" "at" "I") (List.mem_of_getElem? (i := 2) (by decide +kernel))) (fun _ h9 => h9) rfl dX5_isPart_123 ?_
              refine o_const (k := 1) hx hb dX5_isPart_126 (by decide) ?_
              refine o_isub (a := ((v 0 3) + 2)) (b := 1) (k := ((v 0 3) + 1)) hx hb dX5_isPart_127 (by omega) (by omega) ?_
              refine o_iald (v := nI (v 3 ((v 0 3) + 1))) hx hb hK hP 3 0 rfl rfl (by omega) (Nat.le_of_ble_eq_true rfl) rfl dX5_isPart_128 ?_
              have f_121 := ht ((v 0 3) + 1)
              refine o_bipush (k := 48) hx hb dX5_isPart_129 (by decide) ?_
              refine o_isub (a := (v 3 ((v 0 3) + 1))) (b := 48) (k := ((v 3 ((v 0 3) + 1)) - 48)) hx hb dX5_isPart_131 (by omega) rfl ?_
              refine o_iast (g := (va_up (v 4) (3 * (v 0 5)) (v 3 (v 0 3)))) hx hb hK hP hD hS 4 0 rfl rfl (by omega) (Nat.le_of_ble_eq_true rfl) dX5_isPart_132 (fun H locs hP hD hS => ?_)
              have hP : va_P D vwCl (wM q cI (va_up (va_up v 0 (va_up (v 0) 3 ((v 0 3) + 2))) 4 (va_up (va_up (v 4) (3 * (v 0 5)) (v 3 (v 0 3))) (3 * (v 0 5) + 1) ((v 3 ((v 0 3) + 1)) - 48)))) H := hP
              have hD : va_D A (wM q cI (va_up (va_up v 0 (va_up (v 0) 3 ((v 0 3) + 2))) 4 (va_up (va_up (v 4) (3 * (v 0 5)) (v 3 (v 0 3))) (3 * (v 0 5) + 1) ((v 3 ((v 0 3) + 1)) - 48)))) := hD
              refine lv_iload_n hx hb dX5_isPart_133 rfl (lv_at hl 0 rfl) ?_
              refine o_bipush (k := 119) hx hb dX5_isPart_134 (by decide) ?_
              refine o_icmp_ne (tgt := 204) hx hb dX5_isPart_136 (by decide) (by omega) (Nat.le_of_ble_eq_true rfl) (fun c_122 => ?_) (fun c_122 => ?_)
              · skip
                refine o_const (k := 1) hx hb dX5_isPart_204 (by decide) ?_
                have w_123 : (wM q cI (va_up (va_up v 0 (va_up (va_up (v 0) 3 (m_pt (v 3) (v 0 1) (v 0 5) (v 0 3) (v 0 4) (v 4)).1) 4 (m_pt (v 3) (v 0 1) (v 0 5) (v 0 3) (v 0 4) (v 4)).2.1)) 4 (m_pt (v 3) (v 0 1) (v 0 5) (v 0 3) (v 0 4) (v 4)).2.2.1)) = (wM q cI (va_up (va_up v 0 (va_up (v 0) 3 ((v 0 3) + 2))) 4 (va_up (va_up (v 4) (3 * (v 0 5)) (v 3 (v 0 3))) (3 * (v 0 5) + 1) ((v 3 ((v 0 3) + 1)) - 48)))) := (by unfold m_pt; rw [if_pos (by omega), if_pos (by unfold m_hi; (repeat' split) <;> omega), if_neg (by omega)]; first | done | rfl)
                rw [← w_123] at hP
                exact W.zret (v := nI 1) hx hb hrt rfl (fun t ht hW => ⟨⟨_, (), rfl, (congrArg nI (by unfold m_pt; rw [if_pos (by omega), if_pos (by unfold m_hi; (repeat' split) <;> omega), if_neg (by omega)])), by show va_P D vwCl _ t.heap; rw [ht]; exact hP⟩, hS.F ht⟩) hS.2.2 dX5_isPart_205
              · skip
                refine lv_aload_n hx hb dX5_isPart_139 rfl (lv_at hl 1 rfl) ?_
                refine o_bipush (k := 57) hx hb dX5_isPart_140 (by decide) ?_
                refine o_wi (va_runV (As := [.int (nI 57)]) (rest := []) ⟨hx, hb, hml, hown, hts⟩ (k_X5_isDigit l D cI cR cS cL H.size q (va_up (va_up v 0 (va_up (v 0) 3 ((v 0 3) + 2))) 4 (va_up (va_up (v 4) (3 * (v 0 5)) (v 3 (v 0 3))) (3 * (v 0 5) + 1) ((v 3 ((v 0 3) + 1)) - 48))) 57 (by show ((v 0 3) + 2) < 2 ^ 31; first | assumption | omega) (by show v 0 1 ≤ 60; first | assumption | omega) (by show ∀ k, v 3 k < 2 ^ 31; first | assumption | omega) (by show 57 < 2 ^ 31; first | assumption | omega)) (cwV 1 hts gX5_isPart_X5_isDigit rfl rfl rfl (by decide +kernel) ⟨Nat.le_of_ble_eq_true rfl, Nat.le_of_ble_eq_true rfl⟩) (o_v (o_pB hK hN hP hD) (va_recv hK hP (ci := 5) (q0 := 0) rfl rfl)) rfl rfl hl.1 rfl (lv_room (Nat.le_of_ble_eq_true rfl)) dX5_isPart_142 ⟨Nat.zero_le _, Nat.zero_le _⟩) hP hD hS hA [0, 1, 2, 3, 4] (by decide) rfl (fun _ => rfl) (fun r_125 _ H locs e_124 hP hD hS => ?_)
                have e_124 : r_125 = nI (bn (((v 0 3) + 2) < v 0 1 ∧ 48 ≤ v 3 (((v 0 3) + 2)) ∧ v 3 (((v 0 3) + 2)) ≤ 57)) := e_124
                subst e_124
                have hP : va_P D vwCl (wM q cI (va_up (va_up v 0 (if ((v 0 3) + 2) < v 0 1 ∧ 48 ≤ v 3 (((v 0 3) + 2)) ∧ v 3 (((v 0 3) + 2)) ≤ 57 then (va_up (va_up (v 0) 3 ((v 0 3) + 2)) 3 ((v 0 3) + 3)) else (va_up (va_up (v 0) 3 ((v 0 3) + 2)) 4 (bn (((v 0 3) + 2) < v 0 1))))) 4 (va_up (va_up (v 4) (3 * (v 0 5)) (v 3 (v 0 3))) (3 * (v 0 5) + 1) ((v 3 ((v 0 3) + 1)) - 48)))) H := hP
                have hD : va_D A (wM q cI (va_up (va_up v 0 (if ((v 0 3) + 2) < v 0 1 ∧ 48 ≤ v 3 (((v 0 3) + 2)) ∧ v 3 (((v 0 3) + 2)) ≤ 57 then (va_up (va_up (v 0) 3 ((v 0 3) + 2)) 3 ((v 0 3) + 3)) else (va_up (va_up (v 0) 3 ((v 0 3) + 2)) 4 (bn (((v 0 3) + 2) < v 0 1))))) 4 (va_up (va_up (v 4) (3 * (v 0 5)) (v 3 (v 0 3))) (3 * (v 0 5) + 1) ((v 3 ((v 0 3) + 1)) - 48)))) := hD
                refine o_ifz (tgt := 157) hx hb dX5_isPart_145 (by decide) (fun c_126 => ?_) (fun c_126 => ?_)
                · skip
                  rw [if_neg c_126] at hP hD
                  have hP : va_P D vwCl (wM q cI (va_up (va_up v 0 (va_up (va_up (v 0) 3 ((v 0 3) + 2)) 4 (bn (((v 0 3) + 2) < v 0 1)))) 4 (va_up (va_up (v 4) (3 * (v 0 5)) (v 3 (v 0 3))) (3 * (v 0 5) + 1) ((v 3 ((v 0 3) + 1)) - 48)))) H := hP
                  have hD : va_D A (wM q cI (va_up (va_up v 0 (va_up (va_up (v 0) 3 ((v 0 3) + 2)) 4 (bn (((v 0 3) + 2) < v 0 1)))) 4 (va_up (va_up (v 4) (3 * (v 0 5)) (v 3 (v 0 3))) (3 * (v 0 5) + 1) ((v 3 ((v 0 3) + 1)) - 48)))) := hD
                  refine o_const (k := 0) hx hb dX5_isPart_157 (by decide) ?_
                  have w_127 : (wM q cI (va_up (va_up v 0 (va_up (va_up (v 0) 3 (m_pt (v 3) (v 0 1) (v 0 5) (v 0 3) (v 0 4) (v 4)).1) 4 (m_pt (v 3) (v 0 1) (v 0 5) (v 0 3) (v 0 4) (v 4)).2.1)) 4 (m_pt (v 3) (v 0 1) (v 0 5) (v 0 3) (v 0 4) (v 4)).2.2.1)) = (wM q cI (va_up (va_up v 0 (va_up (va_up (v 0) 3 ((v 0 3) + 2)) 4 (bn (((v 0 3) + 2) < v 0 1)))) 4 (va_up (va_up (v 4) (3 * (v 0 5)) (v 3 (v 0 3))) (3 * (v 0 5) + 1) ((v 3 ((v 0 3) + 1)) - 48)))) := (by unfold m_pt; rw [if_pos (by omega), if_pos (by unfold m_hi; (repeat' split) <;> omega), if_pos (by omega), if_neg (by omega)]; first | done | rfl)
                  rw [← w_127] at hP
                  exact W.zret (v := nI 0) hx hb hrt rfl (fun t ht hW => ⟨⟨_, (), rfl, (congrArg nI (by unfold m_pt; rw [if_pos (by omega), if_pos (by unfold m_hi; (repeat' split) <;> omega), if_pos (by omega), if_neg (by omega)])), by show va_P D vwCl _ t.heap; rw [ht]; exact hP⟩, hS.F ht⟩) hS.2.2 dX5_isPart_158
                · skip
                  rw [if_pos c_126] at hP hD
                  have hP : va_P D vwCl (wM q cI (va_up (va_up v 0 (va_up (v 0) 3 ((v 0 3) + 3))) 4 (va_up (va_up (v 4) (3 * (v 0 5)) (v 3 (v 0 3))) (3 * (v 0 5) + 1) ((v 3 ((v 0 3) + 1)) - 48)))) H := hP
                  have hD : va_D A (wM q cI (va_up (va_up v 0 (va_up (v 0) 3 ((v 0 3) + 3))) 4 (va_up (va_up (v 4) (3 * (v 0 5)) (v 3 (v 0 3))) (3 * (v 0 5) + 1) ((v 3 ((v 0 3) + 1)) - 48)))) := hD
                  refine lv_aload_n hx hb dX5_isPart_148 rfl (lv_at hl 1 rfl) ?_
                  refine o_bipush (k := 57) hx hb dX5_isPart_149 (by decide) ?_
                  refine o_wi (va_runV (As := [.int (nI 57)]) (rest := []) ⟨hx, hb, hml, hown, hts⟩ (k_X5_isDigit l D cI cR cS cL H.size q (va_up (va_up v 0 (va_up (v 0) 3 ((v 0 3) + 3))) 4 (va_up (va_up (v 4) (3 * (v 0 5)) (v 3 (v 0 3))) (3 * (v 0 5) + 1) ((v 3 ((v 0 3) + 1)) - 48))) 57 (by show ((v 0 3) + 3) < 2 ^ 31; first | assumption | omega) (by show v 0 1 ≤ 60; first | assumption | omega) (by show ∀ k, v 3 k < 2 ^ 31; first | assumption | omega) (by show 57 < 2 ^ 31; first | assumption | omega)) (cwV 1 hts gX5_isPart_X5_isDigit rfl rfl rfl (by decide +kernel) ⟨Nat.le_of_ble_eq_true rfl, Nat.le_of_ble_eq_true rfl⟩) (o_v (o_pB hK hN hP hD) (va_recv hK hP (ci := 5) (q0 := 0) rfl rfl)) rfl rfl hl.1 rfl (lv_room (Nat.le_of_ble_eq_true rfl)) dX5_isPart_151 ⟨Nat.zero_le _, Nat.zero_le _⟩) hP hD hS hA [0, 1, 2, 3, 4] (by decide) rfl (fun _ => rfl) (fun r_129 _ H locs e_128 hP hD hS => ?_)
                  have e_128 : r_129 = nI (bn (((v 0 3) + 3) < v 0 1 ∧ 48 ≤ v 3 (((v 0 3) + 3)) ∧ v 3 (((v 0 3) + 3)) ≤ 57)) := e_128
                  subst e_128
                  have hP : va_P D vwCl (wM q cI (va_up (va_up v 0 (if ((v 0 3) + 3) < v 0 1 ∧ 48 ≤ v 3 (((v 0 3) + 3)) ∧ v 3 (((v 0 3) + 3)) ≤ 57 then (va_up (va_up (v 0) 3 ((v 0 3) + 3)) 3 ((v 0 3) + 4)) else (va_up (va_up (v 0) 3 ((v 0 3) + 3)) 4 (bn (((v 0 3) + 3) < v 0 1))))) 4 (va_up (va_up (v 4) (3 * (v 0 5)) (v 3 (v 0 3))) (3 * (v 0 5) + 1) ((v 3 ((v 0 3) + 1)) - 48)))) H := hP
                  have hD : va_D A (wM q cI (va_up (va_up v 0 (if ((v 0 3) + 3) < v 0 1 ∧ 48 ≤ v 3 (((v 0 3) + 3)) ∧ v 3 (((v 0 3) + 3)) ≤ 57 then (va_up (va_up (v 0) 3 ((v 0 3) + 3)) 3 ((v 0 3) + 4)) else (va_up (va_up (v 0) 3 ((v 0 3) + 3)) 4 (bn (((v 0 3) + 3) < v 0 1))))) 4 (va_up (va_up (v 4) (3 * (v 0 5)) (v 3 (v 0 3))) (3 * (v 0 5) + 1) ((v 3 ((v 0 3) + 1)) - 48)))) := hD
                  refine o_ifnz (tgt := 159) hx hb dX5_isPart_154 (by decide) (fun c_130 => ?_) (fun c_130 => ?_)
                  · skip
                    rw [if_pos c_130] at hP hD
                    have hP : va_P D vwCl (wM q cI (va_up (va_up v 0 (va_up (v 0) 3 ((v 0 3) + 4))) 4 (va_up (va_up (v 4) (3 * (v 0 5)) (v 3 (v 0 3))) (3 * (v 0 5) + 1) ((v 3 ((v 0 3) + 1)) - 48)))) H := hP
                    have hD : va_D A (wM q cI (va_up (va_up v 0 (va_up (v 0) 3 ((v 0 3) + 4))) 4 (va_up (va_up (v 4) (3 * (v 0 5)) (v 3 (v 0 3))) (3 * (v 0 5) + 1) ((v 3 ((v 0 3) + 1)) - 48)))) := hD
                    refine lv_aload_n hx hb dX5_isPart_159 rfl (lv_at hl 1 rfl) ?_
                    refine va_get (D := D) (ci := 5) (v := .ref (q 4)) (C := RX5) (T := TX5) (N := 10) hx hb hts inX5_isPart_X5 hown hK hP 0 rfl rfl 8 (by decide) (hts (.fieldLink RX5 19 "OddNoticeModel" "told" "[I") (List.mem_of_getElem? (i := 3) (by decide +kernel))) (fun _ h9 => h9) rfl dX5_isPart_160 ?_
                    refine o_const (k := 3) hx hb dX5_isPart_163 (by decide) ?_
                    refine lv_aload_n hx hb dX5_isPart_164 rfl (lv_at hl 1 rfl) ?_
                    refine va_get (D := D) (ci := 5) (v := .int (nI (v 0 5))) (C := RX5) (T := TX5) (N := 10) hx hb hts inX5_isPart_X5 hown hK hP 0 rfl rfl 9 (by decide) (hts (.fieldLink RX5 106 "OddNoticeModel" "tolds" "I") (List.mem_of_getElem? (i := 4) (by decide +kernel))) (fun _ h9 => h9) rfl dX5_isPart_165 ?_
                    refine o_imul (a := 3) (b := (v 0 5)) (k := (3 * (v 0 5))) hx hb dX5_isPart_168 rfl ?_
                    refine o_const (k := 2) hx hb dX5_isPart_169 (by decide) ?_
                    refine o_iadd (a := (3 * (v 0 5))) (b := 2) (k := (3 * (v 0 5) + 2)) hx hb dX5_isPart_170 rfl ?_
                    refine o_bipush (k := 10) hx hb dX5_isPart_171 (by decide) ?_
                    refine lv_aload_n hx hb dX5_isPart_173 rfl (lv_at hl 1 rfl) ?_
                    refine va_get (D := D) (ci := 5) (v := .ref (q 3)) (C := RX5) (T := TX5) (N := 10) hx hb hts inX5_isPart_X5 hown hK hP 0 rfl rfl 3 (by decide) (hts (.fieldLink RX5 16 "OddNoticeModel" "text" "[I") (List.mem_of_getElem? (i := 1) (by decide +kernel))) (fun _ h9 => h9) rfl dX5_isPart_174 ?_
                    refine lv_aload_n hx hb dX5_isPart_177 rfl (lv_at hl 1 rfl) ?_
                    refine va_get (D := D) (ci := 5) (v := .int (nI ((v 0 3) + 4))) (C := RX5) (T := TX5) (N := 10) hx hb hts inX5_isPart_X5 hown hK hP 0 rfl rfl 6 (by decide) (hts (.fieldLink RX5 89 "OddNoticeModel" "at" "I") (List.mem_of_getElem? (i := 2) (by decide +kernel))) (fun _ h9 => h9) rfl dX5_isPart_178 ?_
                    refine o_const (k := 2) hx hb dX5_isPart_181 (by decide) ?_
                    refine o_isub (a := ((v 0 3) + 4)) (b := 2) (k := ((v 0 3) + 2)) hx hb dX5_isPart_182 (by omega) (by omega) ?_
                    refine o_iald (v := nI (v 3 ((v 0 3) + 2))) hx hb hK hP 3 0 rfl rfl (by omega) (Nat.le_of_ble_eq_true rfl) rfl dX5_isPart_183 ?_
                    have f_131 := ht ((v 0 3) + 2)
                    refine o_bipush (k := 48) hx hb dX5_isPart_184 (by decide) ?_
                    refine o_isub (a := (v 3 ((v 0 3) + 2))) (b := 48) (k := ((v 3 ((v 0 3) + 2)) - 48)) hx hb dX5_isPart_186 (by omega) rfl ?_
                    refine o_imul (a := 10) (b := ((v 3 ((v 0 3) + 2)) - 48)) (k := (10 * ((v 3 ((v 0 3) + 2)) - 48))) hx hb dX5_isPart_187 rfl ?_
                    refine lv_aload_n hx hb dX5_isPart_188 rfl (lv_at hl 1 rfl) ?_
                    refine va_get (D := D) (ci := 5) (v := .ref (q 3)) (C := RX5) (T := TX5) (N := 10) hx hb hts inX5_isPart_X5 hown hK hP 0 rfl rfl 3 (by decide) (hts (.fieldLink RX5 16 "OddNoticeModel" "text" "[I") (List.mem_of_getElem? (i := 1) (by decide +kernel))) (fun _ h9 => h9) rfl dX5_isPart_189 ?_
                    refine lv_aload_n hx hb dX5_isPart_192 rfl (lv_at hl 1 rfl) ?_
                    refine va_get (D := D) (ci := 5) (v := .int (nI ((v 0 3) + 4))) (C := RX5) (T := TX5) (N := 10) hx hb hts inX5_isPart_X5 hown hK hP 0 rfl rfl 6 (by decide) (hts (.fieldLink RX5 89 "OddNoticeModel" "at" "I") (List.mem_of_getElem? (i := 2) (by decide +kernel))) (fun _ h9 => h9) rfl dX5_isPart_193 ?_
                    refine o_const (k := 1) hx hb dX5_isPart_196 (by decide) ?_
                    refine o_isub (a := ((v 0 3) + 4)) (b := 1) (k := ((v 0 3) + 3)) hx hb dX5_isPart_197 (by omega) (by omega) ?_
                    refine o_iald (v := nI (v 3 ((v 0 3) + 3))) hx hb hK hP 3 0 rfl rfl (by omega) (Nat.le_of_ble_eq_true rfl) rfl dX5_isPart_198 ?_
                    have f_132 := ht ((v 0 3) + 3)
                    refine o_iadd (a := (10 * ((v 3 ((v 0 3) + 2)) - 48))) (b := (v 3 ((v 0 3) + 3))) (k := (10 * ((v 3 ((v 0 3) + 2)) - 48) + (v 3 ((v 0 3) + 3)))) hx hb dX5_isPart_199 rfl ?_
                    refine o_bipush (k := 48) hx hb dX5_isPart_200 (by decide) ?_
                    refine o_isub (a := (10 * ((v 3 ((v 0 3) + 2)) - 48) + (v 3 ((v 0 3) + 3)))) (b := 48) (k := (10 * ((v 3 ((v 0 3) + 2)) - 48) + (v 3 ((v 0 3) + 3)) - 48)) hx hb dX5_isPart_202 (by omega) rfl ?_
                    refine o_iast (g := (va_up (va_up (v 4) (3 * (v 0 5)) (v 3 (v 0 3))) (3 * (v 0 5) + 1) ((v 3 ((v 0 3) + 1)) - 48))) hx hb hK hP hD hS 4 0 rfl rfl (by omega) (Nat.le_of_ble_eq_true rfl) dX5_isPart_203 (fun H locs hP hD hS => ?_)
                    have hP : va_P D vwCl (wM q cI (va_up (va_up v 0 (va_up (v 0) 3 ((v 0 3) + 4))) 4 (va_up (va_up (va_up (v 4) (3 * (v 0 5)) (v 3 (v 0 3))) (3 * (v 0 5) + 1) ((v 3 ((v 0 3) + 1)) - 48)) (3 * (v 0 5) + 2) (10 * ((v 3 ((v 0 3) + 2)) - 48) + (v 3 ((v 0 3) + 3)) - 48)))) H := hP
                    have hD : va_D A (wM q cI (va_up (va_up v 0 (va_up (v 0) 3 ((v 0 3) + 4))) 4 (va_up (va_up (va_up (v 4) (3 * (v 0 5)) (v 3 (v 0 3))) (3 * (v 0 5) + 1) ((v 3 ((v 0 3) + 1)) - 48)) (3 * (v 0 5) + 2) (10 * ((v 3 ((v 0 3) + 2)) - 48) + (v 3 ((v 0 3) + 3)) - 48)))) := hD
                    refine o_const (k := 1) hx hb dX5_isPart_204 (by decide) ?_
                    have w_133 : (wM q cI (va_up (va_up v 0 (va_up (va_up (v 0) 3 (m_pt (v 3) (v 0 1) (v 0 5) (v 0 3) (v 0 4) (v 4)).1) 4 (m_pt (v 3) (v 0 1) (v 0 5) (v 0 3) (v 0 4) (v 4)).2.1)) 4 (m_pt (v 3) (v 0 1) (v 0 5) (v 0 3) (v 0 4) (v 4)).2.2.1)) = (wM q cI (va_up (va_up v 0 (va_up (v 0) 3 ((v 0 3) + 4))) 4 (va_up (va_up (va_up (v 4) (3 * (v 0 5)) (v 3 (v 0 3))) (3 * (v 0 5) + 1) ((v 3 ((v 0 3) + 1)) - 48)) (3 * (v 0 5) + 2) (10 * ((v 3 ((v 0 3) + 2)) - 48) + (v 3 ((v 0 3) + 3)) - 48)))) := (by unfold m_pt; rw [if_pos (by omega), if_pos (by unfold m_hi; (repeat' split) <;> omega), if_pos (by omega), if_pos (by omega), if_pos (by omega)]; first | done | rfl)
                    rw [← w_133] at hP
                    exact W.zret (v := nI 1) hx hb hrt rfl (fun t ht hW => ⟨⟨_, (), rfl, (congrArg nI (by unfold m_pt; rw [if_pos (by omega), if_pos (by unfold m_hi; (repeat' split) <;> omega), if_pos (by omega), if_pos (by omega), if_pos (by omega)])), by show va_P D vwCl _ t.heap; rw [ht]; exact hP⟩, hS.F ht⟩) hS.2.2 dX5_isPart_205
                  · skip
                    rw [if_neg c_130] at hP hD
                    have hP : va_P D vwCl (wM q cI (va_up (va_up v 0 (va_up (va_up (v 0) 3 ((v 0 3) + 3)) 4 (bn (((v 0 3) + 3) < v 0 1)))) 4 (va_up (va_up (v 4) (3 * (v 0 5)) (v 3 (v 0 3))) (3 * (v 0 5) + 1) ((v 3 ((v 0 3) + 1)) - 48)))) H := hP
                    have hD : va_D A (wM q cI (va_up (va_up v 0 (va_up (va_up (v 0) 3 ((v 0 3) + 3)) 4 (bn (((v 0 3) + 3) < v 0 1)))) 4 (va_up (va_up (v 4) (3 * (v 0 5)) (v 3 (v 0 3))) (3 * (v 0 5) + 1) ((v 3 ((v 0 3) + 1)) - 48)))) := hD
                    refine o_const (k := 0) hx hb dX5_isPart_157 (by decide) ?_
                    have w_134 : (wM q cI (va_up (va_up v 0 (va_up (va_up (v 0) 3 (m_pt (v 3) (v 0 1) (v 0 5) (v 0 3) (v 0 4) (v 4)).1) 4 (m_pt (v 3) (v 0 1) (v 0 5) (v 0 3) (v 0 4) (v 4)).2.1)) 4 (m_pt (v 3) (v 0 1) (v 0 5) (v 0 3) (v 0 4) (v 4)).2.2.1)) = (wM q cI (va_up (va_up v 0 (va_up (va_up (v 0) 3 ((v 0 3) + 3)) 4 (bn (((v 0 3) + 3) < v 0 1)))) 4 (va_up (va_up (v 4) (3 * (v 0 5)) (v 3 (v 0 3))) (3 * (v 0 5) + 1) ((v 3 ((v 0 3) + 1)) - 48)))) := (by unfold m_pt; rw [if_pos (by omega), if_pos (by unfold m_hi; (repeat' split) <;> omega), if_pos (by omega), if_pos (by omega), if_neg (by omega)]; first | done | rfl)
                    rw [← w_134] at hP
                    exact W.zret (v := nI 0) hx hb hrt rfl (fun t ht hW => ⟨⟨_, (), rfl, (congrArg nI (by unfold m_pt; rw [if_pos (by omega), if_pos (by unfold m_hi; (repeat' split) <;> omega), if_pos (by omega), if_pos (by omega), if_neg (by omega)])), by show va_P D vwCl _ t.heap; rw [ht]; exact hP⟩, hS.F ht⟩) hS.2.2 dX5_isPart_158
            · skip
              rw [if_neg c_120] at hP hD
              have hP : va_P D vwCl (wM q cI (va_up v 0 (va_up (va_up (v 0) 3 ((v 0 3) + 1)) 4 (bn (((v 0 3) + 1) < v 0 1))))) H := hP
              have hD : va_D A (wM q cI (va_up v 0 (va_up (va_up (v 0) 3 ((v 0 3) + 1)) 4 (bn (((v 0 3) + 1) < v 0 1))))) := hD
              refine o_const (k := 0) hx hb dX5_isPart_92 (by decide) ?_
              have w_135 : (wM q cI (va_up (va_up v 0 (va_up (va_up (v 0) 3 (m_pt (v 3) (v 0 1) (v 0 5) (v 0 3) (v 0 4) (v 4)).1) 4 (m_pt (v 3) (v 0 1) (v 0 5) (v 0 3) (v 0 4) (v 4)).2.1)) 4 (m_pt (v 3) (v 0 1) (v 0 5) (v 0 3) (v 0 4) (v 4)).2.2.1)) = (wM q cI (va_up v 0 (va_up (va_up (v 0) 3 ((v 0 3) + 1)) 4 (bn (((v 0 3) + 1) < v 0 1))))) := (by unfold m_pt; rw [if_pos (by omega), if_neg (by unfold m_hi; (repeat' split) <;> omega)]; first | done | rfl)
              rw [← w_135] at hP
              exact W.zret (v := nI 0) hx hb hrt rfl (fun t ht hW => ⟨⟨_, (), rfl, (congrArg nI (by unfold m_pt; rw [if_pos (by omega), if_neg (by unfold m_hi; (repeat' split) <;> omega)])), by show va_P D vwCl _ t.heap; rw [ht]; exact hP⟩, hS.F ht⟩) hS.2.2 dX5_isPart_93
      · skip
        refine o_bipush (k := 52) hx hb dX5_isPart_62 (by decide) ?_
        refine lv_goto (tgt := 86) hx hb dX5_isPart_64 (by decide) ?_
        refine o_wi (va_runV (As := [.int (nI 52)]) (rest := []) ⟨hx, hb, hml, hown, hts⟩ (k_X5_isDigit l D cI cR cS cL H.size q (va_up v 0 (va_up (v 0) 3 ((v 0 3) + 1))) 52 (by show ((v 0 3) + 1) < 2 ^ 31; first | assumption | omega) (by show v 0 1 ≤ 60; first | assumption | omega) (by show ∀ k, v 3 k < 2 ^ 31; first | assumption | omega) (by show 52 < 2 ^ 31; first | assumption | omega)) (cwV 1 hts gX5_isPart_X5_isDigit rfl rfl rfl (by decide +kernel) ⟨Nat.le_of_ble_eq_true rfl, Nat.le_of_ble_eq_true rfl⟩) (o_v (o_pB hK hN hP hD) (va_recv hK hP (ci := 5) (q0 := 0) rfl rfl)) rfl rfl hl.1 rfl (lv_room (Nat.le_of_ble_eq_true rfl)) dX5_isPart_86 ⟨Nat.zero_le _, Nat.zero_le _⟩) hP hD hS hA [0, 1, 2, 3, 4] (by decide) rfl (fun _ => rfl) (fun r_137 _ H locs e_136 hP hD hS => ?_)
        have e_136 : r_137 = nI (bn (((v 0 3) + 1) < v 0 1 ∧ 48 ≤ v 3 (((v 0 3) + 1)) ∧ v 3 (((v 0 3) + 1)) ≤ 52)) := e_136
        subst e_136
        have hP : va_P D vwCl (wM q cI (va_up v 0 (if ((v 0 3) + 1) < v 0 1 ∧ 48 ≤ v 3 (((v 0 3) + 1)) ∧ v 3 (((v 0 3) + 1)) ≤ 52 then (va_up (va_up (v 0) 3 ((v 0 3) + 1)) 3 ((v 0 3) + 2)) else (va_up (va_up (v 0) 3 ((v 0 3) + 1)) 4 (bn (((v 0 3) + 1) < v 0 1)))))) H := hP
        have hD : va_D A (wM q cI (va_up v 0 (if ((v 0 3) + 1) < v 0 1 ∧ 48 ≤ v 3 (((v 0 3) + 1)) ∧ v 3 (((v 0 3) + 1)) ≤ 52 then (va_up (va_up (v 0) 3 ((v 0 3) + 1)) 3 ((v 0 3) + 2)) else (va_up (va_up (v 0) 3 ((v 0 3) + 1)) 4 (bn (((v 0 3) + 1) < v 0 1)))))) := hD
        refine o_ifnz (tgt := 94) hx hb dX5_isPart_89 (by decide) (fun c_138 => ?_) (fun c_138 => ?_)
        · skip
          rw [if_pos c_138] at hP hD
          have hP : va_P D vwCl (wM q cI (va_up v 0 (va_up (v 0) 3 ((v 0 3) + 2)))) H := hP
          have hD : va_D A (wM q cI (va_up v 0 (va_up (v 0) 3 ((v 0 3) + 2)))) := hD
          refine lv_aload_n hx hb dX5_isPart_94 rfl (lv_at hl 1 rfl) ?_
          refine va_get (D := D) (ci := 5) (v := .ref (q 4)) (C := RX5) (T := TX5) (N := 10) hx hb hts inX5_isPart_X5 hown hK hP 0 rfl rfl 8 (by decide) (hts (.fieldLink RX5 19 "OddNoticeModel" "told" "[I") (List.mem_of_getElem? (i := 3) (by decide +kernel))) (fun _ h9 => h9) rfl dX5_isPart_95 ?_
          refine o_const (k := 3) hx hb dX5_isPart_98 (by decide) ?_
          refine lv_aload_n hx hb dX5_isPart_99 rfl (lv_at hl 1 rfl) ?_
          refine va_get (D := D) (ci := 5) (v := .int (nI (v 0 5))) (C := RX5) (T := TX5) (N := 10) hx hb hts inX5_isPart_X5 hown hK hP 0 rfl rfl 9 (by decide) (hts (.fieldLink RX5 106 "OddNoticeModel" "tolds" "I") (List.mem_of_getElem? (i := 4) (by decide +kernel))) (fun _ h9 => h9) rfl dX5_isPart_100 ?_
          refine o_imul (a := 3) (b := (v 0 5)) (k := (3 * (v 0 5))) hx hb dX5_isPart_103 rfl ?_
          refine lv_iload_n hx hb dX5_isPart_104 rfl (lv_at hl 0 rfl) ?_
          refine o_iast (g := (v 4)) hx hb hK hP hD hS 4 0 rfl rfl (by omega) (Nat.le_of_ble_eq_true rfl) dX5_isPart_105 (fun H locs hP hD hS => ?_)
          have hP : va_P D vwCl (wM q cI (va_up (va_up v 0 (va_up (v 0) 3 ((v 0 3) + 2))) 4 (va_up (v 4) (3 * (v 0 5)) (v 3 (v 0 3))))) H := hP
          have hD : va_D A (wM q cI (va_up (va_up v 0 (va_up (v 0) 3 ((v 0 3) + 2))) 4 (va_up (v 4) (3 * (v 0 5)) (v 3 (v 0 3))))) := hD
          refine lv_aload_n hx hb dX5_isPart_106 rfl (lv_at hl 1 rfl) ?_
          refine va_get (D := D) (ci := 5) (v := .ref (q 4)) (C := RX5) (T := TX5) (N := 10) hx hb hts inX5_isPart_X5 hown hK hP 0 rfl rfl 8 (by decide) (hts (.fieldLink RX5 19 "OddNoticeModel" "told" "[I") (List.mem_of_getElem? (i := 3) (by decide +kernel))) (fun _ h9 => h9) rfl dX5_isPart_107 ?_
          refine o_const (k := 3) hx hb dX5_isPart_110 (by decide) ?_
          refine lv_aload_n hx hb dX5_isPart_111 rfl (lv_at hl 1 rfl) ?_
          refine va_get (D := D) (ci := 5) (v := .int (nI (v 0 5))) (C := RX5) (T := TX5) (N := 10) hx hb hts inX5_isPart_X5 hown hK hP 0 rfl rfl 9 (by decide) (hts (.fieldLink RX5 106 "OddNoticeModel" "tolds" "I") (List.mem_of_getElem? (i := 4) (by decide +kernel))) (fun _ h9 => h9) rfl dX5_isPart_112 ?_
          refine o_imul (a := 3) (b := (v 0 5)) (k := (3 * (v 0 5))) hx hb dX5_isPart_115 rfl ?_
          refine o_const (k := 1) hx hb dX5_isPart_116 (by decide) ?_
          refine o_iadd (a := (3 * (v 0 5))) (b := 1) (k := (3 * (v 0 5) + 1)) hx hb dX5_isPart_117 rfl ?_
          refine lv_aload_n hx hb dX5_isPart_118 rfl (lv_at hl 1 rfl) ?_
          refine va_get (D := D) (ci := 5) (v := .ref (q 3)) (C := RX5) (T := TX5) (N := 10) hx hb hts inX5_isPart_X5 hown hK hP 0 rfl rfl 3 (by decide) (hts (.fieldLink RX5 16 "OddNoticeModel" "text" "[I") (List.mem_of_getElem? (i := 1) (by decide +kernel))) (fun _ h9 => h9) rfl dX5_isPart_119 ?_
          refine lv_aload_n hx hb dX5_isPart_122 rfl (lv_at hl 1 rfl) ?_
          refine va_get (D := D) (ci := 5) (v := .int (nI ((v 0 3) + 2))) (C := RX5) (T := TX5) (N := 10) hx hb hts inX5_isPart_X5 hown hK hP 0 rfl rfl 6 (by decide) (hts (.fieldLink RX5 89 "OddNoticeModel" "at" "I") (List.mem_of_getElem? (i := 2) (by decide +kernel))) (fun _ h9 => h9) rfl dX5_isPart_123 ?_
          refine o_const (k := 1) hx hb dX5_isPart_126 (by decide) ?_
          refine o_isub (a := ((v 0 3) + 2)) (b := 1) (k := ((v 0 3) + 1)) hx hb dX5_isPart_127 (by omega) (by omega) ?_
          refine o_iald (v := nI (v 3 ((v 0 3) + 1))) hx hb hK hP 3 0 rfl rfl (by omega) (Nat.le_of_ble_eq_true rfl) rfl dX5_isPart_128 ?_
          have f_139 := ht ((v 0 3) + 1)
          refine o_bipush (k := 48) hx hb dX5_isPart_129 (by decide) ?_
          refine o_isub (a := (v 3 ((v 0 3) + 1))) (b := 48) (k := ((v 3 ((v 0 3) + 1)) - 48)) hx hb dX5_isPart_131 (by omega) rfl ?_
          refine o_iast (g := (va_up (v 4) (3 * (v 0 5)) (v 3 (v 0 3)))) hx hb hK hP hD hS 4 0 rfl rfl (by omega) (Nat.le_of_ble_eq_true rfl) dX5_isPart_132 (fun H locs hP hD hS => ?_)
          have hP : va_P D vwCl (wM q cI (va_up (va_up v 0 (va_up (v 0) 3 ((v 0 3) + 2))) 4 (va_up (va_up (v 4) (3 * (v 0 5)) (v 3 (v 0 3))) (3 * (v 0 5) + 1) ((v 3 ((v 0 3) + 1)) - 48)))) H := hP
          have hD : va_D A (wM q cI (va_up (va_up v 0 (va_up (v 0) 3 ((v 0 3) + 2))) 4 (va_up (va_up (v 4) (3 * (v 0 5)) (v 3 (v 0 3))) (3 * (v 0 5) + 1) ((v 3 ((v 0 3) + 1)) - 48)))) := hD
          refine lv_iload_n hx hb dX5_isPart_133 rfl (lv_at hl 0 rfl) ?_
          refine o_bipush (k := 119) hx hb dX5_isPart_134 (by decide) ?_
          refine o_icmp_ne (tgt := 204) hx hb dX5_isPart_136 (by decide) (by omega) (Nat.le_of_ble_eq_true rfl) (fun c_140 => ?_) (fun c_140 => ?_)
          · skip
            refine o_const (k := 1) hx hb dX5_isPart_204 (by decide) ?_
            have w_141 : (wM q cI (va_up (va_up v 0 (va_up (va_up (v 0) 3 (m_pt (v 3) (v 0 1) (v 0 5) (v 0 3) (v 0 4) (v 4)).1) 4 (m_pt (v 3) (v 0 1) (v 0 5) (v 0 3) (v 0 4) (v 4)).2.1)) 4 (m_pt (v 3) (v 0 1) (v 0 5) (v 0 3) (v 0 4) (v 4)).2.2.1)) = (wM q cI (va_up (va_up v 0 (va_up (v 0) 3 ((v 0 3) + 2))) 4 (va_up (va_up (v 4) (3 * (v 0 5)) (v 3 (v 0 3))) (3 * (v 0 5) + 1) ((v 3 ((v 0 3) + 1)) - 48)))) := (by unfold m_pt; rw [if_pos (by omega), if_pos (by unfold m_hi; (repeat' split) <;> omega), if_neg (by omega)]; first | done | rfl)
            rw [← w_141] at hP
            exact W.zret (v := nI 1) hx hb hrt rfl (fun t ht hW => ⟨⟨_, (), rfl, (congrArg nI (by unfold m_pt; rw [if_pos (by omega), if_pos (by unfold m_hi; (repeat' split) <;> omega), if_neg (by omega)])), by show va_P D vwCl _ t.heap; rw [ht]; exact hP⟩, hS.F ht⟩) hS.2.2 dX5_isPart_205
          · skip
            refine lv_aload_n hx hb dX5_isPart_139 rfl (lv_at hl 1 rfl) ?_
            refine o_bipush (k := 57) hx hb dX5_isPart_140 (by decide) ?_
            refine o_wi (va_runV (As := [.int (nI 57)]) (rest := []) ⟨hx, hb, hml, hown, hts⟩ (k_X5_isDigit l D cI cR cS cL H.size q (va_up (va_up v 0 (va_up (v 0) 3 ((v 0 3) + 2))) 4 (va_up (va_up (v 4) (3 * (v 0 5)) (v 3 (v 0 3))) (3 * (v 0 5) + 1) ((v 3 ((v 0 3) + 1)) - 48))) 57 (by show ((v 0 3) + 2) < 2 ^ 31; first | assumption | omega) (by show v 0 1 ≤ 60; first | assumption | omega) (by show ∀ k, v 3 k < 2 ^ 31; first | assumption | omega) (by show 57 < 2 ^ 31; first | assumption | omega)) (cwV 1 hts gX5_isPart_X5_isDigit rfl rfl rfl (by decide +kernel) ⟨Nat.le_of_ble_eq_true rfl, Nat.le_of_ble_eq_true rfl⟩) (o_v (o_pB hK hN hP hD) (va_recv hK hP (ci := 5) (q0 := 0) rfl rfl)) rfl rfl hl.1 rfl (lv_room (Nat.le_of_ble_eq_true rfl)) dX5_isPart_142 ⟨Nat.zero_le _, Nat.zero_le _⟩) hP hD hS hA [0, 1, 2, 3, 4] (by decide) rfl (fun _ => rfl) (fun r_143 _ H locs e_142 hP hD hS => ?_)
            have e_142 : r_143 = nI (bn (((v 0 3) + 2) < v 0 1 ∧ 48 ≤ v 3 (((v 0 3) + 2)) ∧ v 3 (((v 0 3) + 2)) ≤ 57)) := e_142
            subst e_142
            have hP : va_P D vwCl (wM q cI (va_up (va_up v 0 (if ((v 0 3) + 2) < v 0 1 ∧ 48 ≤ v 3 (((v 0 3) + 2)) ∧ v 3 (((v 0 3) + 2)) ≤ 57 then (va_up (va_up (v 0) 3 ((v 0 3) + 2)) 3 ((v 0 3) + 3)) else (va_up (va_up (v 0) 3 ((v 0 3) + 2)) 4 (bn (((v 0 3) + 2) < v 0 1))))) 4 (va_up (va_up (v 4) (3 * (v 0 5)) (v 3 (v 0 3))) (3 * (v 0 5) + 1) ((v 3 ((v 0 3) + 1)) - 48)))) H := hP
            have hD : va_D A (wM q cI (va_up (va_up v 0 (if ((v 0 3) + 2) < v 0 1 ∧ 48 ≤ v 3 (((v 0 3) + 2)) ∧ v 3 (((v 0 3) + 2)) ≤ 57 then (va_up (va_up (v 0) 3 ((v 0 3) + 2)) 3 ((v 0 3) + 3)) else (va_up (va_up (v 0) 3 ((v 0 3) + 2)) 4 (bn (((v 0 3) + 2) < v 0 1))))) 4 (va_up (va_up (v 4) (3 * (v 0 5)) (v 3 (v 0 3))) (3 * (v 0 5) + 1) ((v 3 ((v 0 3) + 1)) - 48)))) := hD
            refine o_ifz (tgt := 157) hx hb dX5_isPart_145 (by decide) (fun c_144 => ?_) (fun c_144 => ?_)
            · skip
              rw [if_neg c_144] at hP hD
              have hP : va_P D vwCl (wM q cI (va_up (va_up v 0 (va_up (va_up (v 0) 3 ((v 0 3) + 2)) 4 (bn (((v 0 3) + 2) < v 0 1)))) 4 (va_up (va_up (v 4) (3 * (v 0 5)) (v 3 (v 0 3))) (3 * (v 0 5) + 1) ((v 3 ((v 0 3) + 1)) - 48)))) H := hP
              have hD : va_D A (wM q cI (va_up (va_up v 0 (va_up (va_up (v 0) 3 ((v 0 3) + 2)) 4 (bn (((v 0 3) + 2) < v 0 1)))) 4 (va_up (va_up (v 4) (3 * (v 0 5)) (v 3 (v 0 3))) (3 * (v 0 5) + 1) ((v 3 ((v 0 3) + 1)) - 48)))) := hD
              refine o_const (k := 0) hx hb dX5_isPart_157 (by decide) ?_
              have w_145 : (wM q cI (va_up (va_up v 0 (va_up (va_up (v 0) 3 (m_pt (v 3) (v 0 1) (v 0 5) (v 0 3) (v 0 4) (v 4)).1) 4 (m_pt (v 3) (v 0 1) (v 0 5) (v 0 3) (v 0 4) (v 4)).2.1)) 4 (m_pt (v 3) (v 0 1) (v 0 5) (v 0 3) (v 0 4) (v 4)).2.2.1)) = (wM q cI (va_up (va_up v 0 (va_up (va_up (v 0) 3 ((v 0 3) + 2)) 4 (bn (((v 0 3) + 2) < v 0 1)))) 4 (va_up (va_up (v 4) (3 * (v 0 5)) (v 3 (v 0 3))) (3 * (v 0 5) + 1) ((v 3 ((v 0 3) + 1)) - 48)))) := (by unfold m_pt; rw [if_pos (by omega), if_pos (by unfold m_hi; (repeat' split) <;> omega), if_pos (by omega), if_neg (by omega)]; first | done | rfl)
              rw [← w_145] at hP
              exact W.zret (v := nI 0) hx hb hrt rfl (fun t ht hW => ⟨⟨_, (), rfl, (congrArg nI (by unfold m_pt; rw [if_pos (by omega), if_pos (by unfold m_hi; (repeat' split) <;> omega), if_pos (by omega), if_neg (by omega)])), by show va_P D vwCl _ t.heap; rw [ht]; exact hP⟩, hS.F ht⟩) hS.2.2 dX5_isPart_158
            · skip
              rw [if_pos c_144] at hP hD
              have hP : va_P D vwCl (wM q cI (va_up (va_up v 0 (va_up (v 0) 3 ((v 0 3) + 3))) 4 (va_up (va_up (v 4) (3 * (v 0 5)) (v 3 (v 0 3))) (3 * (v 0 5) + 1) ((v 3 ((v 0 3) + 1)) - 48)))) H := hP
              have hD : va_D A (wM q cI (va_up (va_up v 0 (va_up (v 0) 3 ((v 0 3) + 3))) 4 (va_up (va_up (v 4) (3 * (v 0 5)) (v 3 (v 0 3))) (3 * (v 0 5) + 1) ((v 3 ((v 0 3) + 1)) - 48)))) := hD
              refine lv_aload_n hx hb dX5_isPart_148 rfl (lv_at hl 1 rfl) ?_
              refine o_bipush (k := 57) hx hb dX5_isPart_149 (by decide) ?_
              refine o_wi (va_runV (As := [.int (nI 57)]) (rest := []) ⟨hx, hb, hml, hown, hts⟩ (k_X5_isDigit l D cI cR cS cL H.size q (va_up (va_up v 0 (va_up (v 0) 3 ((v 0 3) + 3))) 4 (va_up (va_up (v 4) (3 * (v 0 5)) (v 3 (v 0 3))) (3 * (v 0 5) + 1) ((v 3 ((v 0 3) + 1)) - 48))) 57 (by show ((v 0 3) + 3) < 2 ^ 31; first | assumption | omega) (by show v 0 1 ≤ 60; first | assumption | omega) (by show ∀ k, v 3 k < 2 ^ 31; first | assumption | omega) (by show 57 < 2 ^ 31; first | assumption | omega)) (cwV 1 hts gX5_isPart_X5_isDigit rfl rfl rfl (by decide +kernel) ⟨Nat.le_of_ble_eq_true rfl, Nat.le_of_ble_eq_true rfl⟩) (o_v (o_pB hK hN hP hD) (va_recv hK hP (ci := 5) (q0 := 0) rfl rfl)) rfl rfl hl.1 rfl (lv_room (Nat.le_of_ble_eq_true rfl)) dX5_isPart_151 ⟨Nat.zero_le _, Nat.zero_le _⟩) hP hD hS hA [0, 1, 2, 3, 4] (by decide) rfl (fun _ => rfl) (fun r_147 _ H locs e_146 hP hD hS => ?_)
              have e_146 : r_147 = nI (bn (((v 0 3) + 3) < v 0 1 ∧ 48 ≤ v 3 (((v 0 3) + 3)) ∧ v 3 (((v 0 3) + 3)) ≤ 57)) := e_146
              subst e_146
              have hP : va_P D vwCl (wM q cI (va_up (va_up v 0 (if ((v 0 3) + 3) < v 0 1 ∧ 48 ≤ v 3 (((v 0 3) + 3)) ∧ v 3 (((v 0 3) + 3)) ≤ 57 then (va_up (va_up (v 0) 3 ((v 0 3) + 3)) 3 ((v 0 3) + 4)) else (va_up (va_up (v 0) 3 ((v 0 3) + 3)) 4 (bn (((v 0 3) + 3) < v 0 1))))) 4 (va_up (va_up (v 4) (3 * (v 0 5)) (v 3 (v 0 3))) (3 * (v 0 5) + 1) ((v 3 ((v 0 3) + 1)) - 48)))) H := hP
              have hD : va_D A (wM q cI (va_up (va_up v 0 (if ((v 0 3) + 3) < v 0 1 ∧ 48 ≤ v 3 (((v 0 3) + 3)) ∧ v 3 (((v 0 3) + 3)) ≤ 57 then (va_up (va_up (v 0) 3 ((v 0 3) + 3)) 3 ((v 0 3) + 4)) else (va_up (va_up (v 0) 3 ((v 0 3) + 3)) 4 (bn (((v 0 3) + 3) < v 0 1))))) 4 (va_up (va_up (v 4) (3 * (v 0 5)) (v 3 (v 0 3))) (3 * (v 0 5) + 1) ((v 3 ((v 0 3) + 1)) - 48)))) := hD
              refine o_ifnz (tgt := 159) hx hb dX5_isPart_154 (by decide) (fun c_148 => ?_) (fun c_148 => ?_)
              · skip
                rw [if_pos c_148] at hP hD
                have hP : va_P D vwCl (wM q cI (va_up (va_up v 0 (va_up (v 0) 3 ((v 0 3) + 4))) 4 (va_up (va_up (v 4) (3 * (v 0 5)) (v 3 (v 0 3))) (3 * (v 0 5) + 1) ((v 3 ((v 0 3) + 1)) - 48)))) H := hP
                have hD : va_D A (wM q cI (va_up (va_up v 0 (va_up (v 0) 3 ((v 0 3) + 4))) 4 (va_up (va_up (v 4) (3 * (v 0 5)) (v 3 (v 0 3))) (3 * (v 0 5) + 1) ((v 3 ((v 0 3) + 1)) - 48)))) := hD
                refine lv_aload_n hx hb dX5_isPart_159 rfl (lv_at hl 1 rfl) ?_
                refine va_get (D := D) (ci := 5) (v := .ref (q 4)) (C := RX5) (T := TX5) (N := 10) hx hb hts inX5_isPart_X5 hown hK hP 0 rfl rfl 8 (by decide) (hts (.fieldLink RX5 19 "OddNoticeModel" "told" "[I") (List.mem_of_getElem? (i := 3) (by decide +kernel))) (fun _ h9 => h9) rfl dX5_isPart_160 ?_
                refine o_const (k := 3) hx hb dX5_isPart_163 (by decide) ?_
                refine lv_aload_n hx hb dX5_isPart_164 rfl (lv_at hl 1 rfl) ?_
                refine va_get (D := D) (ci := 5) (v := .int (nI (v 0 5))) (C := RX5) (T := TX5) (N := 10) hx hb hts inX5_isPart_X5 hown hK hP 0 rfl rfl 9 (by decide) (hts (.fieldLink RX5 106 "OddNoticeModel" "tolds" "I") (List.mem_of_getElem? (i := 4) (by decide +kernel))) (fun _ h9 => h9) rfl dX5_isPart_165 ?_
                refine o_imul (a := 3) (b := (v 0 5)) (k := (3 * (v 0 5))) hx hb dX5_isPart_168 rfl ?_
                refine o_const (k := 2) hx hb dX5_isPart_169 (by decide) ?_
                refine o_iadd (a := (3 * (v 0 5))) (b := 2) (k := (3 * (v 0 5) + 2)) hx hb dX5_isPart_170 rfl ?_
                refine o_bipush (k := 10) hx hb dX5_isPart_171 (by decide) ?_
                refine lv_aload_n hx hb dX5_isPart_173 rfl (lv_at hl 1 rfl) ?_
                refine va_get (D := D) (ci := 5) (v := .ref (q 3)) (C := RX5) (T := TX5) (N := 10) hx hb hts inX5_isPart_X5 hown hK hP 0 rfl rfl 3 (by decide) (hts (.fieldLink RX5 16 "OddNoticeModel" "text" "[I") (List.mem_of_getElem? (i := 1) (by decide +kernel))) (fun _ h9 => h9) rfl dX5_isPart_174 ?_
                refine lv_aload_n hx hb dX5_isPart_177 rfl (lv_at hl 1 rfl) ?_
                refine va_get (D := D) (ci := 5) (v := .int (nI ((v 0 3) + 4))) (C := RX5) (T := TX5) (N := 10) hx hb hts inX5_isPart_X5 hown hK hP 0 rfl rfl 6 (by decide) (hts (.fieldLink RX5 89 "OddNoticeModel" "at" "I") (List.mem_of_getElem? (i := 2) (by decide +kernel))) (fun _ h9 => h9) rfl dX5_isPart_178 ?_
                refine o_const (k := 2) hx hb dX5_isPart_181 (by decide) ?_
                refine o_isub (a := ((v 0 3) + 4)) (b := 2) (k := ((v 0 3) + 2)) hx hb dX5_isPart_182 (by omega) (by omega) ?_
                refine o_iald (v := nI (v 3 ((v 0 3) + 2))) hx hb hK hP 3 0 rfl rfl (by omega) (Nat.le_of_ble_eq_true rfl) rfl dX5_isPart_183 ?_
                have f_149 := ht ((v 0 3) + 2)
                refine o_bipush (k := 48) hx hb dX5_isPart_184 (by decide) ?_
                refine o_isub (a := (v 3 ((v 0 3) + 2))) (b := 48) (k := ((v 3 ((v 0 3) + 2)) - 48)) hx hb dX5_isPart_186 (by omega) rfl ?_
                refine o_imul (a := 10) (b := ((v 3 ((v 0 3) + 2)) - 48)) (k := (10 * ((v 3 ((v 0 3) + 2)) - 48))) hx hb dX5_isPart_187 rfl ?_
                refine lv_aload_n hx hb dX5_isPart_188 rfl (lv_at hl 1 rfl) ?_
                refine va_get (D := D) (ci := 5) (v := .ref (q 3)) (C := RX5) (T := TX5) (N := 10) hx hb hts inX5_isPart_X5 hown hK hP 0 rfl rfl 3 (by decide) (hts (.fieldLink RX5 16 "OddNoticeModel" "text" "[I") (List.mem_of_getElem? (i := 1) (by decide +kernel))) (fun _ h9 => h9) rfl dX5_isPart_189 ?_
                refine lv_aload_n hx hb dX5_isPart_192 rfl (lv_at hl 1 rfl) ?_
                refine va_get (D := D) (ci := 5) (v := .int (nI ((v 0 3) + 4))) (C := RX5) (T := TX5) (N := 10) hx hb hts inX5_isPart_X5 hown hK hP 0 rfl rfl 6 (by decide) (hts (.fieldLink RX5 89 "OddNoticeModel" "at" "I") (List.mem_of_getElem? (i := 2) (by decide +kernel))) (fun _ h9 => h9) rfl dX5_isPart_193 ?_
                refine o_const (k := 1) hx hb dX5_isPart_196 (by decide) ?_
                refine o_isub (a := ((v 0 3) + 4)) (b := 1) (k := ((v 0 3) + 3)) hx hb dX5_isPart_197 (by omega) (by omega) ?_
                refine o_iald (v := nI (v 3 ((v 0 3) + 3))) hx hb hK hP 3 0 rfl rfl (by omega) (Nat.le_of_ble_eq_true rfl) rfl dX5_isPart_198 ?_
                have f_150 := ht ((v 0 3) + 3)
                refine o_iadd (a := (10 * ((v 3 ((v 0 3) + 2)) - 48))) (b := (v 3 ((v 0 3) + 3))) (k := (10 * ((v 3 ((v 0 3) + 2)) - 48) + (v 3 ((v 0 3) + 3)))) hx hb dX5_isPart_199 rfl ?_
                refine o_bipush (k := 48) hx hb dX5_isPart_200 (by decide) ?_
                refine o_isub (a := (10 * ((v 3 ((v 0 3) + 2)) - 48) + (v 3 ((v 0 3) + 3)))) (b := 48) (k := (10 * ((v 3 ((v 0 3) + 2)) - 48) + (v 3 ((v 0 3) + 3)) - 48)) hx hb dX5_isPart_202 (by omega) rfl ?_
                refine o_iast (g := (va_up (va_up (v 4) (3 * (v 0 5)) (v 3 (v 0 3))) (3 * (v 0 5) + 1) ((v 3 ((v 0 3) + 1)) - 48))) hx hb hK hP hD hS 4 0 rfl rfl (by omega) (Nat.le_of_ble_eq_true rfl) dX5_isPart_203 (fun H locs hP hD hS => ?_)
                have hP : va_P D vwCl (wM q cI (va_up (va_up v 0 (va_up (v 0) 3 ((v 0 3) + 4))) 4 (va_up (va_up (va_up (v 4) (3 * (v 0 5)) (v 3 (v 0 3))) (3 * (v 0 5) + 1) ((v 3 ((v 0 3) + 1)) - 48)) (3 * (v 0 5) + 2) (10 * ((v 3 ((v 0 3) + 2)) - 48) + (v 3 ((v 0 3) + 3)) - 48)))) H := hP
                have hD : va_D A (wM q cI (va_up (va_up v 0 (va_up (v 0) 3 ((v 0 3) + 4))) 4 (va_up (va_up (va_up (v 4) (3 * (v 0 5)) (v 3 (v 0 3))) (3 * (v 0 5) + 1) ((v 3 ((v 0 3) + 1)) - 48)) (3 * (v 0 5) + 2) (10 * ((v 3 ((v 0 3) + 2)) - 48) + (v 3 ((v 0 3) + 3)) - 48)))) := hD
                refine o_const (k := 1) hx hb dX5_isPart_204 (by decide) ?_
                have w_151 : (wM q cI (va_up (va_up v 0 (va_up (va_up (v 0) 3 (m_pt (v 3) (v 0 1) (v 0 5) (v 0 3) (v 0 4) (v 4)).1) 4 (m_pt (v 3) (v 0 1) (v 0 5) (v 0 3) (v 0 4) (v 4)).2.1)) 4 (m_pt (v 3) (v 0 1) (v 0 5) (v 0 3) (v 0 4) (v 4)).2.2.1)) = (wM q cI (va_up (va_up v 0 (va_up (v 0) 3 ((v 0 3) + 4))) 4 (va_up (va_up (va_up (v 4) (3 * (v 0 5)) (v 3 (v 0 3))) (3 * (v 0 5) + 1) ((v 3 ((v 0 3) + 1)) - 48)) (3 * (v 0 5) + 2) (10 * ((v 3 ((v 0 3) + 2)) - 48) + (v 3 ((v 0 3) + 3)) - 48)))) := (by unfold m_pt; rw [if_pos (by omega), if_pos (by unfold m_hi; (repeat' split) <;> omega), if_pos (by omega), if_pos (by omega), if_pos (by omega)]; first | done | rfl)
                rw [← w_151] at hP
                exact W.zret (v := nI 1) hx hb hrt rfl (fun t ht hW => ⟨⟨_, (), rfl, (congrArg nI (by unfold m_pt; rw [if_pos (by omega), if_pos (by unfold m_hi; (repeat' split) <;> omega), if_pos (by omega), if_pos (by omega), if_pos (by omega)])), by show va_P D vwCl _ t.heap; rw [ht]; exact hP⟩, hS.F ht⟩) hS.2.2 dX5_isPart_205
              · skip
                rw [if_neg c_148] at hP hD
                have hP : va_P D vwCl (wM q cI (va_up (va_up v 0 (va_up (va_up (v 0) 3 ((v 0 3) + 3)) 4 (bn (((v 0 3) + 3) < v 0 1)))) 4 (va_up (va_up (v 4) (3 * (v 0 5)) (v 3 (v 0 3))) (3 * (v 0 5) + 1) ((v 3 ((v 0 3) + 1)) - 48)))) H := hP
                have hD : va_D A (wM q cI (va_up (va_up v 0 (va_up (va_up (v 0) 3 ((v 0 3) + 3)) 4 (bn (((v 0 3) + 3) < v 0 1)))) 4 (va_up (va_up (v 4) (3 * (v 0 5)) (v 3 (v 0 3))) (3 * (v 0 5) + 1) ((v 3 ((v 0 3) + 1)) - 48)))) := hD
                refine o_const (k := 0) hx hb dX5_isPart_157 (by decide) ?_
                have w_152 : (wM q cI (va_up (va_up v 0 (va_up (va_up (v 0) 3 (m_pt (v 3) (v 0 1) (v 0 5) (v 0 3) (v 0 4) (v 4)).1) 4 (m_pt (v 3) (v 0 1) (v 0 5) (v 0 3) (v 0 4) (v 4)).2.1)) 4 (m_pt (v 3) (v 0 1) (v 0 5) (v 0 3) (v 0 4) (v 4)).2.2.1)) = (wM q cI (va_up (va_up v 0 (va_up (va_up (v 0) 3 ((v 0 3) + 3)) 4 (bn (((v 0 3) + 3) < v 0 1)))) 4 (va_up (va_up (v 4) (3 * (v 0 5)) (v 3 (v 0 3))) (3 * (v 0 5) + 1) ((v 3 ((v 0 3) + 1)) - 48)))) := (by unfold m_pt; rw [if_pos (by omega), if_pos (by unfold m_hi; (repeat' split) <;> omega), if_pos (by omega), if_pos (by omega), if_neg (by omega)]; first | done | rfl)
                rw [← w_152] at hP
                exact W.zret (v := nI 0) hx hb hrt rfl (fun t ht hW => ⟨⟨_, (), rfl, (congrArg nI (by unfold m_pt; rw [if_pos (by omega), if_pos (by unfold m_hi; (repeat' split) <;> omega), if_pos (by omega), if_pos (by omega), if_neg (by omega)])), by show va_P D vwCl _ t.heap; rw [ht]; exact hP⟩, hS.F ht⟩) hS.2.2 dX5_isPart_158
        · skip
          rw [if_neg c_138] at hP hD
          have hP : va_P D vwCl (wM q cI (va_up v 0 (va_up (va_up (v 0) 3 ((v 0 3) + 1)) 4 (bn (((v 0 3) + 1) < v 0 1))))) H := hP
          have hD : va_D A (wM q cI (va_up v 0 (va_up (va_up (v 0) 3 ((v 0 3) + 1)) 4 (bn (((v 0 3) + 1) < v 0 1))))) := hD
          refine o_const (k := 0) hx hb dX5_isPart_92 (by decide) ?_
          have w_153 : (wM q cI (va_up (va_up v 0 (va_up (va_up (v 0) 3 (m_pt (v 3) (v 0 1) (v 0 5) (v 0 3) (v 0 4) (v 4)).1) 4 (m_pt (v 3) (v 0 1) (v 0 5) (v 0 3) (v 0 4) (v 4)).2.1)) 4 (m_pt (v 3) (v 0 1) (v 0 5) (v 0 3) (v 0 4) (v 4)).2.2.1)) = (wM q cI (va_up v 0 (va_up (va_up (v 0) 3 ((v 0 3) + 1)) 4 (bn (((v 0 3) + 1) < v 0 1))))) := (by unfold m_pt; rw [if_pos (by omega), if_neg (by unfold m_hi; (repeat' split) <;> omega)]; first | done | rfl)
          rw [← w_153] at hP
          exact W.zret (v := nI 0) hx hb hrt rfl (fun t ht hW => ⟨⟨_, (), rfl, (congrArg nI (by unfold m_pt; rw [if_pos (by omega), if_neg (by unfold m_hi; (repeat' split) <;> omega)])), by show va_P D vwCl _ t.heap; rw [ht]; exact hP⟩, hS.F ht⟩) hS.2.2 dX5_isPart_93
    · skip
      refine lv_iload_n hx hb dX5_isPart_22 rfl (lv_at hl 0 rfl) ?_
      refine o_bipush (k := 119) hx hb dX5_isPart_23 (by decide) ?_
      refine o_icmp_eq (tgt := 45) hx hb dX5_isPart_25 (by decide) (by omega) (Nat.le_of_ble_eq_true rfl) (fun c_154 => ?_) (fun c_154 => ?_)
      · skip
        refine lv_aload_n hx hb dX5_isPart_45 rfl (lv_at hl 1 rfl) ?_
        refine lv_dup hx hb dX5_isPart_46 rfl ?_
        refine va_get (D := D) (ci := 5) (v := .int (nI (v 0 3))) (C := RX5) (T := TX5) (N := 10) hx hb hts inX5_isPart_X5 hown hK hP 0 rfl rfl 6 (by decide) (hts (.fieldLink RX5 89 "OddNoticeModel" "at" "I") (List.mem_of_getElem? (i := 2) (by decide +kernel))) (fun _ h9 => h9) rfl dX5_isPart_47 ?_
        refine o_const (k := 1) hx hb dX5_isPart_50 (by decide) ?_
        refine o_iadd (a := (v 0 3)) (b := 1) (k := ((v 0 3) + 1)) hx hb dX5_isPart_51 rfl ?_
        refine va_put (D := D) (ci := 5) (v := .int (nI ((v 0 3) + 1))) (ty := .int) (C := RX5) (T := TX5) (N := 10) hx hb hts inX5_isPart_X5 tyX5 tyX5_ok nmX5 hown hK hP hD hS 0 rfl rfl 6 (by decide) (hts (.fieldLink RX5 89 "OddNoticeModel" "at" "I") (List.mem_of_getElem? (i := 2) (by decide +kernel))) (fun _ h9 => h9) rfl (by decide +kernel) rfl rfl (Nat.le_of_ble_eq_true rfl) dX5_isPart_52 (fun H locs hP hD hS => ?_)
        have hP : va_P D vwCl (wM q cI (va_up v 0 (va_up (v 0) 3 ((v 0 3) + 1)))) H := hP
        have hD : va_D A (wM q cI (va_up v 0 (va_up (v 0) 3 ((v 0 3) + 1)))) := hD
        refine lv_aload_n hx hb dX5_isPart_55 rfl (lv_at hl 1 rfl) ?_
        refine lv_iload_n hx hb dX5_isPart_56 rfl (lv_at hl 0 rfl) ?_
        refine o_bipush (k := 119) hx hb dX5_isPart_57 (by decide) ?_
        refine o_icmp_ne (tgt := 67) hx hb dX5_isPart_59 (by decide) (by omega) (Nat.le_of_ble_eq_true rfl) (fun c_155 => ?_) (fun c_155 => ?_)
        · skip
          refine lv_iload_n hx hb dX5_isPart_67 rfl (lv_at hl 0 rfl) ?_
          refine o_bipush (k := 99) hx hb dX5_isPart_68 (by decide) ?_
          refine o_icmp_eq (tgt := 79) hx hb dX5_isPart_70 (by decide) (by omega) (Nat.le_of_ble_eq_true rfl) (fun c_156 => ?_) (fun c_156 => ?_)
          · skip
            refine o_bipush (k := 50) hx hb dX5_isPart_79 (by decide) ?_
            refine lv_goto (tgt := 86) hx hb dX5_isPart_81 (by decide) ?_
            refine o_wi (va_runV (As := [.int (nI 50)]) (rest := []) ⟨hx, hb, hml, hown, hts⟩ (k_X5_isDigit l D cI cR cS cL H.size q (va_up v 0 (va_up (v 0) 3 ((v 0 3) + 1))) 50 (by show ((v 0 3) + 1) < 2 ^ 31; first | assumption | omega) (by show v 0 1 ≤ 60; first | assumption | omega) (by show ∀ k, v 3 k < 2 ^ 31; first | assumption | omega) (by show 50 < 2 ^ 31; first | assumption | omega)) (cwV 1 hts gX5_isPart_X5_isDigit rfl rfl rfl (by decide +kernel) ⟨Nat.le_of_ble_eq_true rfl, Nat.le_of_ble_eq_true rfl⟩) (o_v (o_pB hK hN hP hD) (va_recv hK hP (ci := 5) (q0 := 0) rfl rfl)) rfl rfl hl.1 rfl (lv_room (Nat.le_of_ble_eq_true rfl)) dX5_isPart_86 ⟨Nat.zero_le _, Nat.zero_le _⟩) hP hD hS hA [0, 1, 2, 3, 4] (by decide) rfl (fun _ => rfl) (fun r_158 _ H locs e_157 hP hD hS => ?_)
            have e_157 : r_158 = nI (bn (((v 0 3) + 1) < v 0 1 ∧ 48 ≤ v 3 (((v 0 3) + 1)) ∧ v 3 (((v 0 3) + 1)) ≤ 50)) := e_157
            subst e_157
            have hP : va_P D vwCl (wM q cI (va_up v 0 (if ((v 0 3) + 1) < v 0 1 ∧ 48 ≤ v 3 (((v 0 3) + 1)) ∧ v 3 (((v 0 3) + 1)) ≤ 50 then (va_up (va_up (v 0) 3 ((v 0 3) + 1)) 3 ((v 0 3) + 2)) else (va_up (va_up (v 0) 3 ((v 0 3) + 1)) 4 (bn (((v 0 3) + 1) < v 0 1)))))) H := hP
            have hD : va_D A (wM q cI (va_up v 0 (if ((v 0 3) + 1) < v 0 1 ∧ 48 ≤ v 3 (((v 0 3) + 1)) ∧ v 3 (((v 0 3) + 1)) ≤ 50 then (va_up (va_up (v 0) 3 ((v 0 3) + 1)) 3 ((v 0 3) + 2)) else (va_up (va_up (v 0) 3 ((v 0 3) + 1)) 4 (bn (((v 0 3) + 1) < v 0 1)))))) := hD
            refine o_ifnz (tgt := 94) hx hb dX5_isPart_89 (by decide) (fun c_159 => ?_) (fun c_159 => ?_)
            · skip
              rw [if_pos c_159] at hP hD
              have hP : va_P D vwCl (wM q cI (va_up v 0 (va_up (v 0) 3 ((v 0 3) + 2)))) H := hP
              have hD : va_D A (wM q cI (va_up v 0 (va_up (v 0) 3 ((v 0 3) + 2)))) := hD
              refine lv_aload_n hx hb dX5_isPart_94 rfl (lv_at hl 1 rfl) ?_
              refine va_get (D := D) (ci := 5) (v := .ref (q 4)) (C := RX5) (T := TX5) (N := 10) hx hb hts inX5_isPart_X5 hown hK hP 0 rfl rfl 8 (by decide) (hts (.fieldLink RX5 19 "OddNoticeModel" "told" "[I") (List.mem_of_getElem? (i := 3) (by decide +kernel))) (fun _ h9 => h9) rfl dX5_isPart_95 ?_
              refine o_const (k := 3) hx hb dX5_isPart_98 (by decide) ?_
              refine lv_aload_n hx hb dX5_isPart_99 rfl (lv_at hl 1 rfl) ?_
              refine va_get (D := D) (ci := 5) (v := .int (nI (v 0 5))) (C := RX5) (T := TX5) (N := 10) hx hb hts inX5_isPart_X5 hown hK hP 0 rfl rfl 9 (by decide) (hts (.fieldLink RX5 106 "OddNoticeModel" "tolds" "I") (List.mem_of_getElem? (i := 4) (by decide +kernel))) (fun _ h9 => h9) rfl dX5_isPart_100 ?_
              refine o_imul (a := 3) (b := (v 0 5)) (k := (3 * (v 0 5))) hx hb dX5_isPart_103 rfl ?_
              refine lv_iload_n hx hb dX5_isPart_104 rfl (lv_at hl 0 rfl) ?_
              refine o_iast (g := (v 4)) hx hb hK hP hD hS 4 0 rfl rfl (by omega) (Nat.le_of_ble_eq_true rfl) dX5_isPart_105 (fun H locs hP hD hS => ?_)
              have hP : va_P D vwCl (wM q cI (va_up (va_up v 0 (va_up (v 0) 3 ((v 0 3) + 2))) 4 (va_up (v 4) (3 * (v 0 5)) (v 3 (v 0 3))))) H := hP
              have hD : va_D A (wM q cI (va_up (va_up v 0 (va_up (v 0) 3 ((v 0 3) + 2))) 4 (va_up (v 4) (3 * (v 0 5)) (v 3 (v 0 3))))) := hD
              refine lv_aload_n hx hb dX5_isPart_106 rfl (lv_at hl 1 rfl) ?_
              refine va_get (D := D) (ci := 5) (v := .ref (q 4)) (C := RX5) (T := TX5) (N := 10) hx hb hts inX5_isPart_X5 hown hK hP 0 rfl rfl 8 (by decide) (hts (.fieldLink RX5 19 "OddNoticeModel" "told" "[I") (List.mem_of_getElem? (i := 3) (by decide +kernel))) (fun _ h9 => h9) rfl dX5_isPart_107 ?_
              refine o_const (k := 3) hx hb dX5_isPart_110 (by decide) ?_
              refine lv_aload_n hx hb dX5_isPart_111 rfl (lv_at hl 1 rfl) ?_
              refine va_get (D := D) (ci := 5) (v := .int (nI (v 0 5))) (C := RX5) (T := TX5) (N := 10) hx hb hts inX5_isPart_X5 hown hK hP 0 rfl rfl 9 (by decide) (hts (.fieldLink RX5 106 "OddNoticeModel" "tolds" "I") (List.mem_of_getElem? (i := 4) (by decide +kernel))) (fun _ h9 => h9) rfl dX5_isPart_112 ?_
              refine o_imul (a := 3) (b := (v 0 5)) (k := (3 * (v 0 5))) hx hb dX5_isPart_115 rfl ?_
              refine o_const (k := 1) hx hb dX5_isPart_116 (by decide) ?_
              refine o_iadd (a := (3 * (v 0 5))) (b := 1) (k := (3 * (v 0 5) + 1)) hx hb dX5_isPart_117 rfl ?_
              refine lv_aload_n hx hb dX5_isPart_118 rfl (lv_at hl 1 rfl) ?_
              refine va_get (D := D) (ci := 5) (v := .ref (q 3)) (C := RX5) (T := TX5) (N := 10) hx hb hts inX5_isPart_X5 hown hK hP 0 rfl rfl 3 (by decide) (hts (.fieldLink RX5 16 "OddNoticeModel" "text" "[I") (List.mem_of_getElem? (i := 1) (by decide +kernel))) (fun _ h9 => h9) rfl dX5_isPart_119 ?_
              refine lv_aload_n hx hb dX5_isPart_122 rfl (lv_at hl 1 rfl) ?_
              refine va_get (D := D) (ci := 5) (v := .int (nI ((v 0 3) + 2))) (C := RX5) (T := TX5) (N := 10) hx hb hts inX5_isPart_X5 hown hK hP 0 rfl rfl 6 (by decide) (hts (.fieldLink RX5 89 "OddNoticeModel" "at" "I") (List.mem_of_getElem? (i := 2) (by decide +kernel))) (fun _ h9 => h9) rfl dX5_isPart_123 ?_
              refine o_const (k := 1) hx hb dX5_isPart_126 (by decide) ?_
              refine o_isub (a := ((v 0 3) + 2)) (b := 1) (k := ((v 0 3) + 1)) hx hb dX5_isPart_127 (by omega) (by omega) ?_
              refine o_iald (v := nI (v 3 ((v 0 3) + 1))) hx hb hK hP 3 0 rfl rfl (by omega) (Nat.le_of_ble_eq_true rfl) rfl dX5_isPart_128 ?_
              have f_160 := ht ((v 0 3) + 1)
              refine o_bipush (k := 48) hx hb dX5_isPart_129 (by decide) ?_
              refine o_isub (a := (v 3 ((v 0 3) + 1))) (b := 48) (k := ((v 3 ((v 0 3) + 1)) - 48)) hx hb dX5_isPart_131 (by omega) rfl ?_
              refine o_iast (g := (va_up (v 4) (3 * (v 0 5)) (v 3 (v 0 3)))) hx hb hK hP hD hS 4 0 rfl rfl (by omega) (Nat.le_of_ble_eq_true rfl) dX5_isPart_132 (fun H locs hP hD hS => ?_)
              have hP : va_P D vwCl (wM q cI (va_up (va_up v 0 (va_up (v 0) 3 ((v 0 3) + 2))) 4 (va_up (va_up (v 4) (3 * (v 0 5)) (v 3 (v 0 3))) (3 * (v 0 5) + 1) ((v 3 ((v 0 3) + 1)) - 48)))) H := hP
              have hD : va_D A (wM q cI (va_up (va_up v 0 (va_up (v 0) 3 ((v 0 3) + 2))) 4 (va_up (va_up (v 4) (3 * (v 0 5)) (v 3 (v 0 3))) (3 * (v 0 5) + 1) ((v 3 ((v 0 3) + 1)) - 48)))) := hD
              refine lv_iload_n hx hb dX5_isPart_133 rfl (lv_at hl 0 rfl) ?_
              refine o_bipush (k := 119) hx hb dX5_isPart_134 (by decide) ?_
              refine o_icmp_ne (tgt := 204) hx hb dX5_isPart_136 (by decide) (by omega) (Nat.le_of_ble_eq_true rfl) (fun c_161 => ?_) (fun c_161 => ?_)
              · skip
                refine o_const (k := 1) hx hb dX5_isPart_204 (by decide) ?_
                have w_162 : (wM q cI (va_up (va_up v 0 (va_up (va_up (v 0) 3 (m_pt (v 3) (v 0 1) (v 0 5) (v 0 3) (v 0 4) (v 4)).1) 4 (m_pt (v 3) (v 0 1) (v 0 5) (v 0 3) (v 0 4) (v 4)).2.1)) 4 (m_pt (v 3) (v 0 1) (v 0 5) (v 0 3) (v 0 4) (v 4)).2.2.1)) = (wM q cI (va_up (va_up v 0 (va_up (v 0) 3 ((v 0 3) + 2))) 4 (va_up (va_up (v 4) (3 * (v 0 5)) (v 3 (v 0 3))) (3 * (v 0 5) + 1) ((v 3 ((v 0 3) + 1)) - 48)))) := (by unfold m_pt; rw [if_pos (by omega), if_pos (by unfold m_hi; (repeat' split) <;> omega), if_neg (by omega)]; first | done | rfl)
                rw [← w_162] at hP
                exact W.zret (v := nI 1) hx hb hrt rfl (fun t ht hW => ⟨⟨_, (), rfl, (congrArg nI (by unfold m_pt; rw [if_pos (by omega), if_pos (by unfold m_hi; (repeat' split) <;> omega), if_neg (by omega)])), by show va_P D vwCl _ t.heap; rw [ht]; exact hP⟩, hS.F ht⟩) hS.2.2 dX5_isPart_205
              · skip
                refine lv_aload_n hx hb dX5_isPart_139 rfl (lv_at hl 1 rfl) ?_
                refine o_bipush (k := 57) hx hb dX5_isPart_140 (by decide) ?_
                refine o_wi (va_runV (As := [.int (nI 57)]) (rest := []) ⟨hx, hb, hml, hown, hts⟩ (k_X5_isDigit l D cI cR cS cL H.size q (va_up (va_up v 0 (va_up (v 0) 3 ((v 0 3) + 2))) 4 (va_up (va_up (v 4) (3 * (v 0 5)) (v 3 (v 0 3))) (3 * (v 0 5) + 1) ((v 3 ((v 0 3) + 1)) - 48))) 57 (by show ((v 0 3) + 2) < 2 ^ 31; first | assumption | omega) (by show v 0 1 ≤ 60; first | assumption | omega) (by show ∀ k, v 3 k < 2 ^ 31; first | assumption | omega) (by show 57 < 2 ^ 31; first | assumption | omega)) (cwV 1 hts gX5_isPart_X5_isDigit rfl rfl rfl (by decide +kernel) ⟨Nat.le_of_ble_eq_true rfl, Nat.le_of_ble_eq_true rfl⟩) (o_v (o_pB hK hN hP hD) (va_recv hK hP (ci := 5) (q0 := 0) rfl rfl)) rfl rfl hl.1 rfl (lv_room (Nat.le_of_ble_eq_true rfl)) dX5_isPart_142 ⟨Nat.zero_le _, Nat.zero_le _⟩) hP hD hS hA [0, 1, 2, 3, 4] (by decide) rfl (fun _ => rfl) (fun r_164 _ H locs e_163 hP hD hS => ?_)
                have e_163 : r_164 = nI (bn (((v 0 3) + 2) < v 0 1 ∧ 48 ≤ v 3 (((v 0 3) + 2)) ∧ v 3 (((v 0 3) + 2)) ≤ 57)) := e_163
                subst e_163
                have hP : va_P D vwCl (wM q cI (va_up (va_up v 0 (if ((v 0 3) + 2) < v 0 1 ∧ 48 ≤ v 3 (((v 0 3) + 2)) ∧ v 3 (((v 0 3) + 2)) ≤ 57 then (va_up (va_up (v 0) 3 ((v 0 3) + 2)) 3 ((v 0 3) + 3)) else (va_up (va_up (v 0) 3 ((v 0 3) + 2)) 4 (bn (((v 0 3) + 2) < v 0 1))))) 4 (va_up (va_up (v 4) (3 * (v 0 5)) (v 3 (v 0 3))) (3 * (v 0 5) + 1) ((v 3 ((v 0 3) + 1)) - 48)))) H := hP
                have hD : va_D A (wM q cI (va_up (va_up v 0 (if ((v 0 3) + 2) < v 0 1 ∧ 48 ≤ v 3 (((v 0 3) + 2)) ∧ v 3 (((v 0 3) + 2)) ≤ 57 then (va_up (va_up (v 0) 3 ((v 0 3) + 2)) 3 ((v 0 3) + 3)) else (va_up (va_up (v 0) 3 ((v 0 3) + 2)) 4 (bn (((v 0 3) + 2) < v 0 1))))) 4 (va_up (va_up (v 4) (3 * (v 0 5)) (v 3 (v 0 3))) (3 * (v 0 5) + 1) ((v 3 ((v 0 3) + 1)) - 48)))) := hD
                refine o_ifz (tgt := 157) hx hb dX5_isPart_145 (by decide) (fun c_165 => ?_) (fun c_165 => ?_)
                · skip
                  rw [if_neg c_165] at hP hD
                  have hP : va_P D vwCl (wM q cI (va_up (va_up v 0 (va_up (va_up (v 0) 3 ((v 0 3) + 2)) 4 (bn (((v 0 3) + 2) < v 0 1)))) 4 (va_up (va_up (v 4) (3 * (v 0 5)) (v 3 (v 0 3))) (3 * (v 0 5) + 1) ((v 3 ((v 0 3) + 1)) - 48)))) H := hP
                  have hD : va_D A (wM q cI (va_up (va_up v 0 (va_up (va_up (v 0) 3 ((v 0 3) + 2)) 4 (bn (((v 0 3) + 2) < v 0 1)))) 4 (va_up (va_up (v 4) (3 * (v 0 5)) (v 3 (v 0 3))) (3 * (v 0 5) + 1) ((v 3 ((v 0 3) + 1)) - 48)))) := hD
                  refine o_const (k := 0) hx hb dX5_isPart_157 (by decide) ?_
                  have w_166 : (wM q cI (va_up (va_up v 0 (va_up (va_up (v 0) 3 (m_pt (v 3) (v 0 1) (v 0 5) (v 0 3) (v 0 4) (v 4)).1) 4 (m_pt (v 3) (v 0 1) (v 0 5) (v 0 3) (v 0 4) (v 4)).2.1)) 4 (m_pt (v 3) (v 0 1) (v 0 5) (v 0 3) (v 0 4) (v 4)).2.2.1)) = (wM q cI (va_up (va_up v 0 (va_up (va_up (v 0) 3 ((v 0 3) + 2)) 4 (bn (((v 0 3) + 2) < v 0 1)))) 4 (va_up (va_up (v 4) (3 * (v 0 5)) (v 3 (v 0 3))) (3 * (v 0 5) + 1) ((v 3 ((v 0 3) + 1)) - 48)))) := (by unfold m_pt; rw [if_pos (by omega), if_pos (by unfold m_hi; (repeat' split) <;> omega), if_pos (by omega), if_neg (by omega)]; first | done | rfl)
                  rw [← w_166] at hP
                  exact W.zret (v := nI 0) hx hb hrt rfl (fun t ht hW => ⟨⟨_, (), rfl, (congrArg nI (by unfold m_pt; rw [if_pos (by omega), if_pos (by unfold m_hi; (repeat' split) <;> omega), if_pos (by omega), if_neg (by omega)])), by show va_P D vwCl _ t.heap; rw [ht]; exact hP⟩, hS.F ht⟩) hS.2.2 dX5_isPart_158
                · skip
                  rw [if_pos c_165] at hP hD
                  have hP : va_P D vwCl (wM q cI (va_up (va_up v 0 (va_up (v 0) 3 ((v 0 3) + 3))) 4 (va_up (va_up (v 4) (3 * (v 0 5)) (v 3 (v 0 3))) (3 * (v 0 5) + 1) ((v 3 ((v 0 3) + 1)) - 48)))) H := hP
                  have hD : va_D A (wM q cI (va_up (va_up v 0 (va_up (v 0) 3 ((v 0 3) + 3))) 4 (va_up (va_up (v 4) (3 * (v 0 5)) (v 3 (v 0 3))) (3 * (v 0 5) + 1) ((v 3 ((v 0 3) + 1)) - 48)))) := hD
                  refine lv_aload_n hx hb dX5_isPart_148 rfl (lv_at hl 1 rfl) ?_
                  refine o_bipush (k := 57) hx hb dX5_isPart_149 (by decide) ?_
                  refine o_wi (va_runV (As := [.int (nI 57)]) (rest := []) ⟨hx, hb, hml, hown, hts⟩ (k_X5_isDigit l D cI cR cS cL H.size q (va_up (va_up v 0 (va_up (v 0) 3 ((v 0 3) + 3))) 4 (va_up (va_up (v 4) (3 * (v 0 5)) (v 3 (v 0 3))) (3 * (v 0 5) + 1) ((v 3 ((v 0 3) + 1)) - 48))) 57 (by show ((v 0 3) + 3) < 2 ^ 31; first | assumption | omega) (by show v 0 1 ≤ 60; first | assumption | omega) (by show ∀ k, v 3 k < 2 ^ 31; first | assumption | omega) (by show 57 < 2 ^ 31; first | assumption | omega)) (cwV 1 hts gX5_isPart_X5_isDigit rfl rfl rfl (by decide +kernel) ⟨Nat.le_of_ble_eq_true rfl, Nat.le_of_ble_eq_true rfl⟩) (o_v (o_pB hK hN hP hD) (va_recv hK hP (ci := 5) (q0 := 0) rfl rfl)) rfl rfl hl.1 rfl (lv_room (Nat.le_of_ble_eq_true rfl)) dX5_isPart_151 ⟨Nat.zero_le _, Nat.zero_le _⟩) hP hD hS hA [0, 1, 2, 3, 4] (by decide) rfl (fun _ => rfl) (fun r_168 _ H locs e_167 hP hD hS => ?_)
                  have e_167 : r_168 = nI (bn (((v 0 3) + 3) < v 0 1 ∧ 48 ≤ v 3 (((v 0 3) + 3)) ∧ v 3 (((v 0 3) + 3)) ≤ 57)) := e_167
                  subst e_167
                  have hP : va_P D vwCl (wM q cI (va_up (va_up v 0 (if ((v 0 3) + 3) < v 0 1 ∧ 48 ≤ v 3 (((v 0 3) + 3)) ∧ v 3 (((v 0 3) + 3)) ≤ 57 then (va_up (va_up (v 0) 3 ((v 0 3) + 3)) 3 ((v 0 3) + 4)) else (va_up (va_up (v 0) 3 ((v 0 3) + 3)) 4 (bn (((v 0 3) + 3) < v 0 1))))) 4 (va_up (va_up (v 4) (3 * (v 0 5)) (v 3 (v 0 3))) (3 * (v 0 5) + 1) ((v 3 ((v 0 3) + 1)) - 48)))) H := hP
                  have hD : va_D A (wM q cI (va_up (va_up v 0 (if ((v 0 3) + 3) < v 0 1 ∧ 48 ≤ v 3 (((v 0 3) + 3)) ∧ v 3 (((v 0 3) + 3)) ≤ 57 then (va_up (va_up (v 0) 3 ((v 0 3) + 3)) 3 ((v 0 3) + 4)) else (va_up (va_up (v 0) 3 ((v 0 3) + 3)) 4 (bn (((v 0 3) + 3) < v 0 1))))) 4 (va_up (va_up (v 4) (3 * (v 0 5)) (v 3 (v 0 3))) (3 * (v 0 5) + 1) ((v 3 ((v 0 3) + 1)) - 48)))) := hD
                  refine o_ifnz (tgt := 159) hx hb dX5_isPart_154 (by decide) (fun c_169 => ?_) (fun c_169 => ?_)
                  · skip
                    rw [if_pos c_169] at hP hD
                    have hP : va_P D vwCl (wM q cI (va_up (va_up v 0 (va_up (v 0) 3 ((v 0 3) + 4))) 4 (va_up (va_up (v 4) (3 * (v 0 5)) (v 3 (v 0 3))) (3 * (v 0 5) + 1) ((v 3 ((v 0 3) + 1)) - 48)))) H := hP
                    have hD : va_D A (wM q cI (va_up (va_up v 0 (va_up (v 0) 3 ((v 0 3) + 4))) 4 (va_up (va_up (v 4) (3 * (v 0 5)) (v 3 (v 0 3))) (3 * (v 0 5) + 1) ((v 3 ((v 0 3) + 1)) - 48)))) := hD
                    refine lv_aload_n hx hb dX5_isPart_159 rfl (lv_at hl 1 rfl) ?_
                    refine va_get (D := D) (ci := 5) (v := .ref (q 4)) (C := RX5) (T := TX5) (N := 10) hx hb hts inX5_isPart_X5 hown hK hP 0 rfl rfl 8 (by decide) (hts (.fieldLink RX5 19 "OddNoticeModel" "told" "[I") (List.mem_of_getElem? (i := 3) (by decide +kernel))) (fun _ h9 => h9) rfl dX5_isPart_160 ?_
                    refine o_const (k := 3) hx hb dX5_isPart_163 (by decide) ?_
                    refine lv_aload_n hx hb dX5_isPart_164 rfl (lv_at hl 1 rfl) ?_
                    refine va_get (D := D) (ci := 5) (v := .int (nI (v 0 5))) (C := RX5) (T := TX5) (N := 10) hx hb hts inX5_isPart_X5 hown hK hP 0 rfl rfl 9 (by decide) (hts (.fieldLink RX5 106 "OddNoticeModel" "tolds" "I") (List.mem_of_getElem? (i := 4) (by decide +kernel))) (fun _ h9 => h9) rfl dX5_isPart_165 ?_
                    refine o_imul (a := 3) (b := (v 0 5)) (k := (3 * (v 0 5))) hx hb dX5_isPart_168 rfl ?_
                    refine o_const (k := 2) hx hb dX5_isPart_169 (by decide) ?_
                    refine o_iadd (a := (3 * (v 0 5))) (b := 2) (k := (3 * (v 0 5) + 2)) hx hb dX5_isPart_170 rfl ?_
                    refine o_bipush (k := 10) hx hb dX5_isPart_171 (by decide) ?_
                    refine lv_aload_n hx hb dX5_isPart_173 rfl (lv_at hl 1 rfl) ?_
                    refine va_get (D := D) (ci := 5) (v := .ref (q 3)) (C := RX5) (T := TX5) (N := 10) hx hb hts inX5_isPart_X5 hown hK hP 0 rfl rfl 3 (by decide) (hts (.fieldLink RX5 16 "OddNoticeModel" "text" "[I") (List.mem_of_getElem? (i := 1) (by decide +kernel))) (fun _ h9 => h9) rfl dX5_isPart_174 ?_
                    refine lv_aload_n hx hb dX5_isPart_177 rfl (lv_at hl 1 rfl) ?_
                    refine va_get (D := D) (ci := 5) (v := .int (nI ((v 0 3) + 4))) (C := RX5) (T := TX5) (N := 10) hx hb hts inX5_isPart_X5 hown hK hP 0 rfl rfl 6 (by decide) (hts (.fieldLink RX5 89 "OddNoticeModel" "at" "I") (List.mem_of_getElem? (i := 2) (by decide +kernel))) (fun _ h9 => h9) rfl dX5_isPart_178 ?_
                    refine o_const (k := 2) hx hb dX5_isPart_181 (by decide) ?_
                    refine o_isub (a := ((v 0 3) + 4)) (b := 2) (k := ((v 0 3) + 2)) hx hb dX5_isPart_182 (by omega) (by omega) ?_
                    refine o_iald (v := nI (v 3 ((v 0 3) + 2))) hx hb hK hP 3 0 rfl rfl (by omega) (Nat.le_of_ble_eq_true rfl) rfl dX5_isPart_183 ?_
                    have f_170 := ht ((v 0 3) + 2)
                    refine o_bipush (k := 48) hx hb dX5_isPart_184 (by decide) ?_
                    refine o_isub (a := (v 3 ((v 0 3) + 2))) (b := 48) (k := ((v 3 ((v 0 3) + 2)) - 48)) hx hb dX5_isPart_186 (by omega) rfl ?_
                    refine o_imul (a := 10) (b := ((v 3 ((v 0 3) + 2)) - 48)) (k := (10 * ((v 3 ((v 0 3) + 2)) - 48))) hx hb dX5_isPart_187 rfl ?_
                    refine lv_aload_n hx hb dX5_isPart_188 rfl (lv_at hl 1 rfl) ?_
                    refine va_get (D := D) (ci := 5) (v := .ref (q 3)) (C := RX5) (T := TX5) (N := 10) hx hb hts inX5_isPart_X5 hown hK hP 0 rfl rfl 3 (by decide) (hts (.fieldLink RX5 16 "OddNoticeModel" "text" "[I") (List.mem_of_getElem? (i := 1) (by decide +kernel))) (fun _ h9 => h9) rfl dX5_isPart_189 ?_
                    refine lv_aload_n hx hb dX5_isPart_192 rfl (lv_at hl 1 rfl) ?_
                    refine va_get (D := D) (ci := 5) (v := .int (nI ((v 0 3) + 4))) (C := RX5) (T := TX5) (N := 10) hx hb hts inX5_isPart_X5 hown hK hP 0 rfl rfl 6 (by decide) (hts (.fieldLink RX5 89 "OddNoticeModel" "at" "I") (List.mem_of_getElem? (i := 2) (by decide +kernel))) (fun _ h9 => h9) rfl dX5_isPart_193 ?_
                    refine o_const (k := 1) hx hb dX5_isPart_196 (by decide) ?_
                    refine o_isub (a := ((v 0 3) + 4)) (b := 1) (k := ((v 0 3) + 3)) hx hb dX5_isPart_197 (by omega) (by omega) ?_
                    refine o_iald (v := nI (v 3 ((v 0 3) + 3))) hx hb hK hP 3 0 rfl rfl (by omega) (Nat.le_of_ble_eq_true rfl) rfl dX5_isPart_198 ?_
                    have f_171 := ht ((v 0 3) + 3)
                    refine o_iadd (a := (10 * ((v 3 ((v 0 3) + 2)) - 48))) (b := (v 3 ((v 0 3) + 3))) (k := (10 * ((v 3 ((v 0 3) + 2)) - 48) + (v 3 ((v 0 3) + 3)))) hx hb dX5_isPart_199 rfl ?_
                    refine o_bipush (k := 48) hx hb dX5_isPart_200 (by decide) ?_
                    refine o_isub (a := (10 * ((v 3 ((v 0 3) + 2)) - 48) + (v 3 ((v 0 3) + 3)))) (b := 48) (k := (10 * ((v 3 ((v 0 3) + 2)) - 48) + (v 3 ((v 0 3) + 3)) - 48)) hx hb dX5_isPart_202 (by omega) rfl ?_
                    refine o_iast (g := (va_up (va_up (v 4) (3 * (v 0 5)) (v 3 (v 0 3))) (3 * (v 0 5) + 1) ((v 3 ((v 0 3) + 1)) - 48))) hx hb hK hP hD hS 4 0 rfl rfl (by omega) (Nat.le_of_ble_eq_true rfl) dX5_isPart_203 (fun H locs hP hD hS => ?_)
                    have hP : va_P D vwCl (wM q cI (va_up (va_up v 0 (va_up (v 0) 3 ((v 0 3) + 4))) 4 (va_up (va_up (va_up (v 4) (3 * (v 0 5)) (v 3 (v 0 3))) (3 * (v 0 5) + 1) ((v 3 ((v 0 3) + 1)) - 48)) (3 * (v 0 5) + 2) (10 * ((v 3 ((v 0 3) + 2)) - 48) + (v 3 ((v 0 3) + 3)) - 48)))) H := hP
                    have hD : va_D A (wM q cI (va_up (va_up v 0 (va_up (v 0) 3 ((v 0 3) + 4))) 4 (va_up (va_up (va_up (v 4) (3 * (v 0 5)) (v 3 (v 0 3))) (3 * (v 0 5) + 1) ((v 3 ((v 0 3) + 1)) - 48)) (3 * (v 0 5) + 2) (10 * ((v 3 ((v 0 3) + 2)) - 48) + (v 3 ((v 0 3) + 3)) - 48)))) := hD
                    refine o_const (k := 1) hx hb dX5_isPart_204 (by decide) ?_
                    have w_172 : (wM q cI (va_up (va_up v 0 (va_up (va_up (v 0) 3 (m_pt (v 3) (v 0 1) (v 0 5) (v 0 3) (v 0 4) (v 4)).1) 4 (m_pt (v 3) (v 0 1) (v 0 5) (v 0 3) (v 0 4) (v 4)).2.1)) 4 (m_pt (v 3) (v 0 1) (v 0 5) (v 0 3) (v 0 4) (v 4)).2.2.1)) = (wM q cI (va_up (va_up v 0 (va_up (v 0) 3 ((v 0 3) + 4))) 4 (va_up (va_up (va_up (v 4) (3 * (v 0 5)) (v 3 (v 0 3))) (3 * (v 0 5) + 1) ((v 3 ((v 0 3) + 1)) - 48)) (3 * (v 0 5) + 2) (10 * ((v 3 ((v 0 3) + 2)) - 48) + (v 3 ((v 0 3) + 3)) - 48)))) := (by unfold m_pt; rw [if_pos (by omega), if_pos (by unfold m_hi; (repeat' split) <;> omega), if_pos (by omega), if_pos (by omega), if_pos (by omega)]; first | done | rfl)
                    rw [← w_172] at hP
                    exact W.zret (v := nI 1) hx hb hrt rfl (fun t ht hW => ⟨⟨_, (), rfl, (congrArg nI (by unfold m_pt; rw [if_pos (by omega), if_pos (by unfold m_hi; (repeat' split) <;> omega), if_pos (by omega), if_pos (by omega), if_pos (by omega)])), by show va_P D vwCl _ t.heap; rw [ht]; exact hP⟩, hS.F ht⟩) hS.2.2 dX5_isPart_205
                  · skip
                    rw [if_neg c_169] at hP hD
                    have hP : va_P D vwCl (wM q cI (va_up (va_up v 0 (va_up (va_up (v 0) 3 ((v 0 3) + 3)) 4 (bn (((v 0 3) + 3) < v 0 1)))) 4 (va_up (va_up (v 4) (3 * (v 0 5)) (v 3 (v 0 3))) (3 * (v 0 5) + 1) ((v 3 ((v 0 3) + 1)) - 48)))) H := hP
                    have hD : va_D A (wM q cI (va_up (va_up v 0 (va_up (va_up (v 0) 3 ((v 0 3) + 3)) 4 (bn (((v 0 3) + 3) < v 0 1)))) 4 (va_up (va_up (v 4) (3 * (v 0 5)) (v 3 (v 0 3))) (3 * (v 0 5) + 1) ((v 3 ((v 0 3) + 1)) - 48)))) := hD
                    refine o_const (k := 0) hx hb dX5_isPart_157 (by decide) ?_
                    have w_173 : (wM q cI (va_up (va_up v 0 (va_up (va_up (v 0) 3 (m_pt (v 3) (v 0 1) (v 0 5) (v 0 3) (v 0 4) (v 4)).1) 4 (m_pt (v 3) (v 0 1) (v 0 5) (v 0 3) (v 0 4) (v 4)).2.1)) 4 (m_pt (v 3) (v 0 1) (v 0 5) (v 0 3) (v 0 4) (v 4)).2.2.1)) = (wM q cI (va_up (va_up v 0 (va_up (va_up (v 0) 3 ((v 0 3) + 3)) 4 (bn (((v 0 3) + 3) < v 0 1)))) 4 (va_up (va_up (v 4) (3 * (v 0 5)) (v 3 (v 0 3))) (3 * (v 0 5) + 1) ((v 3 ((v 0 3) + 1)) - 48)))) := (by unfold m_pt; rw [if_pos (by omega), if_pos (by unfold m_hi; (repeat' split) <;> omega), if_pos (by omega), if_pos (by omega), if_neg (by omega)]; first | done | rfl)
                    rw [← w_173] at hP
                    exact W.zret (v := nI 0) hx hb hrt rfl (fun t ht hW => ⟨⟨_, (), rfl, (congrArg nI (by unfold m_pt; rw [if_pos (by omega), if_pos (by unfold m_hi; (repeat' split) <;> omega), if_pos (by omega), if_pos (by omega), if_neg (by omega)])), by show va_P D vwCl _ t.heap; rw [ht]; exact hP⟩, hS.F ht⟩) hS.2.2 dX5_isPart_158
            · skip
              rw [if_neg c_159] at hP hD
              have hP : va_P D vwCl (wM q cI (va_up v 0 (va_up (va_up (v 0) 3 ((v 0 3) + 1)) 4 (bn (((v 0 3) + 1) < v 0 1))))) H := hP
              have hD : va_D A (wM q cI (va_up v 0 (va_up (va_up (v 0) 3 ((v 0 3) + 1)) 4 (bn (((v 0 3) + 1) < v 0 1))))) := hD
              refine o_const (k := 0) hx hb dX5_isPart_92 (by decide) ?_
              have w_174 : (wM q cI (va_up (va_up v 0 (va_up (va_up (v 0) 3 (m_pt (v 3) (v 0 1) (v 0 5) (v 0 3) (v 0 4) (v 4)).1) 4 (m_pt (v 3) (v 0 1) (v 0 5) (v 0 3) (v 0 4) (v 4)).2.1)) 4 (m_pt (v 3) (v 0 1) (v 0 5) (v 0 3) (v 0 4) (v 4)).2.2.1)) = (wM q cI (va_up v 0 (va_up (va_up (v 0) 3 ((v 0 3) + 1)) 4 (bn (((v 0 3) + 1) < v 0 1))))) := (by unfold m_pt; rw [if_pos (by omega), if_neg (by unfold m_hi; (repeat' split) <;> omega)]; first | done | rfl)
              rw [← w_174] at hP
              exact W.zret (v := nI 0) hx hb hrt rfl (fun t ht hW => ⟨⟨_, (), rfl, (congrArg nI (by unfold m_pt; rw [if_pos (by omega), if_neg (by unfold m_hi; (repeat' split) <;> omega)])), by show va_P D vwCl _ t.heap; rw [ht]; exact hP⟩, hS.F ht⟩) hS.2.2 dX5_isPart_93
          · skip
            refine lv_iload_n hx hb dX5_isPart_73 rfl (lv_at hl 0 rfl) ?_
            refine o_bipush (k := 100) hx hb dX5_isPart_74 (by decide) ?_
            refine o_icmp_ne (tgt := 84) hx hb dX5_isPart_76 (by decide) (by omega) (Nat.le_of_ble_eq_true rfl) (fun c_175 => ?_) (fun c_175 => ?_)
            · skip
              refine o_bipush (k := 51) hx hb dX5_isPart_84 (by decide) ?_
              refine o_wi (va_runV (As := [.int (nI 51)]) (rest := []) ⟨hx, hb, hml, hown, hts⟩ (k_X5_isDigit l D cI cR cS cL H.size q (va_up v 0 (va_up (v 0) 3 ((v 0 3) + 1))) 51 (by show ((v 0 3) + 1) < 2 ^ 31; first | assumption | omega) (by show v 0 1 ≤ 60; first | assumption | omega) (by show ∀ k, v 3 k < 2 ^ 31; first | assumption | omega) (by show 51 < 2 ^ 31; first | assumption | omega)) (cwV 1 hts gX5_isPart_X5_isDigit rfl rfl rfl (by decide +kernel) ⟨Nat.le_of_ble_eq_true rfl, Nat.le_of_ble_eq_true rfl⟩) (o_v (o_pB hK hN hP hD) (va_recv hK hP (ci := 5) (q0 := 0) rfl rfl)) rfl rfl hl.1 rfl (lv_room (Nat.le_of_ble_eq_true rfl)) dX5_isPart_86 ⟨Nat.zero_le _, Nat.zero_le _⟩) hP hD hS hA [0, 1, 2, 3, 4] (by decide) rfl (fun _ => rfl) (fun r_177 _ H locs e_176 hP hD hS => ?_)
              have e_176 : r_177 = nI (bn (((v 0 3) + 1) < v 0 1 ∧ 48 ≤ v 3 (((v 0 3) + 1)) ∧ v 3 (((v 0 3) + 1)) ≤ 51)) := e_176
              subst e_176
              have hP : va_P D vwCl (wM q cI (va_up v 0 (if ((v 0 3) + 1) < v 0 1 ∧ 48 ≤ v 3 (((v 0 3) + 1)) ∧ v 3 (((v 0 3) + 1)) ≤ 51 then (va_up (va_up (v 0) 3 ((v 0 3) + 1)) 3 ((v 0 3) + 2)) else (va_up (va_up (v 0) 3 ((v 0 3) + 1)) 4 (bn (((v 0 3) + 1) < v 0 1)))))) H := hP
              have hD : va_D A (wM q cI (va_up v 0 (if ((v 0 3) + 1) < v 0 1 ∧ 48 ≤ v 3 (((v 0 3) + 1)) ∧ v 3 (((v 0 3) + 1)) ≤ 51 then (va_up (va_up (v 0) 3 ((v 0 3) + 1)) 3 ((v 0 3) + 2)) else (va_up (va_up (v 0) 3 ((v 0 3) + 1)) 4 (bn (((v 0 3) + 1) < v 0 1)))))) := hD
              refine o_ifnz (tgt := 94) hx hb dX5_isPart_89 (by decide) (fun c_178 => ?_) (fun c_178 => ?_)
              · skip
                rw [if_pos c_178] at hP hD
                have hP : va_P D vwCl (wM q cI (va_up v 0 (va_up (v 0) 3 ((v 0 3) + 2)))) H := hP
                have hD : va_D A (wM q cI (va_up v 0 (va_up (v 0) 3 ((v 0 3) + 2)))) := hD
                refine lv_aload_n hx hb dX5_isPart_94 rfl (lv_at hl 1 rfl) ?_
                refine va_get (D := D) (ci := 5) (v := .ref (q 4)) (C := RX5) (T := TX5) (N := 10) hx hb hts inX5_isPart_X5 hown hK hP 0 rfl rfl 8 (by decide) (hts (.fieldLink RX5 19 "OddNoticeModel" "told" "[I") (List.mem_of_getElem? (i := 3) (by decide +kernel))) (fun _ h9 => h9) rfl dX5_isPart_95 ?_
                refine o_const (k := 3) hx hb dX5_isPart_98 (by decide) ?_
                refine lv_aload_n hx hb dX5_isPart_99 rfl (lv_at hl 1 rfl) ?_
                refine va_get (D := D) (ci := 5) (v := .int (nI (v 0 5))) (C := RX5) (T := TX5) (N := 10) hx hb hts inX5_isPart_X5 hown hK hP 0 rfl rfl 9 (by decide) (hts (.fieldLink RX5 106 "OddNoticeModel" "tolds" "I") (List.mem_of_getElem? (i := 4) (by decide +kernel))) (fun _ h9 => h9) rfl dX5_isPart_100 ?_
                refine o_imul (a := 3) (b := (v 0 5)) (k := (3 * (v 0 5))) hx hb dX5_isPart_103 rfl ?_
                refine lv_iload_n hx hb dX5_isPart_104 rfl (lv_at hl 0 rfl) ?_
                refine o_iast (g := (v 4)) hx hb hK hP hD hS 4 0 rfl rfl (by omega) (Nat.le_of_ble_eq_true rfl) dX5_isPart_105 (fun H locs hP hD hS => ?_)
                have hP : va_P D vwCl (wM q cI (va_up (va_up v 0 (va_up (v 0) 3 ((v 0 3) + 2))) 4 (va_up (v 4) (3 * (v 0 5)) (v 3 (v 0 3))))) H := hP
                have hD : va_D A (wM q cI (va_up (va_up v 0 (va_up (v 0) 3 ((v 0 3) + 2))) 4 (va_up (v 4) (3 * (v 0 5)) (v 3 (v 0 3))))) := hD
                refine lv_aload_n hx hb dX5_isPart_106 rfl (lv_at hl 1 rfl) ?_
                refine va_get (D := D) (ci := 5) (v := .ref (q 4)) (C := RX5) (T := TX5) (N := 10) hx hb hts inX5_isPart_X5 hown hK hP 0 rfl rfl 8 (by decide) (hts (.fieldLink RX5 19 "OddNoticeModel" "told" "[I") (List.mem_of_getElem? (i := 3) (by decide +kernel))) (fun _ h9 => h9) rfl dX5_isPart_107 ?_
                refine o_const (k := 3) hx hb dX5_isPart_110 (by decide) ?_
                refine lv_aload_n hx hb dX5_isPart_111 rfl (lv_at hl 1 rfl) ?_
                refine va_get (D := D) (ci := 5) (v := .int (nI (v 0 5))) (C := RX5) (T := TX5) (N := 10) hx hb hts inX5_isPart_X5 hown hK hP 0 rfl rfl 9 (by decide) (hts (.fieldLink RX5 106 "OddNoticeModel" "tolds" "I") (List.mem_of_getElem? (i := 4) (by decide +kernel))) (fun _ h9 => h9) rfl dX5_isPart_112 ?_
                refine o_imul (a := 3) (b := (v 0 5)) (k := (3 * (v 0 5))) hx hb dX5_isPart_115 rfl ?_
                refine o_const (k := 1) hx hb dX5_isPart_116 (by decide) ?_
                refine o_iadd (a := (3 * (v 0 5))) (b := 1) (k := (3 * (v 0 5) + 1)) hx hb dX5_isPart_117 rfl ?_
                refine lv_aload_n hx hb dX5_isPart_118 rfl (lv_at hl 1 rfl) ?_
                refine va_get (D := D) (ci := 5) (v := .ref (q 3)) (C := RX5) (T := TX5) (N := 10) hx hb hts inX5_isPart_X5 hown hK hP 0 rfl rfl 3 (by decide) (hts (.fieldLink RX5 16 "OddNoticeModel" "text" "[I") (List.mem_of_getElem? (i := 1) (by decide +kernel))) (fun _ h9 => h9) rfl dX5_isPart_119 ?_
                refine lv_aload_n hx hb dX5_isPart_122 rfl (lv_at hl 1 rfl) ?_
                refine va_get (D := D) (ci := 5) (v := .int (nI ((v 0 3) + 2))) (C := RX5) (T := TX5) (N := 10) hx hb hts inX5_isPart_X5 hown hK hP 0 rfl rfl 6 (by decide) (hts (.fieldLink RX5 89 "OddNoticeModel" "at" "I") (List.mem_of_getElem? (i := 2) (by decide +kernel))) (fun _ h9 => h9) rfl dX5_isPart_123 ?_
                refine o_const (k := 1) hx hb dX5_isPart_126 (by decide) ?_
                refine o_isub (a := ((v 0 3) + 2)) (b := 1) (k := ((v 0 3) + 1)) hx hb dX5_isPart_127 (by omega) (by omega) ?_
                refine o_iald (v := nI (v 3 ((v 0 3) + 1))) hx hb hK hP 3 0 rfl rfl (by omega) (Nat.le_of_ble_eq_true rfl) rfl dX5_isPart_128 ?_
                have f_179 := ht ((v 0 3) + 1)
                refine o_bipush (k := 48) hx hb dX5_isPart_129 (by decide) ?_
                refine o_isub (a := (v 3 ((v 0 3) + 1))) (b := 48) (k := ((v 3 ((v 0 3) + 1)) - 48)) hx hb dX5_isPart_131 (by omega) rfl ?_
                refine o_iast (g := (va_up (v 4) (3 * (v 0 5)) (v 3 (v 0 3)))) hx hb hK hP hD hS 4 0 rfl rfl (by omega) (Nat.le_of_ble_eq_true rfl) dX5_isPart_132 (fun H locs hP hD hS => ?_)
                have hP : va_P D vwCl (wM q cI (va_up (va_up v 0 (va_up (v 0) 3 ((v 0 3) + 2))) 4 (va_up (va_up (v 4) (3 * (v 0 5)) (v 3 (v 0 3))) (3 * (v 0 5) + 1) ((v 3 ((v 0 3) + 1)) - 48)))) H := hP
                have hD : va_D A (wM q cI (va_up (va_up v 0 (va_up (v 0) 3 ((v 0 3) + 2))) 4 (va_up (va_up (v 4) (3 * (v 0 5)) (v 3 (v 0 3))) (3 * (v 0 5) + 1) ((v 3 ((v 0 3) + 1)) - 48)))) := hD
                refine lv_iload_n hx hb dX5_isPart_133 rfl (lv_at hl 0 rfl) ?_
                refine o_bipush (k := 119) hx hb dX5_isPart_134 (by decide) ?_
                refine o_icmp_ne (tgt := 204) hx hb dX5_isPart_136 (by decide) (by omega) (Nat.le_of_ble_eq_true rfl) (fun c_180 => ?_) (fun c_180 => ?_)
                · skip
                  refine o_const (k := 1) hx hb dX5_isPart_204 (by decide) ?_
                  have w_181 : (wM q cI (va_up (va_up v 0 (va_up (va_up (v 0) 3 (m_pt (v 3) (v 0 1) (v 0 5) (v 0 3) (v 0 4) (v 4)).1) 4 (m_pt (v 3) (v 0 1) (v 0 5) (v 0 3) (v 0 4) (v 4)).2.1)) 4 (m_pt (v 3) (v 0 1) (v 0 5) (v 0 3) (v 0 4) (v 4)).2.2.1)) = (wM q cI (va_up (va_up v 0 (va_up (v 0) 3 ((v 0 3) + 2))) 4 (va_up (va_up (v 4) (3 * (v 0 5)) (v 3 (v 0 3))) (3 * (v 0 5) + 1) ((v 3 ((v 0 3) + 1)) - 48)))) := (by unfold m_pt; rw [if_pos (by omega), if_pos (by unfold m_hi; (repeat' split) <;> omega), if_neg (by omega)]; first | done | rfl)
                  rw [← w_181] at hP
                  exact W.zret (v := nI 1) hx hb hrt rfl (fun t ht hW => ⟨⟨_, (), rfl, (congrArg nI (by unfold m_pt; rw [if_pos (by omega), if_pos (by unfold m_hi; (repeat' split) <;> omega), if_neg (by omega)])), by show va_P D vwCl _ t.heap; rw [ht]; exact hP⟩, hS.F ht⟩) hS.2.2 dX5_isPart_205
                · skip
                  refine lv_aload_n hx hb dX5_isPart_139 rfl (lv_at hl 1 rfl) ?_
                  refine o_bipush (k := 57) hx hb dX5_isPart_140 (by decide) ?_
                  refine o_wi (va_runV (As := [.int (nI 57)]) (rest := []) ⟨hx, hb, hml, hown, hts⟩ (k_X5_isDigit l D cI cR cS cL H.size q (va_up (va_up v 0 (va_up (v 0) 3 ((v 0 3) + 2))) 4 (va_up (va_up (v 4) (3 * (v 0 5)) (v 3 (v 0 3))) (3 * (v 0 5) + 1) ((v 3 ((v 0 3) + 1)) - 48))) 57 (by show ((v 0 3) + 2) < 2 ^ 31; first | assumption | omega) (by show v 0 1 ≤ 60; first | assumption | omega) (by show ∀ k, v 3 k < 2 ^ 31; first | assumption | omega) (by show 57 < 2 ^ 31; first | assumption | omega)) (cwV 1 hts gX5_isPart_X5_isDigit rfl rfl rfl (by decide +kernel) ⟨Nat.le_of_ble_eq_true rfl, Nat.le_of_ble_eq_true rfl⟩) (o_v (o_pB hK hN hP hD) (va_recv hK hP (ci := 5) (q0 := 0) rfl rfl)) rfl rfl hl.1 rfl (lv_room (Nat.le_of_ble_eq_true rfl)) dX5_isPart_142 ⟨Nat.zero_le _, Nat.zero_le _⟩) hP hD hS hA [0, 1, 2, 3, 4] (by decide) rfl (fun _ => rfl) (fun r_183 _ H locs e_182 hP hD hS => ?_)
                  have e_182 : r_183 = nI (bn (((v 0 3) + 2) < v 0 1 ∧ 48 ≤ v 3 (((v 0 3) + 2)) ∧ v 3 (((v 0 3) + 2)) ≤ 57)) := e_182
                  subst e_182
                  have hP : va_P D vwCl (wM q cI (va_up (va_up v 0 (if ((v 0 3) + 2) < v 0 1 ∧ 48 ≤ v 3 (((v 0 3) + 2)) ∧ v 3 (((v 0 3) + 2)) ≤ 57 then (va_up (va_up (v 0) 3 ((v 0 3) + 2)) 3 ((v 0 3) + 3)) else (va_up (va_up (v 0) 3 ((v 0 3) + 2)) 4 (bn (((v 0 3) + 2) < v 0 1))))) 4 (va_up (va_up (v 4) (3 * (v 0 5)) (v 3 (v 0 3))) (3 * (v 0 5) + 1) ((v 3 ((v 0 3) + 1)) - 48)))) H := hP
                  have hD : va_D A (wM q cI (va_up (va_up v 0 (if ((v 0 3) + 2) < v 0 1 ∧ 48 ≤ v 3 (((v 0 3) + 2)) ∧ v 3 (((v 0 3) + 2)) ≤ 57 then (va_up (va_up (v 0) 3 ((v 0 3) + 2)) 3 ((v 0 3) + 3)) else (va_up (va_up (v 0) 3 ((v 0 3) + 2)) 4 (bn (((v 0 3) + 2) < v 0 1))))) 4 (va_up (va_up (v 4) (3 * (v 0 5)) (v 3 (v 0 3))) (3 * (v 0 5) + 1) ((v 3 ((v 0 3) + 1)) - 48)))) := hD
                  refine o_ifz (tgt := 157) hx hb dX5_isPart_145 (by decide) (fun c_184 => ?_) (fun c_184 => ?_)
                  · skip
                    rw [if_neg c_184] at hP hD
                    have hP : va_P D vwCl (wM q cI (va_up (va_up v 0 (va_up (va_up (v 0) 3 ((v 0 3) + 2)) 4 (bn (((v 0 3) + 2) < v 0 1)))) 4 (va_up (va_up (v 4) (3 * (v 0 5)) (v 3 (v 0 3))) (3 * (v 0 5) + 1) ((v 3 ((v 0 3) + 1)) - 48)))) H := hP
                    have hD : va_D A (wM q cI (va_up (va_up v 0 (va_up (va_up (v 0) 3 ((v 0 3) + 2)) 4 (bn (((v 0 3) + 2) < v 0 1)))) 4 (va_up (va_up (v 4) (3 * (v 0 5)) (v 3 (v 0 3))) (3 * (v 0 5) + 1) ((v 3 ((v 0 3) + 1)) - 48)))) := hD
                    refine o_const (k := 0) hx hb dX5_isPart_157 (by decide) ?_
                    have w_185 : (wM q cI (va_up (va_up v 0 (va_up (va_up (v 0) 3 (m_pt (v 3) (v 0 1) (v 0 5) (v 0 3) (v 0 4) (v 4)).1) 4 (m_pt (v 3) (v 0 1) (v 0 5) (v 0 3) (v 0 4) (v 4)).2.1)) 4 (m_pt (v 3) (v 0 1) (v 0 5) (v 0 3) (v 0 4) (v 4)).2.2.1)) = (wM q cI (va_up (va_up v 0 (va_up (va_up (v 0) 3 ((v 0 3) + 2)) 4 (bn (((v 0 3) + 2) < v 0 1)))) 4 (va_up (va_up (v 4) (3 * (v 0 5)) (v 3 (v 0 3))) (3 * (v 0 5) + 1) ((v 3 ((v 0 3) + 1)) - 48)))) := (by unfold m_pt; rw [if_pos (by omega), if_pos (by unfold m_hi; (repeat' split) <;> omega), if_pos (by omega), if_neg (by omega)]; first | done | rfl)
                    rw [← w_185] at hP
                    exact W.zret (v := nI 0) hx hb hrt rfl (fun t ht hW => ⟨⟨_, (), rfl, (congrArg nI (by unfold m_pt; rw [if_pos (by omega), if_pos (by unfold m_hi; (repeat' split) <;> omega), if_pos (by omega), if_neg (by omega)])), by show va_P D vwCl _ t.heap; rw [ht]; exact hP⟩, hS.F ht⟩) hS.2.2 dX5_isPart_158
                  · skip
                    rw [if_pos c_184] at hP hD
                    have hP : va_P D vwCl (wM q cI (va_up (va_up v 0 (va_up (v 0) 3 ((v 0 3) + 3))) 4 (va_up (va_up (v 4) (3 * (v 0 5)) (v 3 (v 0 3))) (3 * (v 0 5) + 1) ((v 3 ((v 0 3) + 1)) - 48)))) H := hP
                    have hD : va_D A (wM q cI (va_up (va_up v 0 (va_up (v 0) 3 ((v 0 3) + 3))) 4 (va_up (va_up (v 4) (3 * (v 0 5)) (v 3 (v 0 3))) (3 * (v 0 5) + 1) ((v 3 ((v 0 3) + 1)) - 48)))) := hD
                    refine lv_aload_n hx hb dX5_isPart_148 rfl (lv_at hl 1 rfl) ?_
                    refine o_bipush (k := 57) hx hb dX5_isPart_149 (by decide) ?_
                    refine o_wi (va_runV (As := [.int (nI 57)]) (rest := []) ⟨hx, hb, hml, hown, hts⟩ (k_X5_isDigit l D cI cR cS cL H.size q (va_up (va_up v 0 (va_up (v 0) 3 ((v 0 3) + 3))) 4 (va_up (va_up (v 4) (3 * (v 0 5)) (v 3 (v 0 3))) (3 * (v 0 5) + 1) ((v 3 ((v 0 3) + 1)) - 48))) 57 (by show ((v 0 3) + 3) < 2 ^ 31; first | assumption | omega) (by show v 0 1 ≤ 60; first | assumption | omega) (by show ∀ k, v 3 k < 2 ^ 31; first | assumption | omega) (by show 57 < 2 ^ 31; first | assumption | omega)) (cwV 1 hts gX5_isPart_X5_isDigit rfl rfl rfl (by decide +kernel) ⟨Nat.le_of_ble_eq_true rfl, Nat.le_of_ble_eq_true rfl⟩) (o_v (o_pB hK hN hP hD) (va_recv hK hP (ci := 5) (q0 := 0) rfl rfl)) rfl rfl hl.1 rfl (lv_room (Nat.le_of_ble_eq_true rfl)) dX5_isPart_151 ⟨Nat.zero_le _, Nat.zero_le _⟩) hP hD hS hA [0, 1, 2, 3, 4] (by decide) rfl (fun _ => rfl) (fun r_187 _ H locs e_186 hP hD hS => ?_)
                    have e_186 : r_187 = nI (bn (((v 0 3) + 3) < v 0 1 ∧ 48 ≤ v 3 (((v 0 3) + 3)) ∧ v 3 (((v 0 3) + 3)) ≤ 57)) := e_186
                    subst e_186
                    have hP : va_P D vwCl (wM q cI (va_up (va_up v 0 (if ((v 0 3) + 3) < v 0 1 ∧ 48 ≤ v 3 (((v 0 3) + 3)) ∧ v 3 (((v 0 3) + 3)) ≤ 57 then (va_up (va_up (v 0) 3 ((v 0 3) + 3)) 3 ((v 0 3) + 4)) else (va_up (va_up (v 0) 3 ((v 0 3) + 3)) 4 (bn (((v 0 3) + 3) < v 0 1))))) 4 (va_up (va_up (v 4) (3 * (v 0 5)) (v 3 (v 0 3))) (3 * (v 0 5) + 1) ((v 3 ((v 0 3) + 1)) - 48)))) H := hP
                    have hD : va_D A (wM q cI (va_up (va_up v 0 (if ((v 0 3) + 3) < v 0 1 ∧ 48 ≤ v 3 (((v 0 3) + 3)) ∧ v 3 (((v 0 3) + 3)) ≤ 57 then (va_up (va_up (v 0) 3 ((v 0 3) + 3)) 3 ((v 0 3) + 4)) else (va_up (va_up (v 0) 3 ((v 0 3) + 3)) 4 (bn (((v 0 3) + 3) < v 0 1))))) 4 (va_up (va_up (v 4) (3 * (v 0 5)) (v 3 (v 0 3))) (3 * (v 0 5) + 1) ((v 3 ((v 0 3) + 1)) - 48)))) := hD
                    refine o_ifnz (tgt := 159) hx hb dX5_isPart_154 (by decide) (fun c_188 => ?_) (fun c_188 => ?_)
                    · skip
                      rw [if_pos c_188] at hP hD
                      have hP : va_P D vwCl (wM q cI (va_up (va_up v 0 (va_up (v 0) 3 ((v 0 3) + 4))) 4 (va_up (va_up (v 4) (3 * (v 0 5)) (v 3 (v 0 3))) (3 * (v 0 5) + 1) ((v 3 ((v 0 3) + 1)) - 48)))) H := hP
                      have hD : va_D A (wM q cI (va_up (va_up v 0 (va_up (v 0) 3 ((v 0 3) + 4))) 4 (va_up (va_up (v 4) (3 * (v 0 5)) (v 3 (v 0 3))) (3 * (v 0 5) + 1) ((v 3 ((v 0 3) + 1)) - 48)))) := hD
                      refine lv_aload_n hx hb dX5_isPart_159 rfl (lv_at hl 1 rfl) ?_
                      refine va_get (D := D) (ci := 5) (v := .ref (q 4)) (C := RX5) (T := TX5) (N := 10) hx hb hts inX5_isPart_X5 hown hK hP 0 rfl rfl 8 (by decide) (hts (.fieldLink RX5 19 "OddNoticeModel" "told" "[I") (List.mem_of_getElem? (i := 3) (by decide +kernel))) (fun _ h9 => h9) rfl dX5_isPart_160 ?_
                      refine o_const (k := 3) hx hb dX5_isPart_163 (by decide) ?_
                      refine lv_aload_n hx hb dX5_isPart_164 rfl (lv_at hl 1 rfl) ?_
                      refine va_get (D := D) (ci := 5) (v := .int (nI (v 0 5))) (C := RX5) (T := TX5) (N := 10) hx hb hts inX5_isPart_X5 hown hK hP 0 rfl rfl 9 (by decide) (hts (.fieldLink RX5 106 "OddNoticeModel" "tolds" "I") (List.mem_of_getElem? (i := 4) (by decide +kernel))) (fun _ h9 => h9) rfl dX5_isPart_165 ?_
                      refine o_imul (a := 3) (b := (v 0 5)) (k := (3 * (v 0 5))) hx hb dX5_isPart_168 rfl ?_
                      refine o_const (k := 2) hx hb dX5_isPart_169 (by decide) ?_
                      refine o_iadd (a := (3 * (v 0 5))) (b := 2) (k := (3 * (v 0 5) + 2)) hx hb dX5_isPart_170 rfl ?_
                      refine o_bipush (k := 10) hx hb dX5_isPart_171 (by decide) ?_
                      refine lv_aload_n hx hb dX5_isPart_173 rfl (lv_at hl 1 rfl) ?_
                      refine va_get (D := D) (ci := 5) (v := .ref (q 3)) (C := RX5) (T := TX5) (N := 10) hx hb hts inX5_isPart_X5 hown hK hP 0 rfl rfl 3 (by decide) (hts (.fieldLink RX5 16 "OddNoticeModel" "text" "[I") (List.mem_of_getElem? (i := 1) (by decide +kernel))) (fun _ h9 => h9) rfl dX5_isPart_174 ?_
                      refine lv_aload_n hx hb dX5_isPart_177 rfl (lv_at hl 1 rfl) ?_
                      refine va_get (D := D) (ci := 5) (v := .int (nI ((v 0 3) + 4))) (C := RX5) (T := TX5) (N := 10) hx hb hts inX5_isPart_X5 hown hK hP 0 rfl rfl 6 (by decide) (hts (.fieldLink RX5 89 "OddNoticeModel" "at" "I") (List.mem_of_getElem? (i := 2) (by decide +kernel))) (fun _ h9 => h9) rfl dX5_isPart_178 ?_
                      refine o_const (k := 2) hx hb dX5_isPart_181 (by decide) ?_
                      refine o_isub (a := ((v 0 3) + 4)) (b := 2) (k := ((v 0 3) + 2)) hx hb dX5_isPart_182 (by omega) (by omega) ?_
                      refine o_iald (v := nI (v 3 ((v 0 3) + 2))) hx hb hK hP 3 0 rfl rfl (by omega) (Nat.le_of_ble_eq_true rfl) rfl dX5_isPart_183 ?_
                      have f_189 := ht ((v 0 3) + 2)
                      refine o_bipush (k := 48) hx hb dX5_isPart_184 (by decide) ?_
                      refine o_isub (a := (v 3 ((v 0 3) + 2))) (b := 48) (k := ((v 3 ((v 0 3) + 2)) - 48)) hx hb dX5_isPart_186 (by omega) rfl ?_
                      refine o_imul (a := 10) (b := ((v 3 ((v 0 3) + 2)) - 48)) (k := (10 * ((v 3 ((v 0 3) + 2)) - 48))) hx hb dX5_isPart_187 rfl ?_
                      refine lv_aload_n hx hb dX5_isPart_188 rfl (lv_at hl 1 rfl) ?_
                      refine va_get (D := D) (ci := 5) (v := .ref (q 3)) (C := RX5) (T := TX5) (N := 10) hx hb hts inX5_isPart_X5 hown hK hP 0 rfl rfl 3 (by decide) (hts (.fieldLink RX5 16 "OddNoticeModel" "text" "[I") (List.mem_of_getElem? (i := 1) (by decide +kernel))) (fun _ h9 => h9) rfl dX5_isPart_189 ?_
                      refine lv_aload_n hx hb dX5_isPart_192 rfl (lv_at hl 1 rfl) ?_
                      refine va_get (D := D) (ci := 5) (v := .int (nI ((v 0 3) + 4))) (C := RX5) (T := TX5) (N := 10) hx hb hts inX5_isPart_X5 hown hK hP 0 rfl rfl 6 (by decide) (hts (.fieldLink RX5 89 "OddNoticeModel" "at" "I") (List.mem_of_getElem? (i := 2) (by decide +kernel))) (fun _ h9 => h9) rfl dX5_isPart_193 ?_
                      refine o_const (k := 1) hx hb dX5_isPart_196 (by decide) ?_
                      refine o_isub (a := ((v 0 3) + 4)) (b := 1) (k := ((v 0 3) + 3)) hx hb dX5_isPart_197 (by omega) (by omega) ?_
                      refine o_iald (v := nI (v 3 ((v 0 3) + 3))) hx hb hK hP 3 0 rfl rfl (by omega) (Nat.le_of_ble_eq_true rfl) rfl dX5_isPart_198 ?_
                      have f_190 := ht ((v 0 3) + 3)
                      refine o_iadd (a := (10 * ((v 3 ((v 0 3) + 2)) - 48))) (b := (v 3 ((v 0 3) + 3))) (k := (10 * ((v 3 ((v 0 3) + 2)) - 48) + (v 3 ((v 0 3) + 3)))) hx hb dX5_isPart_199 rfl ?_
                      refine o_bipush (k := 48) hx hb dX5_isPart_200 (by decide) ?_
                      refine o_isub (a := (10 * ((v 3 ((v 0 3) + 2)) - 48) + (v 3 ((v 0 3) + 3)))) (b := 48) (k := (10 * ((v 3 ((v 0 3) + 2)) - 48) + (v 3 ((v 0 3) + 3)) - 48)) hx hb dX5_isPart_202 (by omega) rfl ?_
                      refine o_iast (g := (va_up (va_up (v 4) (3 * (v 0 5)) (v 3 (v 0 3))) (3 * (v 0 5) + 1) ((v 3 ((v 0 3) + 1)) - 48))) hx hb hK hP hD hS 4 0 rfl rfl (by omega) (Nat.le_of_ble_eq_true rfl) dX5_isPart_203 (fun H locs hP hD hS => ?_)
                      have hP : va_P D vwCl (wM q cI (va_up (va_up v 0 (va_up (v 0) 3 ((v 0 3) + 4))) 4 (va_up (va_up (va_up (v 4) (3 * (v 0 5)) (v 3 (v 0 3))) (3 * (v 0 5) + 1) ((v 3 ((v 0 3) + 1)) - 48)) (3 * (v 0 5) + 2) (10 * ((v 3 ((v 0 3) + 2)) - 48) + (v 3 ((v 0 3) + 3)) - 48)))) H := hP
                      have hD : va_D A (wM q cI (va_up (va_up v 0 (va_up (v 0) 3 ((v 0 3) + 4))) 4 (va_up (va_up (va_up (v 4) (3 * (v 0 5)) (v 3 (v 0 3))) (3 * (v 0 5) + 1) ((v 3 ((v 0 3) + 1)) - 48)) (3 * (v 0 5) + 2) (10 * ((v 3 ((v 0 3) + 2)) - 48) + (v 3 ((v 0 3) + 3)) - 48)))) := hD
                      refine o_const (k := 1) hx hb dX5_isPart_204 (by decide) ?_
                      have w_191 : (wM q cI (va_up (va_up v 0 (va_up (va_up (v 0) 3 (m_pt (v 3) (v 0 1) (v 0 5) (v 0 3) (v 0 4) (v 4)).1) 4 (m_pt (v 3) (v 0 1) (v 0 5) (v 0 3) (v 0 4) (v 4)).2.1)) 4 (m_pt (v 3) (v 0 1) (v 0 5) (v 0 3) (v 0 4) (v 4)).2.2.1)) = (wM q cI (va_up (va_up v 0 (va_up (v 0) 3 ((v 0 3) + 4))) 4 (va_up (va_up (va_up (v 4) (3 * (v 0 5)) (v 3 (v 0 3))) (3 * (v 0 5) + 1) ((v 3 ((v 0 3) + 1)) - 48)) (3 * (v 0 5) + 2) (10 * ((v 3 ((v 0 3) + 2)) - 48) + (v 3 ((v 0 3) + 3)) - 48)))) := (by unfold m_pt; rw [if_pos (by omega), if_pos (by unfold m_hi; (repeat' split) <;> omega), if_pos (by omega), if_pos (by omega), if_pos (by omega)]; first | done | rfl)
                      rw [← w_191] at hP
                      exact W.zret (v := nI 1) hx hb hrt rfl (fun t ht hW => ⟨⟨_, (), rfl, (congrArg nI (by unfold m_pt; rw [if_pos (by omega), if_pos (by unfold m_hi; (repeat' split) <;> omega), if_pos (by omega), if_pos (by omega), if_pos (by omega)])), by show va_P D vwCl _ t.heap; rw [ht]; exact hP⟩, hS.F ht⟩) hS.2.2 dX5_isPart_205
                    · skip
                      rw [if_neg c_188] at hP hD
                      have hP : va_P D vwCl (wM q cI (va_up (va_up v 0 (va_up (va_up (v 0) 3 ((v 0 3) + 3)) 4 (bn (((v 0 3) + 3) < v 0 1)))) 4 (va_up (va_up (v 4) (3 * (v 0 5)) (v 3 (v 0 3))) (3 * (v 0 5) + 1) ((v 3 ((v 0 3) + 1)) - 48)))) H := hP
                      have hD : va_D A (wM q cI (va_up (va_up v 0 (va_up (va_up (v 0) 3 ((v 0 3) + 3)) 4 (bn (((v 0 3) + 3) < v 0 1)))) 4 (va_up (va_up (v 4) (3 * (v 0 5)) (v 3 (v 0 3))) (3 * (v 0 5) + 1) ((v 3 ((v 0 3) + 1)) - 48)))) := hD
                      refine o_const (k := 0) hx hb dX5_isPart_157 (by decide) ?_
                      have w_192 : (wM q cI (va_up (va_up v 0 (va_up (va_up (v 0) 3 (m_pt (v 3) (v 0 1) (v 0 5) (v 0 3) (v 0 4) (v 4)).1) 4 (m_pt (v 3) (v 0 1) (v 0 5) (v 0 3) (v 0 4) (v 4)).2.1)) 4 (m_pt (v 3) (v 0 1) (v 0 5) (v 0 3) (v 0 4) (v 4)).2.2.1)) = (wM q cI (va_up (va_up v 0 (va_up (va_up (v 0) 3 ((v 0 3) + 3)) 4 (bn (((v 0 3) + 3) < v 0 1)))) 4 (va_up (va_up (v 4) (3 * (v 0 5)) (v 3 (v 0 3))) (3 * (v 0 5) + 1) ((v 3 ((v 0 3) + 1)) - 48)))) := (by unfold m_pt; rw [if_pos (by omega), if_pos (by unfold m_hi; (repeat' split) <;> omega), if_pos (by omega), if_pos (by omega), if_neg (by omega)]; first | done | rfl)
                      rw [← w_192] at hP
                      exact W.zret (v := nI 0) hx hb hrt rfl (fun t ht hW => ⟨⟨_, (), rfl, (congrArg nI (by unfold m_pt; rw [if_pos (by omega), if_pos (by unfold m_hi; (repeat' split) <;> omega), if_pos (by omega), if_pos (by omega), if_neg (by omega)])), by show va_P D vwCl _ t.heap; rw [ht]; exact hP⟩, hS.F ht⟩) hS.2.2 dX5_isPart_158
              · skip
                rw [if_neg c_178] at hP hD
                have hP : va_P D vwCl (wM q cI (va_up v 0 (va_up (va_up (v 0) 3 ((v 0 3) + 1)) 4 (bn (((v 0 3) + 1) < v 0 1))))) H := hP
                have hD : va_D A (wM q cI (va_up v 0 (va_up (va_up (v 0) 3 ((v 0 3) + 1)) 4 (bn (((v 0 3) + 1) < v 0 1))))) := hD
                refine o_const (k := 0) hx hb dX5_isPart_92 (by decide) ?_
                have w_193 : (wM q cI (va_up (va_up v 0 (va_up (va_up (v 0) 3 (m_pt (v 3) (v 0 1) (v 0 5) (v 0 3) (v 0 4) (v 4)).1) 4 (m_pt (v 3) (v 0 1) (v 0 5) (v 0 3) (v 0 4) (v 4)).2.1)) 4 (m_pt (v 3) (v 0 1) (v 0 5) (v 0 3) (v 0 4) (v 4)).2.2.1)) = (wM q cI (va_up v 0 (va_up (va_up (v 0) 3 ((v 0 3) + 1)) 4 (bn (((v 0 3) + 1) < v 0 1))))) := (by unfold m_pt; rw [if_pos (by omega), if_neg (by unfold m_hi; (repeat' split) <;> omega)]; first | done | rfl)
                rw [← w_193] at hP
                exact W.zret (v := nI 0) hx hb hrt rfl (fun t ht hW => ⟨⟨_, (), rfl, (congrArg nI (by unfold m_pt; rw [if_pos (by omega), if_neg (by unfold m_hi; (repeat' split) <;> omega)])), by show va_P D vwCl _ t.heap; rw [ht]; exact hP⟩, hS.F ht⟩) hS.2.2 dX5_isPart_93
            · skip
              refine o_bipush (k := 50) hx hb dX5_isPart_79 (by decide) ?_
              refine lv_goto (tgt := 86) hx hb dX5_isPart_81 (by decide) ?_
              refine o_wi (va_runV (As := [.int (nI 50)]) (rest := []) ⟨hx, hb, hml, hown, hts⟩ (k_X5_isDigit l D cI cR cS cL H.size q (va_up v 0 (va_up (v 0) 3 ((v 0 3) + 1))) 50 (by show ((v 0 3) + 1) < 2 ^ 31; first | assumption | omega) (by show v 0 1 ≤ 60; first | assumption | omega) (by show ∀ k, v 3 k < 2 ^ 31; first | assumption | omega) (by show 50 < 2 ^ 31; first | assumption | omega)) (cwV 1 hts gX5_isPart_X5_isDigit rfl rfl rfl (by decide +kernel) ⟨Nat.le_of_ble_eq_true rfl, Nat.le_of_ble_eq_true rfl⟩) (o_v (o_pB hK hN hP hD) (va_recv hK hP (ci := 5) (q0 := 0) rfl rfl)) rfl rfl hl.1 rfl (lv_room (Nat.le_of_ble_eq_true rfl)) dX5_isPart_86 ⟨Nat.zero_le _, Nat.zero_le _⟩) hP hD hS hA [0, 1, 2, 3, 4] (by decide) rfl (fun _ => rfl) (fun r_195 _ H locs e_194 hP hD hS => ?_)
              have e_194 : r_195 = nI (bn (((v 0 3) + 1) < v 0 1 ∧ 48 ≤ v 3 (((v 0 3) + 1)) ∧ v 3 (((v 0 3) + 1)) ≤ 50)) := e_194
              subst e_194
              have hP : va_P D vwCl (wM q cI (va_up v 0 (if ((v 0 3) + 1) < v 0 1 ∧ 48 ≤ v 3 (((v 0 3) + 1)) ∧ v 3 (((v 0 3) + 1)) ≤ 50 then (va_up (va_up (v 0) 3 ((v 0 3) + 1)) 3 ((v 0 3) + 2)) else (va_up (va_up (v 0) 3 ((v 0 3) + 1)) 4 (bn (((v 0 3) + 1) < v 0 1)))))) H := hP
              have hD : va_D A (wM q cI (va_up v 0 (if ((v 0 3) + 1) < v 0 1 ∧ 48 ≤ v 3 (((v 0 3) + 1)) ∧ v 3 (((v 0 3) + 1)) ≤ 50 then (va_up (va_up (v 0) 3 ((v 0 3) + 1)) 3 ((v 0 3) + 2)) else (va_up (va_up (v 0) 3 ((v 0 3) + 1)) 4 (bn (((v 0 3) + 1) < v 0 1)))))) := hD
              refine o_ifnz (tgt := 94) hx hb dX5_isPart_89 (by decide) (fun c_196 => ?_) (fun c_196 => ?_)
              · skip
                rw [if_pos c_196] at hP hD
                have hP : va_P D vwCl (wM q cI (va_up v 0 (va_up (v 0) 3 ((v 0 3) + 2)))) H := hP
                have hD : va_D A (wM q cI (va_up v 0 (va_up (v 0) 3 ((v 0 3) + 2)))) := hD
                refine lv_aload_n hx hb dX5_isPart_94 rfl (lv_at hl 1 rfl) ?_
                refine va_get (D := D) (ci := 5) (v := .ref (q 4)) (C := RX5) (T := TX5) (N := 10) hx hb hts inX5_isPart_X5 hown hK hP 0 rfl rfl 8 (by decide) (hts (.fieldLink RX5 19 "OddNoticeModel" "told" "[I") (List.mem_of_getElem? (i := 3) (by decide +kernel))) (fun _ h9 => h9) rfl dX5_isPart_95 ?_
                refine o_const (k := 3) hx hb dX5_isPart_98 (by decide) ?_
                refine lv_aload_n hx hb dX5_isPart_99 rfl (lv_at hl 1 rfl) ?_
                refine va_get (D := D) (ci := 5) (v := .int (nI (v 0 5))) (C := RX5) (T := TX5) (N := 10) hx hb hts inX5_isPart_X5 hown hK hP 0 rfl rfl 9 (by decide) (hts (.fieldLink RX5 106 "OddNoticeModel" "tolds" "I") (List.mem_of_getElem? (i := 4) (by decide +kernel))) (fun _ h9 => h9) rfl dX5_isPart_100 ?_
                refine o_imul (a := 3) (b := (v 0 5)) (k := (3 * (v 0 5))) hx hb dX5_isPart_103 rfl ?_
                refine lv_iload_n hx hb dX5_isPart_104 rfl (lv_at hl 0 rfl) ?_
                refine o_iast (g := (v 4)) hx hb hK hP hD hS 4 0 rfl rfl (by omega) (Nat.le_of_ble_eq_true rfl) dX5_isPart_105 (fun H locs hP hD hS => ?_)
                have hP : va_P D vwCl (wM q cI (va_up (va_up v 0 (va_up (v 0) 3 ((v 0 3) + 2))) 4 (va_up (v 4) (3 * (v 0 5)) (v 3 (v 0 3))))) H := hP
                have hD : va_D A (wM q cI (va_up (va_up v 0 (va_up (v 0) 3 ((v 0 3) + 2))) 4 (va_up (v 4) (3 * (v 0 5)) (v 3 (v 0 3))))) := hD
                refine lv_aload_n hx hb dX5_isPart_106 rfl (lv_at hl 1 rfl) ?_
                refine va_get (D := D) (ci := 5) (v := .ref (q 4)) (C := RX5) (T := TX5) (N := 10) hx hb hts inX5_isPart_X5 hown hK hP 0 rfl rfl 8 (by decide) (hts (.fieldLink RX5 19 "OddNoticeModel" "told" "[I") (List.mem_of_getElem? (i := 3) (by decide +kernel))) (fun _ h9 => h9) rfl dX5_isPart_107 ?_
                refine o_const (k := 3) hx hb dX5_isPart_110 (by decide) ?_
                refine lv_aload_n hx hb dX5_isPart_111 rfl (lv_at hl 1 rfl) ?_
                refine va_get (D := D) (ci := 5) (v := .int (nI (v 0 5))) (C := RX5) (T := TX5) (N := 10) hx hb hts inX5_isPart_X5 hown hK hP 0 rfl rfl 9 (by decide) (hts (.fieldLink RX5 106 "OddNoticeModel" "tolds" "I") (List.mem_of_getElem? (i := 4) (by decide +kernel))) (fun _ h9 => h9) rfl dX5_isPart_112 ?_
                refine o_imul (a := 3) (b := (v 0 5)) (k := (3 * (v 0 5))) hx hb dX5_isPart_115 rfl ?_
                refine o_const (k := 1) hx hb dX5_isPart_116 (by decide) ?_
                refine o_iadd (a := (3 * (v 0 5))) (b := 1) (k := (3 * (v 0 5) + 1)) hx hb dX5_isPart_117 rfl ?_
                refine lv_aload_n hx hb dX5_isPart_118 rfl (lv_at hl 1 rfl) ?_
                refine va_get (D := D) (ci := 5) (v := .ref (q 3)) (C := RX5) (T := TX5) (N := 10) hx hb hts inX5_isPart_X5 hown hK hP 0 rfl rfl 3 (by decide) (hts (.fieldLink RX5 16 "OddNoticeModel" "text" "[I") (List.mem_of_getElem? (i := 1) (by decide +kernel))) (fun _ h9 => h9) rfl dX5_isPart_119 ?_
                refine lv_aload_n hx hb dX5_isPart_122 rfl (lv_at hl 1 rfl) ?_
                refine va_get (D := D) (ci := 5) (v := .int (nI ((v 0 3) + 2))) (C := RX5) (T := TX5) (N := 10) hx hb hts inX5_isPart_X5 hown hK hP 0 rfl rfl 6 (by decide) (hts (.fieldLink RX5 89 "OddNoticeModel" "at" "I") (List.mem_of_getElem? (i := 2) (by decide +kernel))) (fun _ h9 => h9) rfl dX5_isPart_123 ?_
                refine o_const (k := 1) hx hb dX5_isPart_126 (by decide) ?_
                refine o_isub (a := ((v 0 3) + 2)) (b := 1) (k := ((v 0 3) + 1)) hx hb dX5_isPart_127 (by omega) (by omega) ?_
                refine o_iald (v := nI (v 3 ((v 0 3) + 1))) hx hb hK hP 3 0 rfl rfl (by omega) (Nat.le_of_ble_eq_true rfl) rfl dX5_isPart_128 ?_
                have f_197 := ht ((v 0 3) + 1)
                refine o_bipush (k := 48) hx hb dX5_isPart_129 (by decide) ?_
                refine o_isub (a := (v 3 ((v 0 3) + 1))) (b := 48) (k := ((v 3 ((v 0 3) + 1)) - 48)) hx hb dX5_isPart_131 (by omega) rfl ?_
                refine o_iast (g := (va_up (v 4) (3 * (v 0 5)) (v 3 (v 0 3)))) hx hb hK hP hD hS 4 0 rfl rfl (by omega) (Nat.le_of_ble_eq_true rfl) dX5_isPart_132 (fun H locs hP hD hS => ?_)
                have hP : va_P D vwCl (wM q cI (va_up (va_up v 0 (va_up (v 0) 3 ((v 0 3) + 2))) 4 (va_up (va_up (v 4) (3 * (v 0 5)) (v 3 (v 0 3))) (3 * (v 0 5) + 1) ((v 3 ((v 0 3) + 1)) - 48)))) H := hP
                have hD : va_D A (wM q cI (va_up (va_up v 0 (va_up (v 0) 3 ((v 0 3) + 2))) 4 (va_up (va_up (v 4) (3 * (v 0 5)) (v 3 (v 0 3))) (3 * (v 0 5) + 1) ((v 3 ((v 0 3) + 1)) - 48)))) := hD
                refine lv_iload_n hx hb dX5_isPart_133 rfl (lv_at hl 0 rfl) ?_
                refine o_bipush (k := 119) hx hb dX5_isPart_134 (by decide) ?_
                refine o_icmp_ne (tgt := 204) hx hb dX5_isPart_136 (by decide) (by omega) (Nat.le_of_ble_eq_true rfl) (fun c_198 => ?_) (fun c_198 => ?_)
                · skip
                  refine o_const (k := 1) hx hb dX5_isPart_204 (by decide) ?_
                  have w_199 : (wM q cI (va_up (va_up v 0 (va_up (va_up (v 0) 3 (m_pt (v 3) (v 0 1) (v 0 5) (v 0 3) (v 0 4) (v 4)).1) 4 (m_pt (v 3) (v 0 1) (v 0 5) (v 0 3) (v 0 4) (v 4)).2.1)) 4 (m_pt (v 3) (v 0 1) (v 0 5) (v 0 3) (v 0 4) (v 4)).2.2.1)) = (wM q cI (va_up (va_up v 0 (va_up (v 0) 3 ((v 0 3) + 2))) 4 (va_up (va_up (v 4) (3 * (v 0 5)) (v 3 (v 0 3))) (3 * (v 0 5) + 1) ((v 3 ((v 0 3) + 1)) - 48)))) := (by unfold m_pt; rw [if_pos (by omega), if_pos (by unfold m_hi; (repeat' split) <;> omega), if_neg (by omega)]; first | done | rfl)
                  rw [← w_199] at hP
                  exact W.zret (v := nI 1) hx hb hrt rfl (fun t ht hW => ⟨⟨_, (), rfl, (congrArg nI (by unfold m_pt; rw [if_pos (by omega), if_pos (by unfold m_hi; (repeat' split) <;> omega), if_neg (by omega)])), by show va_P D vwCl _ t.heap; rw [ht]; exact hP⟩, hS.F ht⟩) hS.2.2 dX5_isPart_205
                · skip
                  refine lv_aload_n hx hb dX5_isPart_139 rfl (lv_at hl 1 rfl) ?_
                  refine o_bipush (k := 57) hx hb dX5_isPart_140 (by decide) ?_
                  refine o_wi (va_runV (As := [.int (nI 57)]) (rest := []) ⟨hx, hb, hml, hown, hts⟩ (k_X5_isDigit l D cI cR cS cL H.size q (va_up (va_up v 0 (va_up (v 0) 3 ((v 0 3) + 2))) 4 (va_up (va_up (v 4) (3 * (v 0 5)) (v 3 (v 0 3))) (3 * (v 0 5) + 1) ((v 3 ((v 0 3) + 1)) - 48))) 57 (by show ((v 0 3) + 2) < 2 ^ 31; first | assumption | omega) (by show v 0 1 ≤ 60; first | assumption | omega) (by show ∀ k, v 3 k < 2 ^ 31; first | assumption | omega) (by show 57 < 2 ^ 31; first | assumption | omega)) (cwV 1 hts gX5_isPart_X5_isDigit rfl rfl rfl (by decide +kernel) ⟨Nat.le_of_ble_eq_true rfl, Nat.le_of_ble_eq_true rfl⟩) (o_v (o_pB hK hN hP hD) (va_recv hK hP (ci := 5) (q0 := 0) rfl rfl)) rfl rfl hl.1 rfl (lv_room (Nat.le_of_ble_eq_true rfl)) dX5_isPart_142 ⟨Nat.zero_le _, Nat.zero_le _⟩) hP hD hS hA [0, 1, 2, 3, 4] (by decide) rfl (fun _ => rfl) (fun r_201 _ H locs e_200 hP hD hS => ?_)
                  have e_200 : r_201 = nI (bn (((v 0 3) + 2) < v 0 1 ∧ 48 ≤ v 3 (((v 0 3) + 2)) ∧ v 3 (((v 0 3) + 2)) ≤ 57)) := e_200
                  subst e_200
                  have hP : va_P D vwCl (wM q cI (va_up (va_up v 0 (if ((v 0 3) + 2) < v 0 1 ∧ 48 ≤ v 3 (((v 0 3) + 2)) ∧ v 3 (((v 0 3) + 2)) ≤ 57 then (va_up (va_up (v 0) 3 ((v 0 3) + 2)) 3 ((v 0 3) + 3)) else (va_up (va_up (v 0) 3 ((v 0 3) + 2)) 4 (bn (((v 0 3) + 2) < v 0 1))))) 4 (va_up (va_up (v 4) (3 * (v 0 5)) (v 3 (v 0 3))) (3 * (v 0 5) + 1) ((v 3 ((v 0 3) + 1)) - 48)))) H := hP
                  have hD : va_D A (wM q cI (va_up (va_up v 0 (if ((v 0 3) + 2) < v 0 1 ∧ 48 ≤ v 3 (((v 0 3) + 2)) ∧ v 3 (((v 0 3) + 2)) ≤ 57 then (va_up (va_up (v 0) 3 ((v 0 3) + 2)) 3 ((v 0 3) + 3)) else (va_up (va_up (v 0) 3 ((v 0 3) + 2)) 4 (bn (((v 0 3) + 2) < v 0 1))))) 4 (va_up (va_up (v 4) (3 * (v 0 5)) (v 3 (v 0 3))) (3 * (v 0 5) + 1) ((v 3 ((v 0 3) + 1)) - 48)))) := hD
                  refine o_ifz (tgt := 157) hx hb dX5_isPart_145 (by decide) (fun c_202 => ?_) (fun c_202 => ?_)
                  · skip
                    rw [if_neg c_202] at hP hD
                    have hP : va_P D vwCl (wM q cI (va_up (va_up v 0 (va_up (va_up (v 0) 3 ((v 0 3) + 2)) 4 (bn (((v 0 3) + 2) < v 0 1)))) 4 (va_up (va_up (v 4) (3 * (v 0 5)) (v 3 (v 0 3))) (3 * (v 0 5) + 1) ((v 3 ((v 0 3) + 1)) - 48)))) H := hP
                    have hD : va_D A (wM q cI (va_up (va_up v 0 (va_up (va_up (v 0) 3 ((v 0 3) + 2)) 4 (bn (((v 0 3) + 2) < v 0 1)))) 4 (va_up (va_up (v 4) (3 * (v 0 5)) (v 3 (v 0 3))) (3 * (v 0 5) + 1) ((v 3 ((v 0 3) + 1)) - 48)))) := hD
                    refine o_const (k := 0) hx hb dX5_isPart_157 (by decide) ?_
                    have w_203 : (wM q cI (va_up (va_up v 0 (va_up (va_up (v 0) 3 (m_pt (v 3) (v 0 1) (v 0 5) (v 0 3) (v 0 4) (v 4)).1) 4 (m_pt (v 3) (v 0 1) (v 0 5) (v 0 3) (v 0 4) (v 4)).2.1)) 4 (m_pt (v 3) (v 0 1) (v 0 5) (v 0 3) (v 0 4) (v 4)).2.2.1)) = (wM q cI (va_up (va_up v 0 (va_up (va_up (v 0) 3 ((v 0 3) + 2)) 4 (bn (((v 0 3) + 2) < v 0 1)))) 4 (va_up (va_up (v 4) (3 * (v 0 5)) (v 3 (v 0 3))) (3 * (v 0 5) + 1) ((v 3 ((v 0 3) + 1)) - 48)))) := (by unfold m_pt; rw [if_pos (by omega), if_pos (by unfold m_hi; (repeat' split) <;> omega), if_pos (by omega), if_neg (by omega)]; first | done | rfl)
                    rw [← w_203] at hP
                    exact W.zret (v := nI 0) hx hb hrt rfl (fun t ht hW => ⟨⟨_, (), rfl, (congrArg nI (by unfold m_pt; rw [if_pos (by omega), if_pos (by unfold m_hi; (repeat' split) <;> omega), if_pos (by omega), if_neg (by omega)])), by show va_P D vwCl _ t.heap; rw [ht]; exact hP⟩, hS.F ht⟩) hS.2.2 dX5_isPart_158
                  · skip
                    rw [if_pos c_202] at hP hD
                    have hP : va_P D vwCl (wM q cI (va_up (va_up v 0 (va_up (v 0) 3 ((v 0 3) + 3))) 4 (va_up (va_up (v 4) (3 * (v 0 5)) (v 3 (v 0 3))) (3 * (v 0 5) + 1) ((v 3 ((v 0 3) + 1)) - 48)))) H := hP
                    have hD : va_D A (wM q cI (va_up (va_up v 0 (va_up (v 0) 3 ((v 0 3) + 3))) 4 (va_up (va_up (v 4) (3 * (v 0 5)) (v 3 (v 0 3))) (3 * (v 0 5) + 1) ((v 3 ((v 0 3) + 1)) - 48)))) := hD
                    refine lv_aload_n hx hb dX5_isPart_148 rfl (lv_at hl 1 rfl) ?_
                    refine o_bipush (k := 57) hx hb dX5_isPart_149 (by decide) ?_
                    refine o_wi (va_runV (As := [.int (nI 57)]) (rest := []) ⟨hx, hb, hml, hown, hts⟩ (k_X5_isDigit l D cI cR cS cL H.size q (va_up (va_up v 0 (va_up (v 0) 3 ((v 0 3) + 3))) 4 (va_up (va_up (v 4) (3 * (v 0 5)) (v 3 (v 0 3))) (3 * (v 0 5) + 1) ((v 3 ((v 0 3) + 1)) - 48))) 57 (by show ((v 0 3) + 3) < 2 ^ 31; first | assumption | omega) (by show v 0 1 ≤ 60; first | assumption | omega) (by show ∀ k, v 3 k < 2 ^ 31; first | assumption | omega) (by show 57 < 2 ^ 31; first | assumption | omega)) (cwV 1 hts gX5_isPart_X5_isDigit rfl rfl rfl (by decide +kernel) ⟨Nat.le_of_ble_eq_true rfl, Nat.le_of_ble_eq_true rfl⟩) (o_v (o_pB hK hN hP hD) (va_recv hK hP (ci := 5) (q0 := 0) rfl rfl)) rfl rfl hl.1 rfl (lv_room (Nat.le_of_ble_eq_true rfl)) dX5_isPart_151 ⟨Nat.zero_le _, Nat.zero_le _⟩) hP hD hS hA [0, 1, 2, 3, 4] (by decide) rfl (fun _ => rfl) (fun r_205 _ H locs e_204 hP hD hS => ?_)
                    have e_204 : r_205 = nI (bn (((v 0 3) + 3) < v 0 1 ∧ 48 ≤ v 3 (((v 0 3) + 3)) ∧ v 3 (((v 0 3) + 3)) ≤ 57)) := e_204
                    subst e_204
                    have hP : va_P D vwCl (wM q cI (va_up (va_up v 0 (if ((v 0 3) + 3) < v 0 1 ∧ 48 ≤ v 3 (((v 0 3) + 3)) ∧ v 3 (((v 0 3) + 3)) ≤ 57 then (va_up (va_up (v 0) 3 ((v 0 3) + 3)) 3 ((v 0 3) + 4)) else (va_up (va_up (v 0) 3 ((v 0 3) + 3)) 4 (bn (((v 0 3) + 3) < v 0 1))))) 4 (va_up (va_up (v 4) (3 * (v 0 5)) (v 3 (v 0 3))) (3 * (v 0 5) + 1) ((v 3 ((v 0 3) + 1)) - 48)))) H := hP
                    have hD : va_D A (wM q cI (va_up (va_up v 0 (if ((v 0 3) + 3) < v 0 1 ∧ 48 ≤ v 3 (((v 0 3) + 3)) ∧ v 3 (((v 0 3) + 3)) ≤ 57 then (va_up (va_up (v 0) 3 ((v 0 3) + 3)) 3 ((v 0 3) + 4)) else (va_up (va_up (v 0) 3 ((v 0 3) + 3)) 4 (bn (((v 0 3) + 3) < v 0 1))))) 4 (va_up (va_up (v 4) (3 * (v 0 5)) (v 3 (v 0 3))) (3 * (v 0 5) + 1) ((v 3 ((v 0 3) + 1)) - 48)))) := hD
                    refine o_ifnz (tgt := 159) hx hb dX5_isPart_154 (by decide) (fun c_206 => ?_) (fun c_206 => ?_)
                    · skip
                      rw [if_pos c_206] at hP hD
                      have hP : va_P D vwCl (wM q cI (va_up (va_up v 0 (va_up (v 0) 3 ((v 0 3) + 4))) 4 (va_up (va_up (v 4) (3 * (v 0 5)) (v 3 (v 0 3))) (3 * (v 0 5) + 1) ((v 3 ((v 0 3) + 1)) - 48)))) H := hP
                      have hD : va_D A (wM q cI (va_up (va_up v 0 (va_up (v 0) 3 ((v 0 3) + 4))) 4 (va_up (va_up (v 4) (3 * (v 0 5)) (v 3 (v 0 3))) (3 * (v 0 5) + 1) ((v 3 ((v 0 3) + 1)) - 48)))) := hD
                      refine lv_aload_n hx hb dX5_isPart_159 rfl (lv_at hl 1 rfl) ?_
                      refine va_get (D := D) (ci := 5) (v := .ref (q 4)) (C := RX5) (T := TX5) (N := 10) hx hb hts inX5_isPart_X5 hown hK hP 0 rfl rfl 8 (by decide) (hts (.fieldLink RX5 19 "OddNoticeModel" "told" "[I") (List.mem_of_getElem? (i := 3) (by decide +kernel))) (fun _ h9 => h9) rfl dX5_isPart_160 ?_
                      refine o_const (k := 3) hx hb dX5_isPart_163 (by decide) ?_
                      refine lv_aload_n hx hb dX5_isPart_164 rfl (lv_at hl 1 rfl) ?_
                      refine va_get (D := D) (ci := 5) (v := .int (nI (v 0 5))) (C := RX5) (T := TX5) (N := 10) hx hb hts inX5_isPart_X5 hown hK hP 0 rfl rfl 9 (by decide) (hts (.fieldLink RX5 106 "OddNoticeModel" "tolds" "I") (List.mem_of_getElem? (i := 4) (by decide +kernel))) (fun _ h9 => h9) rfl dX5_isPart_165 ?_
                      refine o_imul (a := 3) (b := (v 0 5)) (k := (3 * (v 0 5))) hx hb dX5_isPart_168 rfl ?_
                      refine o_const (k := 2) hx hb dX5_isPart_169 (by decide) ?_
                      refine o_iadd (a := (3 * (v 0 5))) (b := 2) (k := (3 * (v 0 5) + 2)) hx hb dX5_isPart_170 rfl ?_
                      refine o_bipush (k := 10) hx hb dX5_isPart_171 (by decide) ?_
                      refine lv_aload_n hx hb dX5_isPart_173 rfl (lv_at hl 1 rfl) ?_
                      refine va_get (D := D) (ci := 5) (v := .ref (q 3)) (C := RX5) (T := TX5) (N := 10) hx hb hts inX5_isPart_X5 hown hK hP 0 rfl rfl 3 (by decide) (hts (.fieldLink RX5 16 "OddNoticeModel" "text" "[I") (List.mem_of_getElem? (i := 1) (by decide +kernel))) (fun _ h9 => h9) rfl dX5_isPart_174 ?_
                      refine lv_aload_n hx hb dX5_isPart_177 rfl (lv_at hl 1 rfl) ?_
                      refine va_get (D := D) (ci := 5) (v := .int (nI ((v 0 3) + 4))) (C := RX5) (T := TX5) (N := 10) hx hb hts inX5_isPart_X5 hown hK hP 0 rfl rfl 6 (by decide) (hts (.fieldLink RX5 89 "OddNoticeModel" "at" "I") (List.mem_of_getElem? (i := 2) (by decide +kernel))) (fun _ h9 => h9) rfl dX5_isPart_178 ?_
                      refine o_const (k := 2) hx hb dX5_isPart_181 (by decide) ?_
                      refine o_isub (a := ((v 0 3) + 4)) (b := 2) (k := ((v 0 3) + 2)) hx hb dX5_isPart_182 (by omega) (by omega) ?_
                      refine o_iald (v := nI (v 3 ((v 0 3) + 2))) hx hb hK hP 3 0 rfl rfl (by omega) (Nat.le_of_ble_eq_true rfl) rfl dX5_isPart_183 ?_
                      have f_207 := ht ((v 0 3) + 2)
                      refine o_bipush (k := 48) hx hb dX5_isPart_184 (by decide) ?_
                      refine o_isub (a := (v 3 ((v 0 3) + 2))) (b := 48) (k := ((v 3 ((v 0 3) + 2)) - 48)) hx hb dX5_isPart_186 (by omega) rfl ?_
                      refine o_imul (a := 10) (b := ((v 3 ((v 0 3) + 2)) - 48)) (k := (10 * ((v 3 ((v 0 3) + 2)) - 48))) hx hb dX5_isPart_187 rfl ?_
                      refine lv_aload_n hx hb dX5_isPart_188 rfl (lv_at hl 1 rfl) ?_
                      refine va_get (D := D) (ci := 5) (v := .ref (q 3)) (C := RX5) (T := TX5) (N := 10) hx hb hts inX5_isPart_X5 hown hK hP 0 rfl rfl 3 (by decide) (hts (.fieldLink RX5 16 "OddNoticeModel" "text" "[I") (List.mem_of_getElem? (i := 1) (by decide +kernel))) (fun _ h9 => h9) rfl dX5_isPart_189 ?_
                      refine lv_aload_n hx hb dX5_isPart_192 rfl (lv_at hl 1 rfl) ?_
                      refine va_get (D := D) (ci := 5) (v := .int (nI ((v 0 3) + 4))) (C := RX5) (T := TX5) (N := 10) hx hb hts inX5_isPart_X5 hown hK hP 0 rfl rfl 6 (by decide) (hts (.fieldLink RX5 89 "OddNoticeModel" "at" "I") (List.mem_of_getElem? (i := 2) (by decide +kernel))) (fun _ h9 => h9) rfl dX5_isPart_193 ?_
                      refine o_const (k := 1) hx hb dX5_isPart_196 (by decide) ?_
                      refine o_isub (a := ((v 0 3) + 4)) (b := 1) (k := ((v 0 3) + 3)) hx hb dX5_isPart_197 (by omega) (by omega) ?_
                      refine o_iald (v := nI (v 3 ((v 0 3) + 3))) hx hb hK hP 3 0 rfl rfl (by omega) (Nat.le_of_ble_eq_true rfl) rfl dX5_isPart_198 ?_
                      have f_208 := ht ((v 0 3) + 3)
                      refine o_iadd (a := (10 * ((v 3 ((v 0 3) + 2)) - 48))) (b := (v 3 ((v 0 3) + 3))) (k := (10 * ((v 3 ((v 0 3) + 2)) - 48) + (v 3 ((v 0 3) + 3)))) hx hb dX5_isPart_199 rfl ?_
                      refine o_bipush (k := 48) hx hb dX5_isPart_200 (by decide) ?_
                      refine o_isub (a := (10 * ((v 3 ((v 0 3) + 2)) - 48) + (v 3 ((v 0 3) + 3)))) (b := 48) (k := (10 * ((v 3 ((v 0 3) + 2)) - 48) + (v 3 ((v 0 3) + 3)) - 48)) hx hb dX5_isPart_202 (by omega) rfl ?_
                      refine o_iast (g := (va_up (va_up (v 4) (3 * (v 0 5)) (v 3 (v 0 3))) (3 * (v 0 5) + 1) ((v 3 ((v 0 3) + 1)) - 48))) hx hb hK hP hD hS 4 0 rfl rfl (by omega) (Nat.le_of_ble_eq_true rfl) dX5_isPart_203 (fun H locs hP hD hS => ?_)
                      have hP : va_P D vwCl (wM q cI (va_up (va_up v 0 (va_up (v 0) 3 ((v 0 3) + 4))) 4 (va_up (va_up (va_up (v 4) (3 * (v 0 5)) (v 3 (v 0 3))) (3 * (v 0 5) + 1) ((v 3 ((v 0 3) + 1)) - 48)) (3 * (v 0 5) + 2) (10 * ((v 3 ((v 0 3) + 2)) - 48) + (v 3 ((v 0 3) + 3)) - 48)))) H := hP
                      have hD : va_D A (wM q cI (va_up (va_up v 0 (va_up (v 0) 3 ((v 0 3) + 4))) 4 (va_up (va_up (va_up (v 4) (3 * (v 0 5)) (v 3 (v 0 3))) (3 * (v 0 5) + 1) ((v 3 ((v 0 3) + 1)) - 48)) (3 * (v 0 5) + 2) (10 * ((v 3 ((v 0 3) + 2)) - 48) + (v 3 ((v 0 3) + 3)) - 48)))) := hD
                      refine o_const (k := 1) hx hb dX5_isPart_204 (by decide) ?_
                      have w_209 : (wM q cI (va_up (va_up v 0 (va_up (va_up (v 0) 3 (m_pt (v 3) (v 0 1) (v 0 5) (v 0 3) (v 0 4) (v 4)).1) 4 (m_pt (v 3) (v 0 1) (v 0 5) (v 0 3) (v 0 4) (v 4)).2.1)) 4 (m_pt (v 3) (v 0 1) (v 0 5) (v 0 3) (v 0 4) (v 4)).2.2.1)) = (wM q cI (va_up (va_up v 0 (va_up (v 0) 3 ((v 0 3) + 4))) 4 (va_up (va_up (va_up (v 4) (3 * (v 0 5)) (v 3 (v 0 3))) (3 * (v 0 5) + 1) ((v 3 ((v 0 3) + 1)) - 48)) (3 * (v 0 5) + 2) (10 * ((v 3 ((v 0 3) + 2)) - 48) + (v 3 ((v 0 3) + 3)) - 48)))) := (by unfold m_pt; rw [if_pos (by omega), if_pos (by unfold m_hi; (repeat' split) <;> omega), if_pos (by omega), if_pos (by omega), if_pos (by omega)]; first | done | rfl)
                      rw [← w_209] at hP
                      exact W.zret (v := nI 1) hx hb hrt rfl (fun t ht hW => ⟨⟨_, (), rfl, (congrArg nI (by unfold m_pt; rw [if_pos (by omega), if_pos (by unfold m_hi; (repeat' split) <;> omega), if_pos (by omega), if_pos (by omega), if_pos (by omega)])), by show va_P D vwCl _ t.heap; rw [ht]; exact hP⟩, hS.F ht⟩) hS.2.2 dX5_isPart_205
                    · skip
                      rw [if_neg c_206] at hP hD
                      have hP : va_P D vwCl (wM q cI (va_up (va_up v 0 (va_up (va_up (v 0) 3 ((v 0 3) + 3)) 4 (bn (((v 0 3) + 3) < v 0 1)))) 4 (va_up (va_up (v 4) (3 * (v 0 5)) (v 3 (v 0 3))) (3 * (v 0 5) + 1) ((v 3 ((v 0 3) + 1)) - 48)))) H := hP
                      have hD : va_D A (wM q cI (va_up (va_up v 0 (va_up (va_up (v 0) 3 ((v 0 3) + 3)) 4 (bn (((v 0 3) + 3) < v 0 1)))) 4 (va_up (va_up (v 4) (3 * (v 0 5)) (v 3 (v 0 3))) (3 * (v 0 5) + 1) ((v 3 ((v 0 3) + 1)) - 48)))) := hD
                      refine o_const (k := 0) hx hb dX5_isPart_157 (by decide) ?_
                      have w_210 : (wM q cI (va_up (va_up v 0 (va_up (va_up (v 0) 3 (m_pt (v 3) (v 0 1) (v 0 5) (v 0 3) (v 0 4) (v 4)).1) 4 (m_pt (v 3) (v 0 1) (v 0 5) (v 0 3) (v 0 4) (v 4)).2.1)) 4 (m_pt (v 3) (v 0 1) (v 0 5) (v 0 3) (v 0 4) (v 4)).2.2.1)) = (wM q cI (va_up (va_up v 0 (va_up (va_up (v 0) 3 ((v 0 3) + 3)) 4 (bn (((v 0 3) + 3) < v 0 1)))) 4 (va_up (va_up (v 4) (3 * (v 0 5)) (v 3 (v 0 3))) (3 * (v 0 5) + 1) ((v 3 ((v 0 3) + 1)) - 48)))) := (by unfold m_pt; rw [if_pos (by omega), if_pos (by unfold m_hi; (repeat' split) <;> omega), if_pos (by omega), if_pos (by omega), if_neg (by omega)]; first | done | rfl)
                      rw [← w_210] at hP
                      exact W.zret (v := nI 0) hx hb hrt rfl (fun t ht hW => ⟨⟨_, (), rfl, (congrArg nI (by unfold m_pt; rw [if_pos (by omega), if_pos (by unfold m_hi; (repeat' split) <;> omega), if_pos (by omega), if_pos (by omega), if_neg (by omega)])), by show va_P D vwCl _ t.heap; rw [ht]; exact hP⟩, hS.F ht⟩) hS.2.2 dX5_isPart_158
              · skip
                rw [if_neg c_196] at hP hD
                have hP : va_P D vwCl (wM q cI (va_up v 0 (va_up (va_up (v 0) 3 ((v 0 3) + 1)) 4 (bn (((v 0 3) + 1) < v 0 1))))) H := hP
                have hD : va_D A (wM q cI (va_up v 0 (va_up (va_up (v 0) 3 ((v 0 3) + 1)) 4 (bn (((v 0 3) + 1) < v 0 1))))) := hD
                refine o_const (k := 0) hx hb dX5_isPart_92 (by decide) ?_
                have w_211 : (wM q cI (va_up (va_up v 0 (va_up (va_up (v 0) 3 (m_pt (v 3) (v 0 1) (v 0 5) (v 0 3) (v 0 4) (v 4)).1) 4 (m_pt (v 3) (v 0 1) (v 0 5) (v 0 3) (v 0 4) (v 4)).2.1)) 4 (m_pt (v 3) (v 0 1) (v 0 5) (v 0 3) (v 0 4) (v 4)).2.2.1)) = (wM q cI (va_up v 0 (va_up (va_up (v 0) 3 ((v 0 3) + 1)) 4 (bn (((v 0 3) + 1) < v 0 1))))) := (by unfold m_pt; rw [if_pos (by omega), if_neg (by unfold m_hi; (repeat' split) <;> omega)]; first | done | rfl)
                rw [← w_211] at hP
                exact W.zret (v := nI 0) hx hb hrt rfl (fun t ht hW => ⟨⟨_, (), rfl, (congrArg nI (by unfold m_pt; rw [if_pos (by omega), if_neg (by unfold m_hi; (repeat' split) <;> omega)])), by show va_P D vwCl _ t.heap; rw [ht]; exact hP⟩, hS.F ht⟩) hS.2.2 dX5_isPart_93
        · skip
          refine o_bipush (k := 52) hx hb dX5_isPart_62 (by decide) ?_
          refine lv_goto (tgt := 86) hx hb dX5_isPart_64 (by decide) ?_
          refine o_wi (va_runV (As := [.int (nI 52)]) (rest := []) ⟨hx, hb, hml, hown, hts⟩ (k_X5_isDigit l D cI cR cS cL H.size q (va_up v 0 (va_up (v 0) 3 ((v 0 3) + 1))) 52 (by show ((v 0 3) + 1) < 2 ^ 31; first | assumption | omega) (by show v 0 1 ≤ 60; first | assumption | omega) (by show ∀ k, v 3 k < 2 ^ 31; first | assumption | omega) (by show 52 < 2 ^ 31; first | assumption | omega)) (cwV 1 hts gX5_isPart_X5_isDigit rfl rfl rfl (by decide +kernel) ⟨Nat.le_of_ble_eq_true rfl, Nat.le_of_ble_eq_true rfl⟩) (o_v (o_pB hK hN hP hD) (va_recv hK hP (ci := 5) (q0 := 0) rfl rfl)) rfl rfl hl.1 rfl (lv_room (Nat.le_of_ble_eq_true rfl)) dX5_isPart_86 ⟨Nat.zero_le _, Nat.zero_le _⟩) hP hD hS hA [0, 1, 2, 3, 4] (by decide) rfl (fun _ => rfl) (fun r_213 _ H locs e_212 hP hD hS => ?_)
          have e_212 : r_213 = nI (bn (((v 0 3) + 1) < v 0 1 ∧ 48 ≤ v 3 (((v 0 3) + 1)) ∧ v 3 (((v 0 3) + 1)) ≤ 52)) := e_212
          subst e_212
          have hP : va_P D vwCl (wM q cI (va_up v 0 (if ((v 0 3) + 1) < v 0 1 ∧ 48 ≤ v 3 (((v 0 3) + 1)) ∧ v 3 (((v 0 3) + 1)) ≤ 52 then (va_up (va_up (v 0) 3 ((v 0 3) + 1)) 3 ((v 0 3) + 2)) else (va_up (va_up (v 0) 3 ((v 0 3) + 1)) 4 (bn (((v 0 3) + 1) < v 0 1)))))) H := hP
          have hD : va_D A (wM q cI (va_up v 0 (if ((v 0 3) + 1) < v 0 1 ∧ 48 ≤ v 3 (((v 0 3) + 1)) ∧ v 3 (((v 0 3) + 1)) ≤ 52 then (va_up (va_up (v 0) 3 ((v 0 3) + 1)) 3 ((v 0 3) + 2)) else (va_up (va_up (v 0) 3 ((v 0 3) + 1)) 4 (bn (((v 0 3) + 1) < v 0 1)))))) := hD
          refine o_ifnz (tgt := 94) hx hb dX5_isPart_89 (by decide) (fun c_214 => ?_) (fun c_214 => ?_)
          · skip
            rw [if_pos c_214] at hP hD
            have hP : va_P D vwCl (wM q cI (va_up v 0 (va_up (v 0) 3 ((v 0 3) + 2)))) H := hP
            have hD : va_D A (wM q cI (va_up v 0 (va_up (v 0) 3 ((v 0 3) + 2)))) := hD
            refine lv_aload_n hx hb dX5_isPart_94 rfl (lv_at hl 1 rfl) ?_
            refine va_get (D := D) (ci := 5) (v := .ref (q 4)) (C := RX5) (T := TX5) (N := 10) hx hb hts inX5_isPart_X5 hown hK hP 0 rfl rfl 8 (by decide) (hts (.fieldLink RX5 19 "OddNoticeModel" "told" "[I") (List.mem_of_getElem? (i := 3) (by decide +kernel))) (fun _ h9 => h9) rfl dX5_isPart_95 ?_
            refine o_const (k := 3) hx hb dX5_isPart_98 (by decide) ?_
            refine lv_aload_n hx hb dX5_isPart_99 rfl (lv_at hl 1 rfl) ?_
            refine va_get (D := D) (ci := 5) (v := .int (nI (v 0 5))) (C := RX5) (T := TX5) (N := 10) hx hb hts inX5_isPart_X5 hown hK hP 0 rfl rfl 9 (by decide) (hts (.fieldLink RX5 106 "OddNoticeModel" "tolds" "I") (List.mem_of_getElem? (i := 4) (by decide +kernel))) (fun _ h9 => h9) rfl dX5_isPart_100 ?_
            refine o_imul (a := 3) (b := (v 0 5)) (k := (3 * (v 0 5))) hx hb dX5_isPart_103 rfl ?_
            refine lv_iload_n hx hb dX5_isPart_104 rfl (lv_at hl 0 rfl) ?_
            refine o_iast (g := (v 4)) hx hb hK hP hD hS 4 0 rfl rfl (by omega) (Nat.le_of_ble_eq_true rfl) dX5_isPart_105 (fun H locs hP hD hS => ?_)
            have hP : va_P D vwCl (wM q cI (va_up (va_up v 0 (va_up (v 0) 3 ((v 0 3) + 2))) 4 (va_up (v 4) (3 * (v 0 5)) (v 3 (v 0 3))))) H := hP
            have hD : va_D A (wM q cI (va_up (va_up v 0 (va_up (v 0) 3 ((v 0 3) + 2))) 4 (va_up (v 4) (3 * (v 0 5)) (v 3 (v 0 3))))) := hD
            refine lv_aload_n hx hb dX5_isPart_106 rfl (lv_at hl 1 rfl) ?_
            refine va_get (D := D) (ci := 5) (v := .ref (q 4)) (C := RX5) (T := TX5) (N := 10) hx hb hts inX5_isPart_X5 hown hK hP 0 rfl rfl 8 (by decide) (hts (.fieldLink RX5 19 "OddNoticeModel" "told" "[I") (List.mem_of_getElem? (i := 3) (by decide +kernel))) (fun _ h9 => h9) rfl dX5_isPart_107 ?_
            refine o_const (k := 3) hx hb dX5_isPart_110 (by decide) ?_
            refine lv_aload_n hx hb dX5_isPart_111 rfl (lv_at hl 1 rfl) ?_
            refine va_get (D := D) (ci := 5) (v := .int (nI (v 0 5))) (C := RX5) (T := TX5) (N := 10) hx hb hts inX5_isPart_X5 hown hK hP 0 rfl rfl 9 (by decide) (hts (.fieldLink RX5 106 "OddNoticeModel" "tolds" "I") (List.mem_of_getElem? (i := 4) (by decide +kernel))) (fun _ h9 => h9) rfl dX5_isPart_112 ?_
            refine o_imul (a := 3) (b := (v 0 5)) (k := (3 * (v 0 5))) hx hb dX5_isPart_115 rfl ?_
            refine o_const (k := 1) hx hb dX5_isPart_116 (by decide) ?_
            refine o_iadd (a := (3 * (v 0 5))) (b := 1) (k := (3 * (v 0 5) + 1)) hx hb dX5_isPart_117 rfl ?_
            refine lv_aload_n hx hb dX5_isPart_118 rfl (lv_at hl 1 rfl) ?_
            refine va_get (D := D) (ci := 5) (v := .ref (q 3)) (C := RX5) (T := TX5) (N := 10) hx hb hts inX5_isPart_X5 hown hK hP 0 rfl rfl 3 (by decide) (hts (.fieldLink RX5 16 "OddNoticeModel" "text" "[I") (List.mem_of_getElem? (i := 1) (by decide +kernel))) (fun _ h9 => h9) rfl dX5_isPart_119 ?_
            refine lv_aload_n hx hb dX5_isPart_122 rfl (lv_at hl 1 rfl) ?_
            refine va_get (D := D) (ci := 5) (v := .int (nI ((v 0 3) + 2))) (C := RX5) (T := TX5) (N := 10) hx hb hts inX5_isPart_X5 hown hK hP 0 rfl rfl 6 (by decide) (hts (.fieldLink RX5 89 "OddNoticeModel" "at" "I") (List.mem_of_getElem? (i := 2) (by decide +kernel))) (fun _ h9 => h9) rfl dX5_isPart_123 ?_
            refine o_const (k := 1) hx hb dX5_isPart_126 (by decide) ?_
            refine o_isub (a := ((v 0 3) + 2)) (b := 1) (k := ((v 0 3) + 1)) hx hb dX5_isPart_127 (by omega) (by omega) ?_
            refine o_iald (v := nI (v 3 ((v 0 3) + 1))) hx hb hK hP 3 0 rfl rfl (by omega) (Nat.le_of_ble_eq_true rfl) rfl dX5_isPart_128 ?_
            have f_215 := ht ((v 0 3) + 1)
            refine o_bipush (k := 48) hx hb dX5_isPart_129 (by decide) ?_
            refine o_isub (a := (v 3 ((v 0 3) + 1))) (b := 48) (k := ((v 3 ((v 0 3) + 1)) - 48)) hx hb dX5_isPart_131 (by omega) rfl ?_
            refine o_iast (g := (va_up (v 4) (3 * (v 0 5)) (v 3 (v 0 3)))) hx hb hK hP hD hS 4 0 rfl rfl (by omega) (Nat.le_of_ble_eq_true rfl) dX5_isPart_132 (fun H locs hP hD hS => ?_)
            have hP : va_P D vwCl (wM q cI (va_up (va_up v 0 (va_up (v 0) 3 ((v 0 3) + 2))) 4 (va_up (va_up (v 4) (3 * (v 0 5)) (v 3 (v 0 3))) (3 * (v 0 5) + 1) ((v 3 ((v 0 3) + 1)) - 48)))) H := hP
            have hD : va_D A (wM q cI (va_up (va_up v 0 (va_up (v 0) 3 ((v 0 3) + 2))) 4 (va_up (va_up (v 4) (3 * (v 0 5)) (v 3 (v 0 3))) (3 * (v 0 5) + 1) ((v 3 ((v 0 3) + 1)) - 48)))) := hD
            refine lv_iload_n hx hb dX5_isPart_133 rfl (lv_at hl 0 rfl) ?_
            refine o_bipush (k := 119) hx hb dX5_isPart_134 (by decide) ?_
            refine o_icmp_ne (tgt := 204) hx hb dX5_isPart_136 (by decide) (by omega) (Nat.le_of_ble_eq_true rfl) (fun c_216 => ?_) (fun c_216 => ?_)
            · skip
              refine o_const (k := 1) hx hb dX5_isPart_204 (by decide) ?_
              have w_217 : (wM q cI (va_up (va_up v 0 (va_up (va_up (v 0) 3 (m_pt (v 3) (v 0 1) (v 0 5) (v 0 3) (v 0 4) (v 4)).1) 4 (m_pt (v 3) (v 0 1) (v 0 5) (v 0 3) (v 0 4) (v 4)).2.1)) 4 (m_pt (v 3) (v 0 1) (v 0 5) (v 0 3) (v 0 4) (v 4)).2.2.1)) = (wM q cI (va_up (va_up v 0 (va_up (v 0) 3 ((v 0 3) + 2))) 4 (va_up (va_up (v 4) (3 * (v 0 5)) (v 3 (v 0 3))) (3 * (v 0 5) + 1) ((v 3 ((v 0 3) + 1)) - 48)))) := (by unfold m_pt; rw [if_pos (by omega), if_pos (by unfold m_hi; (repeat' split) <;> omega), if_neg (by omega)]; first | done | rfl)
              rw [← w_217] at hP
              exact W.zret (v := nI 1) hx hb hrt rfl (fun t ht hW => ⟨⟨_, (), rfl, (congrArg nI (by unfold m_pt; rw [if_pos (by omega), if_pos (by unfold m_hi; (repeat' split) <;> omega), if_neg (by omega)])), by show va_P D vwCl _ t.heap; rw [ht]; exact hP⟩, hS.F ht⟩) hS.2.2 dX5_isPart_205
            · skip
              refine lv_aload_n hx hb dX5_isPart_139 rfl (lv_at hl 1 rfl) ?_
              refine o_bipush (k := 57) hx hb dX5_isPart_140 (by decide) ?_
              refine o_wi (va_runV (As := [.int (nI 57)]) (rest := []) ⟨hx, hb, hml, hown, hts⟩ (k_X5_isDigit l D cI cR cS cL H.size q (va_up (va_up v 0 (va_up (v 0) 3 ((v 0 3) + 2))) 4 (va_up (va_up (v 4) (3 * (v 0 5)) (v 3 (v 0 3))) (3 * (v 0 5) + 1) ((v 3 ((v 0 3) + 1)) - 48))) 57 (by show ((v 0 3) + 2) < 2 ^ 31; first | assumption | omega) (by show v 0 1 ≤ 60; first | assumption | omega) (by show ∀ k, v 3 k < 2 ^ 31; first | assumption | omega) (by show 57 < 2 ^ 31; first | assumption | omega)) (cwV 1 hts gX5_isPart_X5_isDigit rfl rfl rfl (by decide +kernel) ⟨Nat.le_of_ble_eq_true rfl, Nat.le_of_ble_eq_true rfl⟩) (o_v (o_pB hK hN hP hD) (va_recv hK hP (ci := 5) (q0 := 0) rfl rfl)) rfl rfl hl.1 rfl (lv_room (Nat.le_of_ble_eq_true rfl)) dX5_isPart_142 ⟨Nat.zero_le _, Nat.zero_le _⟩) hP hD hS hA [0, 1, 2, 3, 4] (by decide) rfl (fun _ => rfl) (fun r_219 _ H locs e_218 hP hD hS => ?_)
              have e_218 : r_219 = nI (bn (((v 0 3) + 2) < v 0 1 ∧ 48 ≤ v 3 (((v 0 3) + 2)) ∧ v 3 (((v 0 3) + 2)) ≤ 57)) := e_218
              subst e_218
              have hP : va_P D vwCl (wM q cI (va_up (va_up v 0 (if ((v 0 3) + 2) < v 0 1 ∧ 48 ≤ v 3 (((v 0 3) + 2)) ∧ v 3 (((v 0 3) + 2)) ≤ 57 then (va_up (va_up (v 0) 3 ((v 0 3) + 2)) 3 ((v 0 3) + 3)) else (va_up (va_up (v 0) 3 ((v 0 3) + 2)) 4 (bn (((v 0 3) + 2) < v 0 1))))) 4 (va_up (va_up (v 4) (3 * (v 0 5)) (v 3 (v 0 3))) (3 * (v 0 5) + 1) ((v 3 ((v 0 3) + 1)) - 48)))) H := hP
              have hD : va_D A (wM q cI (va_up (va_up v 0 (if ((v 0 3) + 2) < v 0 1 ∧ 48 ≤ v 3 (((v 0 3) + 2)) ∧ v 3 (((v 0 3) + 2)) ≤ 57 then (va_up (va_up (v 0) 3 ((v 0 3) + 2)) 3 ((v 0 3) + 3)) else (va_up (va_up (v 0) 3 ((v 0 3) + 2)) 4 (bn (((v 0 3) + 2) < v 0 1))))) 4 (va_up (va_up (v 4) (3 * (v 0 5)) (v 3 (v 0 3))) (3 * (v 0 5) + 1) ((v 3 ((v 0 3) + 1)) - 48)))) := hD
              refine o_ifz (tgt := 157) hx hb dX5_isPart_145 (by decide) (fun c_220 => ?_) (fun c_220 => ?_)
              · skip
                rw [if_neg c_220] at hP hD
                have hP : va_P D vwCl (wM q cI (va_up (va_up v 0 (va_up (va_up (v 0) 3 ((v 0 3) + 2)) 4 (bn (((v 0 3) + 2) < v 0 1)))) 4 (va_up (va_up (v 4) (3 * (v 0 5)) (v 3 (v 0 3))) (3 * (v 0 5) + 1) ((v 3 ((v 0 3) + 1)) - 48)))) H := hP
                have hD : va_D A (wM q cI (va_up (va_up v 0 (va_up (va_up (v 0) 3 ((v 0 3) + 2)) 4 (bn (((v 0 3) + 2) < v 0 1)))) 4 (va_up (va_up (v 4) (3 * (v 0 5)) (v 3 (v 0 3))) (3 * (v 0 5) + 1) ((v 3 ((v 0 3) + 1)) - 48)))) := hD
                refine o_const (k := 0) hx hb dX5_isPart_157 (by decide) ?_
                have w_221 : (wM q cI (va_up (va_up v 0 (va_up (va_up (v 0) 3 (m_pt (v 3) (v 0 1) (v 0 5) (v 0 3) (v 0 4) (v 4)).1) 4 (m_pt (v 3) (v 0 1) (v 0 5) (v 0 3) (v 0 4) (v 4)).2.1)) 4 (m_pt (v 3) (v 0 1) (v 0 5) (v 0 3) (v 0 4) (v 4)).2.2.1)) = (wM q cI (va_up (va_up v 0 (va_up (va_up (v 0) 3 ((v 0 3) + 2)) 4 (bn (((v 0 3) + 2) < v 0 1)))) 4 (va_up (va_up (v 4) (3 * (v 0 5)) (v 3 (v 0 3))) (3 * (v 0 5) + 1) ((v 3 ((v 0 3) + 1)) - 48)))) := (by unfold m_pt; rw [if_pos (by omega), if_pos (by unfold m_hi; (repeat' split) <;> omega), if_pos (by omega), if_neg (by omega)]; first | done | rfl)
                rw [← w_221] at hP
                exact W.zret (v := nI 0) hx hb hrt rfl (fun t ht hW => ⟨⟨_, (), rfl, (congrArg nI (by unfold m_pt; rw [if_pos (by omega), if_pos (by unfold m_hi; (repeat' split) <;> omega), if_pos (by omega), if_neg (by omega)])), by show va_P D vwCl _ t.heap; rw [ht]; exact hP⟩, hS.F ht⟩) hS.2.2 dX5_isPart_158
              · skip
                rw [if_pos c_220] at hP hD
                have hP : va_P D vwCl (wM q cI (va_up (va_up v 0 (va_up (v 0) 3 ((v 0 3) + 3))) 4 (va_up (va_up (v 4) (3 * (v 0 5)) (v 3 (v 0 3))) (3 * (v 0 5) + 1) ((v 3 ((v 0 3) + 1)) - 48)))) H := hP
                have hD : va_D A (wM q cI (va_up (va_up v 0 (va_up (v 0) 3 ((v 0 3) + 3))) 4 (va_up (va_up (v 4) (3 * (v 0 5)) (v 3 (v 0 3))) (3 * (v 0 5) + 1) ((v 3 ((v 0 3) + 1)) - 48)))) := hD
                refine lv_aload_n hx hb dX5_isPart_148 rfl (lv_at hl 1 rfl) ?_
                refine o_bipush (k := 57) hx hb dX5_isPart_149 (by decide) ?_
                refine o_wi (va_runV (As := [.int (nI 57)]) (rest := []) ⟨hx, hb, hml, hown, hts⟩ (k_X5_isDigit l D cI cR cS cL H.size q (va_up (va_up v 0 (va_up (v 0) 3 ((v 0 3) + 3))) 4 (va_up (va_up (v 4) (3 * (v 0 5)) (v 3 (v 0 3))) (3 * (v 0 5) + 1) ((v 3 ((v 0 3) + 1)) - 48))) 57 (by show ((v 0 3) + 3) < 2 ^ 31; first | assumption | omega) (by show v 0 1 ≤ 60; first | assumption | omega) (by show ∀ k, v 3 k < 2 ^ 31; first | assumption | omega) (by show 57 < 2 ^ 31; first | assumption | omega)) (cwV 1 hts gX5_isPart_X5_isDigit rfl rfl rfl (by decide +kernel) ⟨Nat.le_of_ble_eq_true rfl, Nat.le_of_ble_eq_true rfl⟩) (o_v (o_pB hK hN hP hD) (va_recv hK hP (ci := 5) (q0 := 0) rfl rfl)) rfl rfl hl.1 rfl (lv_room (Nat.le_of_ble_eq_true rfl)) dX5_isPart_151 ⟨Nat.zero_le _, Nat.zero_le _⟩) hP hD hS hA [0, 1, 2, 3, 4] (by decide) rfl (fun _ => rfl) (fun r_223 _ H locs e_222 hP hD hS => ?_)
                have e_222 : r_223 = nI (bn (((v 0 3) + 3) < v 0 1 ∧ 48 ≤ v 3 (((v 0 3) + 3)) ∧ v 3 (((v 0 3) + 3)) ≤ 57)) := e_222
                subst e_222
                have hP : va_P D vwCl (wM q cI (va_up (va_up v 0 (if ((v 0 3) + 3) < v 0 1 ∧ 48 ≤ v 3 (((v 0 3) + 3)) ∧ v 3 (((v 0 3) + 3)) ≤ 57 then (va_up (va_up (v 0) 3 ((v 0 3) + 3)) 3 ((v 0 3) + 4)) else (va_up (va_up (v 0) 3 ((v 0 3) + 3)) 4 (bn (((v 0 3) + 3) < v 0 1))))) 4 (va_up (va_up (v 4) (3 * (v 0 5)) (v 3 (v 0 3))) (3 * (v 0 5) + 1) ((v 3 ((v 0 3) + 1)) - 48)))) H := hP
                have hD : va_D A (wM q cI (va_up (va_up v 0 (if ((v 0 3) + 3) < v 0 1 ∧ 48 ≤ v 3 (((v 0 3) + 3)) ∧ v 3 (((v 0 3) + 3)) ≤ 57 then (va_up (va_up (v 0) 3 ((v 0 3) + 3)) 3 ((v 0 3) + 4)) else (va_up (va_up (v 0) 3 ((v 0 3) + 3)) 4 (bn (((v 0 3) + 3) < v 0 1))))) 4 (va_up (va_up (v 4) (3 * (v 0 5)) (v 3 (v 0 3))) (3 * (v 0 5) + 1) ((v 3 ((v 0 3) + 1)) - 48)))) := hD
                refine o_ifnz (tgt := 159) hx hb dX5_isPart_154 (by decide) (fun c_224 => ?_) (fun c_224 => ?_)
                · skip
                  rw [if_pos c_224] at hP hD
                  have hP : va_P D vwCl (wM q cI (va_up (va_up v 0 (va_up (v 0) 3 ((v 0 3) + 4))) 4 (va_up (va_up (v 4) (3 * (v 0 5)) (v 3 (v 0 3))) (3 * (v 0 5) + 1) ((v 3 ((v 0 3) + 1)) - 48)))) H := hP
                  have hD : va_D A (wM q cI (va_up (va_up v 0 (va_up (v 0) 3 ((v 0 3) + 4))) 4 (va_up (va_up (v 4) (3 * (v 0 5)) (v 3 (v 0 3))) (3 * (v 0 5) + 1) ((v 3 ((v 0 3) + 1)) - 48)))) := hD
                  refine lv_aload_n hx hb dX5_isPart_159 rfl (lv_at hl 1 rfl) ?_
                  refine va_get (D := D) (ci := 5) (v := .ref (q 4)) (C := RX5) (T := TX5) (N := 10) hx hb hts inX5_isPart_X5 hown hK hP 0 rfl rfl 8 (by decide) (hts (.fieldLink RX5 19 "OddNoticeModel" "told" "[I") (List.mem_of_getElem? (i := 3) (by decide +kernel))) (fun _ h9 => h9) rfl dX5_isPart_160 ?_
                  refine o_const (k := 3) hx hb dX5_isPart_163 (by decide) ?_
                  refine lv_aload_n hx hb dX5_isPart_164 rfl (lv_at hl 1 rfl) ?_
                  refine va_get (D := D) (ci := 5) (v := .int (nI (v 0 5))) (C := RX5) (T := TX5) (N := 10) hx hb hts inX5_isPart_X5 hown hK hP 0 rfl rfl 9 (by decide) (hts (.fieldLink RX5 106 "OddNoticeModel" "tolds" "I") (List.mem_of_getElem? (i := 4) (by decide +kernel))) (fun _ h9 => h9) rfl dX5_isPart_165 ?_
                  refine o_imul (a := 3) (b := (v 0 5)) (k := (3 * (v 0 5))) hx hb dX5_isPart_168 rfl ?_
                  refine o_const (k := 2) hx hb dX5_isPart_169 (by decide) ?_
                  refine o_iadd (a := (3 * (v 0 5))) (b := 2) (k := (3 * (v 0 5) + 2)) hx hb dX5_isPart_170 rfl ?_
                  refine o_bipush (k := 10) hx hb dX5_isPart_171 (by decide) ?_
                  refine lv_aload_n hx hb dX5_isPart_173 rfl (lv_at hl 1 rfl) ?_
                  refine va_get (D := D) (ci := 5) (v := .ref (q 3)) (C := RX5) (T := TX5) (N := 10) hx hb hts inX5_isPart_X5 hown hK hP 0 rfl rfl 3 (by decide) (hts (.fieldLink RX5 16 "OddNoticeModel" "text" "[I") (List.mem_of_getElem? (i := 1) (by decide +kernel))) (fun _ h9 => h9) rfl dX5_isPart_174 ?_
                  refine lv_aload_n hx hb dX5_isPart_177 rfl (lv_at hl 1 rfl) ?_
                  refine va_get (D := D) (ci := 5) (v := .int (nI ((v 0 3) + 4))) (C := RX5) (T := TX5) (N := 10) hx hb hts inX5_isPart_X5 hown hK hP 0 rfl rfl 6 (by decide) (hts (.fieldLink RX5 89 "OddNoticeModel" "at" "I") (List.mem_of_getElem? (i := 2) (by decide +kernel))) (fun _ h9 => h9) rfl dX5_isPart_178 ?_
                  refine o_const (k := 2) hx hb dX5_isPart_181 (by decide) ?_
                  refine o_isub (a := ((v 0 3) + 4)) (b := 2) (k := ((v 0 3) + 2)) hx hb dX5_isPart_182 (by omega) (by omega) ?_
                  refine o_iald (v := nI (v 3 ((v 0 3) + 2))) hx hb hK hP 3 0 rfl rfl (by omega) (Nat.le_of_ble_eq_true rfl) rfl dX5_isPart_183 ?_
                  have f_225 := ht ((v 0 3) + 2)
                  refine o_bipush (k := 48) hx hb dX5_isPart_184 (by decide) ?_
                  refine o_isub (a := (v 3 ((v 0 3) + 2))) (b := 48) (k := ((v 3 ((v 0 3) + 2)) - 48)) hx hb dX5_isPart_186 (by omega) rfl ?_
                  refine o_imul (a := 10) (b := ((v 3 ((v 0 3) + 2)) - 48)) (k := (10 * ((v 3 ((v 0 3) + 2)) - 48))) hx hb dX5_isPart_187 rfl ?_
                  refine lv_aload_n hx hb dX5_isPart_188 rfl (lv_at hl 1 rfl) ?_
                  refine va_get (D := D) (ci := 5) (v := .ref (q 3)) (C := RX5) (T := TX5) (N := 10) hx hb hts inX5_isPart_X5 hown hK hP 0 rfl rfl 3 (by decide) (hts (.fieldLink RX5 16 "OddNoticeModel" "text" "[I") (List.mem_of_getElem? (i := 1) (by decide +kernel))) (fun _ h9 => h9) rfl dX5_isPart_189 ?_
                  refine lv_aload_n hx hb dX5_isPart_192 rfl (lv_at hl 1 rfl) ?_
                  refine va_get (D := D) (ci := 5) (v := .int (nI ((v 0 3) + 4))) (C := RX5) (T := TX5) (N := 10) hx hb hts inX5_isPart_X5 hown hK hP 0 rfl rfl 6 (by decide) (hts (.fieldLink RX5 89 "OddNoticeModel" "at" "I") (List.mem_of_getElem? (i := 2) (by decide +kernel))) (fun _ h9 => h9) rfl dX5_isPart_193 ?_
                  refine o_const (k := 1) hx hb dX5_isPart_196 (by decide) ?_
                  refine o_isub (a := ((v 0 3) + 4)) (b := 1) (k := ((v 0 3) + 3)) hx hb dX5_isPart_197 (by omega) (by omega) ?_
                  refine o_iald (v := nI (v 3 ((v 0 3) + 3))) hx hb hK hP 3 0 rfl rfl (by omega) (Nat.le_of_ble_eq_true rfl) rfl dX5_isPart_198 ?_
                  have f_226 := ht ((v 0 3) + 3)
                  refine o_iadd (a := (10 * ((v 3 ((v 0 3) + 2)) - 48))) (b := (v 3 ((v 0 3) + 3))) (k := (10 * ((v 3 ((v 0 3) + 2)) - 48) + (v 3 ((v 0 3) + 3)))) hx hb dX5_isPart_199 rfl ?_
                  refine o_bipush (k := 48) hx hb dX5_isPart_200 (by decide) ?_
                  refine o_isub (a := (10 * ((v 3 ((v 0 3) + 2)) - 48) + (v 3 ((v 0 3) + 3)))) (b := 48) (k := (10 * ((v 3 ((v 0 3) + 2)) - 48) + (v 3 ((v 0 3) + 3)) - 48)) hx hb dX5_isPart_202 (by omega) rfl ?_
                  refine o_iast (g := (va_up (va_up (v 4) (3 * (v 0 5)) (v 3 (v 0 3))) (3 * (v 0 5) + 1) ((v 3 ((v 0 3) + 1)) - 48))) hx hb hK hP hD hS 4 0 rfl rfl (by omega) (Nat.le_of_ble_eq_true rfl) dX5_isPart_203 (fun H locs hP hD hS => ?_)
                  have hP : va_P D vwCl (wM q cI (va_up (va_up v 0 (va_up (v 0) 3 ((v 0 3) + 4))) 4 (va_up (va_up (va_up (v 4) (3 * (v 0 5)) (v 3 (v 0 3))) (3 * (v 0 5) + 1) ((v 3 ((v 0 3) + 1)) - 48)) (3 * (v 0 5) + 2) (10 * ((v 3 ((v 0 3) + 2)) - 48) + (v 3 ((v 0 3) + 3)) - 48)))) H := hP
                  have hD : va_D A (wM q cI (va_up (va_up v 0 (va_up (v 0) 3 ((v 0 3) + 4))) 4 (va_up (va_up (va_up (v 4) (3 * (v 0 5)) (v 3 (v 0 3))) (3 * (v 0 5) + 1) ((v 3 ((v 0 3) + 1)) - 48)) (3 * (v 0 5) + 2) (10 * ((v 3 ((v 0 3) + 2)) - 48) + (v 3 ((v 0 3) + 3)) - 48)))) := hD
                  refine o_const (k := 1) hx hb dX5_isPart_204 (by decide) ?_
                  have w_227 : (wM q cI (va_up (va_up v 0 (va_up (va_up (v 0) 3 (m_pt (v 3) (v 0 1) (v 0 5) (v 0 3) (v 0 4) (v 4)).1) 4 (m_pt (v 3) (v 0 1) (v 0 5) (v 0 3) (v 0 4) (v 4)).2.1)) 4 (m_pt (v 3) (v 0 1) (v 0 5) (v 0 3) (v 0 4) (v 4)).2.2.1)) = (wM q cI (va_up (va_up v 0 (va_up (v 0) 3 ((v 0 3) + 4))) 4 (va_up (va_up (va_up (v 4) (3 * (v 0 5)) (v 3 (v 0 3))) (3 * (v 0 5) + 1) ((v 3 ((v 0 3) + 1)) - 48)) (3 * (v 0 5) + 2) (10 * ((v 3 ((v 0 3) + 2)) - 48) + (v 3 ((v 0 3) + 3)) - 48)))) := (by unfold m_pt; rw [if_pos (by omega), if_pos (by unfold m_hi; (repeat' split) <;> omega), if_pos (by omega), if_pos (by omega), if_pos (by omega)]; first | done | rfl)
                  rw [← w_227] at hP
                  exact W.zret (v := nI 1) hx hb hrt rfl (fun t ht hW => ⟨⟨_, (), rfl, (congrArg nI (by unfold m_pt; rw [if_pos (by omega), if_pos (by unfold m_hi; (repeat' split) <;> omega), if_pos (by omega), if_pos (by omega), if_pos (by omega)])), by show va_P D vwCl _ t.heap; rw [ht]; exact hP⟩, hS.F ht⟩) hS.2.2 dX5_isPart_205
                · skip
                  rw [if_neg c_224] at hP hD
                  have hP : va_P D vwCl (wM q cI (va_up (va_up v 0 (va_up (va_up (v 0) 3 ((v 0 3) + 3)) 4 (bn (((v 0 3) + 3) < v 0 1)))) 4 (va_up (va_up (v 4) (3 * (v 0 5)) (v 3 (v 0 3))) (3 * (v 0 5) + 1) ((v 3 ((v 0 3) + 1)) - 48)))) H := hP
                  have hD : va_D A (wM q cI (va_up (va_up v 0 (va_up (va_up (v 0) 3 ((v 0 3) + 3)) 4 (bn (((v 0 3) + 3) < v 0 1)))) 4 (va_up (va_up (v 4) (3 * (v 0 5)) (v 3 (v 0 3))) (3 * (v 0 5) + 1) ((v 3 ((v 0 3) + 1)) - 48)))) := hD
                  refine o_const (k := 0) hx hb dX5_isPart_157 (by decide) ?_
                  have w_228 : (wM q cI (va_up (va_up v 0 (va_up (va_up (v 0) 3 (m_pt (v 3) (v 0 1) (v 0 5) (v 0 3) (v 0 4) (v 4)).1) 4 (m_pt (v 3) (v 0 1) (v 0 5) (v 0 3) (v 0 4) (v 4)).2.1)) 4 (m_pt (v 3) (v 0 1) (v 0 5) (v 0 3) (v 0 4) (v 4)).2.2.1)) = (wM q cI (va_up (va_up v 0 (va_up (va_up (v 0) 3 ((v 0 3) + 3)) 4 (bn (((v 0 3) + 3) < v 0 1)))) 4 (va_up (va_up (v 4) (3 * (v 0 5)) (v 3 (v 0 3))) (3 * (v 0 5) + 1) ((v 3 ((v 0 3) + 1)) - 48)))) := (by unfold m_pt; rw [if_pos (by omega), if_pos (by unfold m_hi; (repeat' split) <;> omega), if_pos (by omega), if_pos (by omega), if_neg (by omega)]; first | done | rfl)
                  rw [← w_228] at hP
                  exact W.zret (v := nI 0) hx hb hrt rfl (fun t ht hW => ⟨⟨_, (), rfl, (congrArg nI (by unfold m_pt; rw [if_pos (by omega), if_pos (by unfold m_hi; (repeat' split) <;> omega), if_pos (by omega), if_pos (by omega), if_neg (by omega)])), by show va_P D vwCl _ t.heap; rw [ht]; exact hP⟩, hS.F ht⟩) hS.2.2 dX5_isPart_158
          · skip
            rw [if_neg c_214] at hP hD
            have hP : va_P D vwCl (wM q cI (va_up v 0 (va_up (va_up (v 0) 3 ((v 0 3) + 1)) 4 (bn (((v 0 3) + 1) < v 0 1))))) H := hP
            have hD : va_D A (wM q cI (va_up v 0 (va_up (va_up (v 0) 3 ((v 0 3) + 1)) 4 (bn (((v 0 3) + 1) < v 0 1))))) := hD
            refine o_const (k := 0) hx hb dX5_isPart_92 (by decide) ?_
            have w_229 : (wM q cI (va_up (va_up v 0 (va_up (va_up (v 0) 3 (m_pt (v 3) (v 0 1) (v 0 5) (v 0 3) (v 0 4) (v 4)).1) 4 (m_pt (v 3) (v 0 1) (v 0 5) (v 0 3) (v 0 4) (v 4)).2.1)) 4 (m_pt (v 3) (v 0 1) (v 0 5) (v 0 3) (v 0 4) (v 4)).2.2.1)) = (wM q cI (va_up v 0 (va_up (va_up (v 0) 3 ((v 0 3) + 1)) 4 (bn (((v 0 3) + 1) < v 0 1))))) := (by unfold m_pt; rw [if_pos (by omega), if_neg (by unfold m_hi; (repeat' split) <;> omega)]; first | done | rfl)
            rw [← w_229] at hP
            exact W.zret (v := nI 0) hx hb hrt rfl (fun t ht hW => ⟨⟨_, (), rfl, (congrArg nI (by unfold m_pt; rw [if_pos (by omega), if_neg (by unfold m_hi; (repeat' split) <;> omega)])), by show va_P D vwCl _ t.heap; rw [ht]; exact hP⟩, hS.F ht⟩) hS.2.2 dX5_isPart_93
      · skip
        refine lv_iload_n hx hb dX5_isPart_28 rfl (lv_at hl 0 rfl) ?_
        refine o_bipush (k := 98) hx hb dX5_isPart_29 (by decide) ?_
        refine o_icmp_eq (tgt := 45) hx hb dX5_isPart_31 (by decide) (by omega) (Nat.le_of_ble_eq_true rfl) (fun c_230 => ?_) (fun c_230 => ?_)
        · skip
          refine lv_aload_n hx hb dX5_isPart_45 rfl (lv_at hl 1 rfl) ?_
          refine lv_dup hx hb dX5_isPart_46 rfl ?_
          refine va_get (D := D) (ci := 5) (v := .int (nI (v 0 3))) (C := RX5) (T := TX5) (N := 10) hx hb hts inX5_isPart_X5 hown hK hP 0 rfl rfl 6 (by decide) (hts (.fieldLink RX5 89 "OddNoticeModel" "at" "I") (List.mem_of_getElem? (i := 2) (by decide +kernel))) (fun _ h9 => h9) rfl dX5_isPart_47 ?_
          refine o_const (k := 1) hx hb dX5_isPart_50 (by decide) ?_
          refine o_iadd (a := (v 0 3)) (b := 1) (k := ((v 0 3) + 1)) hx hb dX5_isPart_51 rfl ?_
          refine va_put (D := D) (ci := 5) (v := .int (nI ((v 0 3) + 1))) (ty := .int) (C := RX5) (T := TX5) (N := 10) hx hb hts inX5_isPart_X5 tyX5 tyX5_ok nmX5 hown hK hP hD hS 0 rfl rfl 6 (by decide) (hts (.fieldLink RX5 89 "OddNoticeModel" "at" "I") (List.mem_of_getElem? (i := 2) (by decide +kernel))) (fun _ h9 => h9) rfl (by decide +kernel) rfl rfl (Nat.le_of_ble_eq_true rfl) dX5_isPart_52 (fun H locs hP hD hS => ?_)
          have hP : va_P D vwCl (wM q cI (va_up v 0 (va_up (v 0) 3 ((v 0 3) + 1)))) H := hP
          have hD : va_D A (wM q cI (va_up v 0 (va_up (v 0) 3 ((v 0 3) + 1)))) := hD
          refine lv_aload_n hx hb dX5_isPart_55 rfl (lv_at hl 1 rfl) ?_
          refine lv_iload_n hx hb dX5_isPart_56 rfl (lv_at hl 0 rfl) ?_
          refine o_bipush (k := 119) hx hb dX5_isPart_57 (by decide) ?_
          refine o_icmp_ne (tgt := 67) hx hb dX5_isPart_59 (by decide) (by omega) (Nat.le_of_ble_eq_true rfl) (fun c_231 => ?_) (fun c_231 => ?_)
          · skip
            refine lv_iload_n hx hb dX5_isPart_67 rfl (lv_at hl 0 rfl) ?_
            refine o_bipush (k := 99) hx hb dX5_isPart_68 (by decide) ?_
            refine o_icmp_eq (tgt := 79) hx hb dX5_isPart_70 (by decide) (by omega) (Nat.le_of_ble_eq_true rfl) (fun c_232 => ?_) (fun c_232 => ?_)
            · skip
              refine o_bipush (k := 50) hx hb dX5_isPart_79 (by decide) ?_
              refine lv_goto (tgt := 86) hx hb dX5_isPart_81 (by decide) ?_
              refine o_wi (va_runV (As := [.int (nI 50)]) (rest := []) ⟨hx, hb, hml, hown, hts⟩ (k_X5_isDigit l D cI cR cS cL H.size q (va_up v 0 (va_up (v 0) 3 ((v 0 3) + 1))) 50 (by show ((v 0 3) + 1) < 2 ^ 31; first | assumption | omega) (by show v 0 1 ≤ 60; first | assumption | omega) (by show ∀ k, v 3 k < 2 ^ 31; first | assumption | omega) (by show 50 < 2 ^ 31; first | assumption | omega)) (cwV 1 hts gX5_isPart_X5_isDigit rfl rfl rfl (by decide +kernel) ⟨Nat.le_of_ble_eq_true rfl, Nat.le_of_ble_eq_true rfl⟩) (o_v (o_pB hK hN hP hD) (va_recv hK hP (ci := 5) (q0 := 0) rfl rfl)) rfl rfl hl.1 rfl (lv_room (Nat.le_of_ble_eq_true rfl)) dX5_isPart_86 ⟨Nat.zero_le _, Nat.zero_le _⟩) hP hD hS hA [0, 1, 2, 3, 4] (by decide) rfl (fun _ => rfl) (fun r_234 _ H locs e_233 hP hD hS => ?_)
              have e_233 : r_234 = nI (bn (((v 0 3) + 1) < v 0 1 ∧ 48 ≤ v 3 (((v 0 3) + 1)) ∧ v 3 (((v 0 3) + 1)) ≤ 50)) := e_233
              subst e_233
              have hP : va_P D vwCl (wM q cI (va_up v 0 (if ((v 0 3) + 1) < v 0 1 ∧ 48 ≤ v 3 (((v 0 3) + 1)) ∧ v 3 (((v 0 3) + 1)) ≤ 50 then (va_up (va_up (v 0) 3 ((v 0 3) + 1)) 3 ((v 0 3) + 2)) else (va_up (va_up (v 0) 3 ((v 0 3) + 1)) 4 (bn (((v 0 3) + 1) < v 0 1)))))) H := hP
              have hD : va_D A (wM q cI (va_up v 0 (if ((v 0 3) + 1) < v 0 1 ∧ 48 ≤ v 3 (((v 0 3) + 1)) ∧ v 3 (((v 0 3) + 1)) ≤ 50 then (va_up (va_up (v 0) 3 ((v 0 3) + 1)) 3 ((v 0 3) + 2)) else (va_up (va_up (v 0) 3 ((v 0 3) + 1)) 4 (bn (((v 0 3) + 1) < v 0 1)))))) := hD
              refine o_ifnz (tgt := 94) hx hb dX5_isPart_89 (by decide) (fun c_235 => ?_) (fun c_235 => ?_)
              · skip
                rw [if_pos c_235] at hP hD
                have hP : va_P D vwCl (wM q cI (va_up v 0 (va_up (v 0) 3 ((v 0 3) + 2)))) H := hP
                have hD : va_D A (wM q cI (va_up v 0 (va_up (v 0) 3 ((v 0 3) + 2)))) := hD
                refine lv_aload_n hx hb dX5_isPart_94 rfl (lv_at hl 1 rfl) ?_
                refine va_get (D := D) (ci := 5) (v := .ref (q 4)) (C := RX5) (T := TX5) (N := 10) hx hb hts inX5_isPart_X5 hown hK hP 0 rfl rfl 8 (by decide) (hts (.fieldLink RX5 19 "OddNoticeModel" "told" "[I") (List.mem_of_getElem? (i := 3) (by decide +kernel))) (fun _ h9 => h9) rfl dX5_isPart_95 ?_
                refine o_const (k := 3) hx hb dX5_isPart_98 (by decide) ?_
                refine lv_aload_n hx hb dX5_isPart_99 rfl (lv_at hl 1 rfl) ?_
                refine va_get (D := D) (ci := 5) (v := .int (nI (v 0 5))) (C := RX5) (T := TX5) (N := 10) hx hb hts inX5_isPart_X5 hown hK hP 0 rfl rfl 9 (by decide) (hts (.fieldLink RX5 106 "OddNoticeModel" "tolds" "I") (List.mem_of_getElem? (i := 4) (by decide +kernel))) (fun _ h9 => h9) rfl dX5_isPart_100 ?_
                refine o_imul (a := 3) (b := (v 0 5)) (k := (3 * (v 0 5))) hx hb dX5_isPart_103 rfl ?_
                refine lv_iload_n hx hb dX5_isPart_104 rfl (lv_at hl 0 rfl) ?_
                refine o_iast (g := (v 4)) hx hb hK hP hD hS 4 0 rfl rfl (by omega) (Nat.le_of_ble_eq_true rfl) dX5_isPart_105 (fun H locs hP hD hS => ?_)
                have hP : va_P D vwCl (wM q cI (va_up (va_up v 0 (va_up (v 0) 3 ((v 0 3) + 2))) 4 (va_up (v 4) (3 * (v 0 5)) (v 3 (v 0 3))))) H := hP
                have hD : va_D A (wM q cI (va_up (va_up v 0 (va_up (v 0) 3 ((v 0 3) + 2))) 4 (va_up (v 4) (3 * (v 0 5)) (v 3 (v 0 3))))) := hD
                refine lv_aload_n hx hb dX5_isPart_106 rfl (lv_at hl 1 rfl) ?_
                refine va_get (D := D) (ci := 5) (v := .ref (q 4)) (C := RX5) (T := TX5) (N := 10) hx hb hts inX5_isPart_X5 hown hK hP 0 rfl rfl 8 (by decide) (hts (.fieldLink RX5 19 "OddNoticeModel" "told" "[I") (List.mem_of_getElem? (i := 3) (by decide +kernel))) (fun _ h9 => h9) rfl dX5_isPart_107 ?_
                refine o_const (k := 3) hx hb dX5_isPart_110 (by decide) ?_
                refine lv_aload_n hx hb dX5_isPart_111 rfl (lv_at hl 1 rfl) ?_
                refine va_get (D := D) (ci := 5) (v := .int (nI (v 0 5))) (C := RX5) (T := TX5) (N := 10) hx hb hts inX5_isPart_X5 hown hK hP 0 rfl rfl 9 (by decide) (hts (.fieldLink RX5 106 "OddNoticeModel" "tolds" "I") (List.mem_of_getElem? (i := 4) (by decide +kernel))) (fun _ h9 => h9) rfl dX5_isPart_112 ?_
                refine o_imul (a := 3) (b := (v 0 5)) (k := (3 * (v 0 5))) hx hb dX5_isPart_115 rfl ?_
                refine o_const (k := 1) hx hb dX5_isPart_116 (by decide) ?_
                refine o_iadd (a := (3 * (v 0 5))) (b := 1) (k := (3 * (v 0 5) + 1)) hx hb dX5_isPart_117 rfl ?_
                refine lv_aload_n hx hb dX5_isPart_118 rfl (lv_at hl 1 rfl) ?_
                refine va_get (D := D) (ci := 5) (v := .ref (q 3)) (C := RX5) (T := TX5) (N := 10) hx hb hts inX5_isPart_X5 hown hK hP 0 rfl rfl 3 (by decide) (hts (.fieldLink RX5 16 "OddNoticeModel" "text" "[I") (List.mem_of_getElem? (i := 1) (by decide +kernel))) (fun _ h9 => h9) rfl dX5_isPart_119 ?_
                refine lv_aload_n hx hb dX5_isPart_122 rfl (lv_at hl 1 rfl) ?_
                refine va_get (D := D) (ci := 5) (v := .int (nI ((v 0 3) + 2))) (C := RX5) (T := TX5) (N := 10) hx hb hts inX5_isPart_X5 hown hK hP 0 rfl rfl 6 (by decide) (hts (.fieldLink RX5 89 "OddNoticeModel" "at" "I") (List.mem_of_getElem? (i := 2) (by decide +kernel))) (fun _ h9 => h9) rfl dX5_isPart_123 ?_
                refine o_const (k := 1) hx hb dX5_isPart_126 (by decide) ?_
                refine o_isub (a := ((v 0 3) + 2)) (b := 1) (k := ((v 0 3) + 1)) hx hb dX5_isPart_127 (by omega) (by omega) ?_
                refine o_iald (v := nI (v 3 ((v 0 3) + 1))) hx hb hK hP 3 0 rfl rfl (by omega) (Nat.le_of_ble_eq_true rfl) rfl dX5_isPart_128 ?_
                have f_236 := ht ((v 0 3) + 1)
                refine o_bipush (k := 48) hx hb dX5_isPart_129 (by decide) ?_
                refine o_isub (a := (v 3 ((v 0 3) + 1))) (b := 48) (k := ((v 3 ((v 0 3) + 1)) - 48)) hx hb dX5_isPart_131 (by omega) rfl ?_
                refine o_iast (g := (va_up (v 4) (3 * (v 0 5)) (v 3 (v 0 3)))) hx hb hK hP hD hS 4 0 rfl rfl (by omega) (Nat.le_of_ble_eq_true rfl) dX5_isPart_132 (fun H locs hP hD hS => ?_)
                have hP : va_P D vwCl (wM q cI (va_up (va_up v 0 (va_up (v 0) 3 ((v 0 3) + 2))) 4 (va_up (va_up (v 4) (3 * (v 0 5)) (v 3 (v 0 3))) (3 * (v 0 5) + 1) ((v 3 ((v 0 3) + 1)) - 48)))) H := hP
                have hD : va_D A (wM q cI (va_up (va_up v 0 (va_up (v 0) 3 ((v 0 3) + 2))) 4 (va_up (va_up (v 4) (3 * (v 0 5)) (v 3 (v 0 3))) (3 * (v 0 5) + 1) ((v 3 ((v 0 3) + 1)) - 48)))) := hD
                refine lv_iload_n hx hb dX5_isPart_133 rfl (lv_at hl 0 rfl) ?_
                refine o_bipush (k := 119) hx hb dX5_isPart_134 (by decide) ?_
                refine o_icmp_ne (tgt := 204) hx hb dX5_isPart_136 (by decide) (by omega) (Nat.le_of_ble_eq_true rfl) (fun c_237 => ?_) (fun c_237 => ?_)
                · skip
                  refine o_const (k := 1) hx hb dX5_isPart_204 (by decide) ?_
                  have w_238 : (wM q cI (va_up (va_up v 0 (va_up (va_up (v 0) 3 (m_pt (v 3) (v 0 1) (v 0 5) (v 0 3) (v 0 4) (v 4)).1) 4 (m_pt (v 3) (v 0 1) (v 0 5) (v 0 3) (v 0 4) (v 4)).2.1)) 4 (m_pt (v 3) (v 0 1) (v 0 5) (v 0 3) (v 0 4) (v 4)).2.2.1)) = (wM q cI (va_up (va_up v 0 (va_up (v 0) 3 ((v 0 3) + 2))) 4 (va_up (va_up (v 4) (3 * (v 0 5)) (v 3 (v 0 3))) (3 * (v 0 5) + 1) ((v 3 ((v 0 3) + 1)) - 48)))) := (by unfold m_pt; rw [if_pos (by omega), if_pos (by unfold m_hi; (repeat' split) <;> omega), if_neg (by omega)]; first | done | rfl)
                  rw [← w_238] at hP
                  exact W.zret (v := nI 1) hx hb hrt rfl (fun t ht hW => ⟨⟨_, (), rfl, (congrArg nI (by unfold m_pt; rw [if_pos (by omega), if_pos (by unfold m_hi; (repeat' split) <;> omega), if_neg (by omega)])), by show va_P D vwCl _ t.heap; rw [ht]; exact hP⟩, hS.F ht⟩) hS.2.2 dX5_isPart_205
                · skip
                  refine lv_aload_n hx hb dX5_isPart_139 rfl (lv_at hl 1 rfl) ?_
                  refine o_bipush (k := 57) hx hb dX5_isPart_140 (by decide) ?_
                  refine o_wi (va_runV (As := [.int (nI 57)]) (rest := []) ⟨hx, hb, hml, hown, hts⟩ (k_X5_isDigit l D cI cR cS cL H.size q (va_up (va_up v 0 (va_up (v 0) 3 ((v 0 3) + 2))) 4 (va_up (va_up (v 4) (3 * (v 0 5)) (v 3 (v 0 3))) (3 * (v 0 5) + 1) ((v 3 ((v 0 3) + 1)) - 48))) 57 (by show ((v 0 3) + 2) < 2 ^ 31; first | assumption | omega) (by show v 0 1 ≤ 60; first | assumption | omega) (by show ∀ k, v 3 k < 2 ^ 31; first | assumption | omega) (by show 57 < 2 ^ 31; first | assumption | omega)) (cwV 1 hts gX5_isPart_X5_isDigit rfl rfl rfl (by decide +kernel) ⟨Nat.le_of_ble_eq_true rfl, Nat.le_of_ble_eq_true rfl⟩) (o_v (o_pB hK hN hP hD) (va_recv hK hP (ci := 5) (q0 := 0) rfl rfl)) rfl rfl hl.1 rfl (lv_room (Nat.le_of_ble_eq_true rfl)) dX5_isPart_142 ⟨Nat.zero_le _, Nat.zero_le _⟩) hP hD hS hA [0, 1, 2, 3, 4] (by decide) rfl (fun _ => rfl) (fun r_240 _ H locs e_239 hP hD hS => ?_)
                  have e_239 : r_240 = nI (bn (((v 0 3) + 2) < v 0 1 ∧ 48 ≤ v 3 (((v 0 3) + 2)) ∧ v 3 (((v 0 3) + 2)) ≤ 57)) := e_239
                  subst e_239
                  have hP : va_P D vwCl (wM q cI (va_up (va_up v 0 (if ((v 0 3) + 2) < v 0 1 ∧ 48 ≤ v 3 (((v 0 3) + 2)) ∧ v 3 (((v 0 3) + 2)) ≤ 57 then (va_up (va_up (v 0) 3 ((v 0 3) + 2)) 3 ((v 0 3) + 3)) else (va_up (va_up (v 0) 3 ((v 0 3) + 2)) 4 (bn (((v 0 3) + 2) < v 0 1))))) 4 (va_up (va_up (v 4) (3 * (v 0 5)) (v 3 (v 0 3))) (3 * (v 0 5) + 1) ((v 3 ((v 0 3) + 1)) - 48)))) H := hP
                  have hD : va_D A (wM q cI (va_up (va_up v 0 (if ((v 0 3) + 2) < v 0 1 ∧ 48 ≤ v 3 (((v 0 3) + 2)) ∧ v 3 (((v 0 3) + 2)) ≤ 57 then (va_up (va_up (v 0) 3 ((v 0 3) + 2)) 3 ((v 0 3) + 3)) else (va_up (va_up (v 0) 3 ((v 0 3) + 2)) 4 (bn (((v 0 3) + 2) < v 0 1))))) 4 (va_up (va_up (v 4) (3 * (v 0 5)) (v 3 (v 0 3))) (3 * (v 0 5) + 1) ((v 3 ((v 0 3) + 1)) - 48)))) := hD
                  refine o_ifz (tgt := 157) hx hb dX5_isPart_145 (by decide) (fun c_241 => ?_) (fun c_241 => ?_)
                  · skip
                    rw [if_neg c_241] at hP hD
                    have hP : va_P D vwCl (wM q cI (va_up (va_up v 0 (va_up (va_up (v 0) 3 ((v 0 3) + 2)) 4 (bn (((v 0 3) + 2) < v 0 1)))) 4 (va_up (va_up (v 4) (3 * (v 0 5)) (v 3 (v 0 3))) (3 * (v 0 5) + 1) ((v 3 ((v 0 3) + 1)) - 48)))) H := hP
                    have hD : va_D A (wM q cI (va_up (va_up v 0 (va_up (va_up (v 0) 3 ((v 0 3) + 2)) 4 (bn (((v 0 3) + 2) < v 0 1)))) 4 (va_up (va_up (v 4) (3 * (v 0 5)) (v 3 (v 0 3))) (3 * (v 0 5) + 1) ((v 3 ((v 0 3) + 1)) - 48)))) := hD
                    refine o_const (k := 0) hx hb dX5_isPart_157 (by decide) ?_
                    have w_242 : (wM q cI (va_up (va_up v 0 (va_up (va_up (v 0) 3 (m_pt (v 3) (v 0 1) (v 0 5) (v 0 3) (v 0 4) (v 4)).1) 4 (m_pt (v 3) (v 0 1) (v 0 5) (v 0 3) (v 0 4) (v 4)).2.1)) 4 (m_pt (v 3) (v 0 1) (v 0 5) (v 0 3) (v 0 4) (v 4)).2.2.1)) = (wM q cI (va_up (va_up v 0 (va_up (va_up (v 0) 3 ((v 0 3) + 2)) 4 (bn (((v 0 3) + 2) < v 0 1)))) 4 (va_up (va_up (v 4) (3 * (v 0 5)) (v 3 (v 0 3))) (3 * (v 0 5) + 1) ((v 3 ((v 0 3) + 1)) - 48)))) := (by unfold m_pt; rw [if_pos (by omega), if_pos (by unfold m_hi; (repeat' split) <;> omega), if_pos (by omega), if_neg (by omega)]; first | done | rfl)
                    rw [← w_242] at hP
                    exact W.zret (v := nI 0) hx hb hrt rfl (fun t ht hW => ⟨⟨_, (), rfl, (congrArg nI (by unfold m_pt; rw [if_pos (by omega), if_pos (by unfold m_hi; (repeat' split) <;> omega), if_pos (by omega), if_neg (by omega)])), by show va_P D vwCl _ t.heap; rw [ht]; exact hP⟩, hS.F ht⟩) hS.2.2 dX5_isPart_158
                  · skip
                    rw [if_pos c_241] at hP hD
                    have hP : va_P D vwCl (wM q cI (va_up (va_up v 0 (va_up (v 0) 3 ((v 0 3) + 3))) 4 (va_up (va_up (v 4) (3 * (v 0 5)) (v 3 (v 0 3))) (3 * (v 0 5) + 1) ((v 3 ((v 0 3) + 1)) - 48)))) H := hP
                    have hD : va_D A (wM q cI (va_up (va_up v 0 (va_up (v 0) 3 ((v 0 3) + 3))) 4 (va_up (va_up (v 4) (3 * (v 0 5)) (v 3 (v 0 3))) (3 * (v 0 5) + 1) ((v 3 ((v 0 3) + 1)) - 48)))) := hD
                    refine lv_aload_n hx hb dX5_isPart_148 rfl (lv_at hl 1 rfl) ?_
                    refine o_bipush (k := 57) hx hb dX5_isPart_149 (by decide) ?_
                    refine o_wi (va_runV (As := [.int (nI 57)]) (rest := []) ⟨hx, hb, hml, hown, hts⟩ (k_X5_isDigit l D cI cR cS cL H.size q (va_up (va_up v 0 (va_up (v 0) 3 ((v 0 3) + 3))) 4 (va_up (va_up (v 4) (3 * (v 0 5)) (v 3 (v 0 3))) (3 * (v 0 5) + 1) ((v 3 ((v 0 3) + 1)) - 48))) 57 (by show ((v 0 3) + 3) < 2 ^ 31; first | assumption | omega) (by show v 0 1 ≤ 60; first | assumption | omega) (by show ∀ k, v 3 k < 2 ^ 31; first | assumption | omega) (by show 57 < 2 ^ 31; first | assumption | omega)) (cwV 1 hts gX5_isPart_X5_isDigit rfl rfl rfl (by decide +kernel) ⟨Nat.le_of_ble_eq_true rfl, Nat.le_of_ble_eq_true rfl⟩) (o_v (o_pB hK hN hP hD) (va_recv hK hP (ci := 5) (q0 := 0) rfl rfl)) rfl rfl hl.1 rfl (lv_room (Nat.le_of_ble_eq_true rfl)) dX5_isPart_151 ⟨Nat.zero_le _, Nat.zero_le _⟩) hP hD hS hA [0, 1, 2, 3, 4] (by decide) rfl (fun _ => rfl) (fun r_244 _ H locs e_243 hP hD hS => ?_)
                    have e_243 : r_244 = nI (bn (((v 0 3) + 3) < v 0 1 ∧ 48 ≤ v 3 (((v 0 3) + 3)) ∧ v 3 (((v 0 3) + 3)) ≤ 57)) := e_243
                    subst e_243
                    have hP : va_P D vwCl (wM q cI (va_up (va_up v 0 (if ((v 0 3) + 3) < v 0 1 ∧ 48 ≤ v 3 (((v 0 3) + 3)) ∧ v 3 (((v 0 3) + 3)) ≤ 57 then (va_up (va_up (v 0) 3 ((v 0 3) + 3)) 3 ((v 0 3) + 4)) else (va_up (va_up (v 0) 3 ((v 0 3) + 3)) 4 (bn (((v 0 3) + 3) < v 0 1))))) 4 (va_up (va_up (v 4) (3 * (v 0 5)) (v 3 (v 0 3))) (3 * (v 0 5) + 1) ((v 3 ((v 0 3) + 1)) - 48)))) H := hP
                    have hD : va_D A (wM q cI (va_up (va_up v 0 (if ((v 0 3) + 3) < v 0 1 ∧ 48 ≤ v 3 (((v 0 3) + 3)) ∧ v 3 (((v 0 3) + 3)) ≤ 57 then (va_up (va_up (v 0) 3 ((v 0 3) + 3)) 3 ((v 0 3) + 4)) else (va_up (va_up (v 0) 3 ((v 0 3) + 3)) 4 (bn (((v 0 3) + 3) < v 0 1))))) 4 (va_up (va_up (v 4) (3 * (v 0 5)) (v 3 (v 0 3))) (3 * (v 0 5) + 1) ((v 3 ((v 0 3) + 1)) - 48)))) := hD
                    refine o_ifnz (tgt := 159) hx hb dX5_isPart_154 (by decide) (fun c_245 => ?_) (fun c_245 => ?_)
                    · skip
                      rw [if_pos c_245] at hP hD
                      have hP : va_P D vwCl (wM q cI (va_up (va_up v 0 (va_up (v 0) 3 ((v 0 3) + 4))) 4 (va_up (va_up (v 4) (3 * (v 0 5)) (v 3 (v 0 3))) (3 * (v 0 5) + 1) ((v 3 ((v 0 3) + 1)) - 48)))) H := hP
                      have hD : va_D A (wM q cI (va_up (va_up v 0 (va_up (v 0) 3 ((v 0 3) + 4))) 4 (va_up (va_up (v 4) (3 * (v 0 5)) (v 3 (v 0 3))) (3 * (v 0 5) + 1) ((v 3 ((v 0 3) + 1)) - 48)))) := hD
                      refine lv_aload_n hx hb dX5_isPart_159 rfl (lv_at hl 1 rfl) ?_
                      refine va_get (D := D) (ci := 5) (v := .ref (q 4)) (C := RX5) (T := TX5) (N := 10) hx hb hts inX5_isPart_X5 hown hK hP 0 rfl rfl 8 (by decide) (hts (.fieldLink RX5 19 "OddNoticeModel" "told" "[I") (List.mem_of_getElem? (i := 3) (by decide +kernel))) (fun _ h9 => h9) rfl dX5_isPart_160 ?_
                      refine o_const (k := 3) hx hb dX5_isPart_163 (by decide) ?_
                      refine lv_aload_n hx hb dX5_isPart_164 rfl (lv_at hl 1 rfl) ?_
                      refine va_get (D := D) (ci := 5) (v := .int (nI (v 0 5))) (C := RX5) (T := TX5) (N := 10) hx hb hts inX5_isPart_X5 hown hK hP 0 rfl rfl 9 (by decide) (hts (.fieldLink RX5 106 "OddNoticeModel" "tolds" "I") (List.mem_of_getElem? (i := 4) (by decide +kernel))) (fun _ h9 => h9) rfl dX5_isPart_165 ?_
                      refine o_imul (a := 3) (b := (v 0 5)) (k := (3 * (v 0 5))) hx hb dX5_isPart_168 rfl ?_
                      refine o_const (k := 2) hx hb dX5_isPart_169 (by decide) ?_
                      refine o_iadd (a := (3 * (v 0 5))) (b := 2) (k := (3 * (v 0 5) + 2)) hx hb dX5_isPart_170 rfl ?_
                      refine o_bipush (k := 10) hx hb dX5_isPart_171 (by decide) ?_
                      refine lv_aload_n hx hb dX5_isPart_173 rfl (lv_at hl 1 rfl) ?_
                      refine va_get (D := D) (ci := 5) (v := .ref (q 3)) (C := RX5) (T := TX5) (N := 10) hx hb hts inX5_isPart_X5 hown hK hP 0 rfl rfl 3 (by decide) (hts (.fieldLink RX5 16 "OddNoticeModel" "text" "[I") (List.mem_of_getElem? (i := 1) (by decide +kernel))) (fun _ h9 => h9) rfl dX5_isPart_174 ?_
                      refine lv_aload_n hx hb dX5_isPart_177 rfl (lv_at hl 1 rfl) ?_
                      refine va_get (D := D) (ci := 5) (v := .int (nI ((v 0 3) + 4))) (C := RX5) (T := TX5) (N := 10) hx hb hts inX5_isPart_X5 hown hK hP 0 rfl rfl 6 (by decide) (hts (.fieldLink RX5 89 "OddNoticeModel" "at" "I") (List.mem_of_getElem? (i := 2) (by decide +kernel))) (fun _ h9 => h9) rfl dX5_isPart_178 ?_
                      refine o_const (k := 2) hx hb dX5_isPart_181 (by decide) ?_
                      refine o_isub (a := ((v 0 3) + 4)) (b := 2) (k := ((v 0 3) + 2)) hx hb dX5_isPart_182 (by omega) (by omega) ?_
                      refine o_iald (v := nI (v 3 ((v 0 3) + 2))) hx hb hK hP 3 0 rfl rfl (by omega) (Nat.le_of_ble_eq_true rfl) rfl dX5_isPart_183 ?_
                      have f_246 := ht ((v 0 3) + 2)
                      refine o_bipush (k := 48) hx hb dX5_isPart_184 (by decide) ?_
                      refine o_isub (a := (v 3 ((v 0 3) + 2))) (b := 48) (k := ((v 3 ((v 0 3) + 2)) - 48)) hx hb dX5_isPart_186 (by omega) rfl ?_
                      refine o_imul (a := 10) (b := ((v 3 ((v 0 3) + 2)) - 48)) (k := (10 * ((v 3 ((v 0 3) + 2)) - 48))) hx hb dX5_isPart_187 rfl ?_
                      refine lv_aload_n hx hb dX5_isPart_188 rfl (lv_at hl 1 rfl) ?_
                      refine va_get (D := D) (ci := 5) (v := .ref (q 3)) (C := RX5) (T := TX5) (N := 10) hx hb hts inX5_isPart_X5 hown hK hP 0 rfl rfl 3 (by decide) (hts (.fieldLink RX5 16 "OddNoticeModel" "text" "[I") (List.mem_of_getElem? (i := 1) (by decide +kernel))) (fun _ h9 => h9) rfl dX5_isPart_189 ?_
                      refine lv_aload_n hx hb dX5_isPart_192 rfl (lv_at hl 1 rfl) ?_
                      refine va_get (D := D) (ci := 5) (v := .int (nI ((v 0 3) + 4))) (C := RX5) (T := TX5) (N := 10) hx hb hts inX5_isPart_X5 hown hK hP 0 rfl rfl 6 (by decide) (hts (.fieldLink RX5 89 "OddNoticeModel" "at" "I") (List.mem_of_getElem? (i := 2) (by decide +kernel))) (fun _ h9 => h9) rfl dX5_isPart_193 ?_
                      refine o_const (k := 1) hx hb dX5_isPart_196 (by decide) ?_
                      refine o_isub (a := ((v 0 3) + 4)) (b := 1) (k := ((v 0 3) + 3)) hx hb dX5_isPart_197 (by omega) (by omega) ?_
                      refine o_iald (v := nI (v 3 ((v 0 3) + 3))) hx hb hK hP 3 0 rfl rfl (by omega) (Nat.le_of_ble_eq_true rfl) rfl dX5_isPart_198 ?_
                      have f_247 := ht ((v 0 3) + 3)
                      refine o_iadd (a := (10 * ((v 3 ((v 0 3) + 2)) - 48))) (b := (v 3 ((v 0 3) + 3))) (k := (10 * ((v 3 ((v 0 3) + 2)) - 48) + (v 3 ((v 0 3) + 3)))) hx hb dX5_isPart_199 rfl ?_
                      refine o_bipush (k := 48) hx hb dX5_isPart_200 (by decide) ?_
                      refine o_isub (a := (10 * ((v 3 ((v 0 3) + 2)) - 48) + (v 3 ((v 0 3) + 3)))) (b := 48) (k := (10 * ((v 3 ((v 0 3) + 2)) - 48) + (v 3 ((v 0 3) + 3)) - 48)) hx hb dX5_isPart_202 (by omega) rfl ?_
                      refine o_iast (g := (va_up (va_up (v 4) (3 * (v 0 5)) (v 3 (v 0 3))) (3 * (v 0 5) + 1) ((v 3 ((v 0 3) + 1)) - 48))) hx hb hK hP hD hS 4 0 rfl rfl (by omega) (Nat.le_of_ble_eq_true rfl) dX5_isPart_203 (fun H locs hP hD hS => ?_)
                      have hP : va_P D vwCl (wM q cI (va_up (va_up v 0 (va_up (v 0) 3 ((v 0 3) + 4))) 4 (va_up (va_up (va_up (v 4) (3 * (v 0 5)) (v 3 (v 0 3))) (3 * (v 0 5) + 1) ((v 3 ((v 0 3) + 1)) - 48)) (3 * (v 0 5) + 2) (10 * ((v 3 ((v 0 3) + 2)) - 48) + (v 3 ((v 0 3) + 3)) - 48)))) H := hP
                      have hD : va_D A (wM q cI (va_up (va_up v 0 (va_up (v 0) 3 ((v 0 3) + 4))) 4 (va_up (va_up (va_up (v 4) (3 * (v 0 5)) (v 3 (v 0 3))) (3 * (v 0 5) + 1) ((v 3 ((v 0 3) + 1)) - 48)) (3 * (v 0 5) + 2) (10 * ((v 3 ((v 0 3) + 2)) - 48) + (v 3 ((v 0 3) + 3)) - 48)))) := hD
                      refine o_const (k := 1) hx hb dX5_isPart_204 (by decide) ?_
                      have w_248 : (wM q cI (va_up (va_up v 0 (va_up (va_up (v 0) 3 (m_pt (v 3) (v 0 1) (v 0 5) (v 0 3) (v 0 4) (v 4)).1) 4 (m_pt (v 3) (v 0 1) (v 0 5) (v 0 3) (v 0 4) (v 4)).2.1)) 4 (m_pt (v 3) (v 0 1) (v 0 5) (v 0 3) (v 0 4) (v 4)).2.2.1)) = (wM q cI (va_up (va_up v 0 (va_up (v 0) 3 ((v 0 3) + 4))) 4 (va_up (va_up (va_up (v 4) (3 * (v 0 5)) (v 3 (v 0 3))) (3 * (v 0 5) + 1) ((v 3 ((v 0 3) + 1)) - 48)) (3 * (v 0 5) + 2) (10 * ((v 3 ((v 0 3) + 2)) - 48) + (v 3 ((v 0 3) + 3)) - 48)))) := (by unfold m_pt; rw [if_pos (by omega), if_pos (by unfold m_hi; (repeat' split) <;> omega), if_pos (by omega), if_pos (by omega), if_pos (by omega)]; first | done | rfl)
                      rw [← w_248] at hP
                      exact W.zret (v := nI 1) hx hb hrt rfl (fun t ht hW => ⟨⟨_, (), rfl, (congrArg nI (by unfold m_pt; rw [if_pos (by omega), if_pos (by unfold m_hi; (repeat' split) <;> omega), if_pos (by omega), if_pos (by omega), if_pos (by omega)])), by show va_P D vwCl _ t.heap; rw [ht]; exact hP⟩, hS.F ht⟩) hS.2.2 dX5_isPart_205
                    · skip
                      rw [if_neg c_245] at hP hD
                      have hP : va_P D vwCl (wM q cI (va_up (va_up v 0 (va_up (va_up (v 0) 3 ((v 0 3) + 3)) 4 (bn (((v 0 3) + 3) < v 0 1)))) 4 (va_up (va_up (v 4) (3 * (v 0 5)) (v 3 (v 0 3))) (3 * (v 0 5) + 1) ((v 3 ((v 0 3) + 1)) - 48)))) H := hP
                      have hD : va_D A (wM q cI (va_up (va_up v 0 (va_up (va_up (v 0) 3 ((v 0 3) + 3)) 4 (bn (((v 0 3) + 3) < v 0 1)))) 4 (va_up (va_up (v 4) (3 * (v 0 5)) (v 3 (v 0 3))) (3 * (v 0 5) + 1) ((v 3 ((v 0 3) + 1)) - 48)))) := hD
                      refine o_const (k := 0) hx hb dX5_isPart_157 (by decide) ?_
                      have w_249 : (wM q cI (va_up (va_up v 0 (va_up (va_up (v 0) 3 (m_pt (v 3) (v 0 1) (v 0 5) (v 0 3) (v 0 4) (v 4)).1) 4 (m_pt (v 3) (v 0 1) (v 0 5) (v 0 3) (v 0 4) (v 4)).2.1)) 4 (m_pt (v 3) (v 0 1) (v 0 5) (v 0 3) (v 0 4) (v 4)).2.2.1)) = (wM q cI (va_up (va_up v 0 (va_up (va_up (v 0) 3 ((v 0 3) + 3)) 4 (bn (((v 0 3) + 3) < v 0 1)))) 4 (va_up (va_up (v 4) (3 * (v 0 5)) (v 3 (v 0 3))) (3 * (v 0 5) + 1) ((v 3 ((v 0 3) + 1)) - 48)))) := (by unfold m_pt; rw [if_pos (by omega), if_pos (by unfold m_hi; (repeat' split) <;> omega), if_pos (by omega), if_pos (by omega), if_neg (by omega)]; first | done | rfl)
                      rw [← w_249] at hP
                      exact W.zret (v := nI 0) hx hb hrt rfl (fun t ht hW => ⟨⟨_, (), rfl, (congrArg nI (by unfold m_pt; rw [if_pos (by omega), if_pos (by unfold m_hi; (repeat' split) <;> omega), if_pos (by omega), if_pos (by omega), if_neg (by omega)])), by show va_P D vwCl _ t.heap; rw [ht]; exact hP⟩, hS.F ht⟩) hS.2.2 dX5_isPart_158
              · skip
                rw [if_neg c_235] at hP hD
                have hP : va_P D vwCl (wM q cI (va_up v 0 (va_up (va_up (v 0) 3 ((v 0 3) + 1)) 4 (bn (((v 0 3) + 1) < v 0 1))))) H := hP
                have hD : va_D A (wM q cI (va_up v 0 (va_up (va_up (v 0) 3 ((v 0 3) + 1)) 4 (bn (((v 0 3) + 1) < v 0 1))))) := hD
                refine o_const (k := 0) hx hb dX5_isPart_92 (by decide) ?_
                have w_250 : (wM q cI (va_up (va_up v 0 (va_up (va_up (v 0) 3 (m_pt (v 3) (v 0 1) (v 0 5) (v 0 3) (v 0 4) (v 4)).1) 4 (m_pt (v 3) (v 0 1) (v 0 5) (v 0 3) (v 0 4) (v 4)).2.1)) 4 (m_pt (v 3) (v 0 1) (v 0 5) (v 0 3) (v 0 4) (v 4)).2.2.1)) = (wM q cI (va_up v 0 (va_up (va_up (v 0) 3 ((v 0 3) + 1)) 4 (bn (((v 0 3) + 1) < v 0 1))))) := (by unfold m_pt; rw [if_pos (by omega), if_neg (by unfold m_hi; (repeat' split) <;> omega)]; first | done | rfl)
                rw [← w_250] at hP
                exact W.zret (v := nI 0) hx hb hrt rfl (fun t ht hW => ⟨⟨_, (), rfl, (congrArg nI (by unfold m_pt; rw [if_pos (by omega), if_neg (by unfold m_hi; (repeat' split) <;> omega)])), by show va_P D vwCl _ t.heap; rw [ht]; exact hP⟩, hS.F ht⟩) hS.2.2 dX5_isPart_93
            · skip
              refine lv_iload_n hx hb dX5_isPart_73 rfl (lv_at hl 0 rfl) ?_
              refine o_bipush (k := 100) hx hb dX5_isPart_74 (by decide) ?_
              refine o_icmp_ne (tgt := 84) hx hb dX5_isPart_76 (by decide) (by omega) (Nat.le_of_ble_eq_true rfl) (fun c_251 => ?_) (fun c_251 => ?_)
              · skip
                refine o_bipush (k := 51) hx hb dX5_isPart_84 (by decide) ?_
                refine o_wi (va_runV (As := [.int (nI 51)]) (rest := []) ⟨hx, hb, hml, hown, hts⟩ (k_X5_isDigit l D cI cR cS cL H.size q (va_up v 0 (va_up (v 0) 3 ((v 0 3) + 1))) 51 (by show ((v 0 3) + 1) < 2 ^ 31; first | assumption | omega) (by show v 0 1 ≤ 60; first | assumption | omega) (by show ∀ k, v 3 k < 2 ^ 31; first | assumption | omega) (by show 51 < 2 ^ 31; first | assumption | omega)) (cwV 1 hts gX5_isPart_X5_isDigit rfl rfl rfl (by decide +kernel) ⟨Nat.le_of_ble_eq_true rfl, Nat.le_of_ble_eq_true rfl⟩) (o_v (o_pB hK hN hP hD) (va_recv hK hP (ci := 5) (q0 := 0) rfl rfl)) rfl rfl hl.1 rfl (lv_room (Nat.le_of_ble_eq_true rfl)) dX5_isPart_86 ⟨Nat.zero_le _, Nat.zero_le _⟩) hP hD hS hA [0, 1, 2, 3, 4] (by decide) rfl (fun _ => rfl) (fun r_253 _ H locs e_252 hP hD hS => ?_)
                have e_252 : r_253 = nI (bn (((v 0 3) + 1) < v 0 1 ∧ 48 ≤ v 3 (((v 0 3) + 1)) ∧ v 3 (((v 0 3) + 1)) ≤ 51)) := e_252
                subst e_252
                have hP : va_P D vwCl (wM q cI (va_up v 0 (if ((v 0 3) + 1) < v 0 1 ∧ 48 ≤ v 3 (((v 0 3) + 1)) ∧ v 3 (((v 0 3) + 1)) ≤ 51 then (va_up (va_up (v 0) 3 ((v 0 3) + 1)) 3 ((v 0 3) + 2)) else (va_up (va_up (v 0) 3 ((v 0 3) + 1)) 4 (bn (((v 0 3) + 1) < v 0 1)))))) H := hP
                have hD : va_D A (wM q cI (va_up v 0 (if ((v 0 3) + 1) < v 0 1 ∧ 48 ≤ v 3 (((v 0 3) + 1)) ∧ v 3 (((v 0 3) + 1)) ≤ 51 then (va_up (va_up (v 0) 3 ((v 0 3) + 1)) 3 ((v 0 3) + 2)) else (va_up (va_up (v 0) 3 ((v 0 3) + 1)) 4 (bn (((v 0 3) + 1) < v 0 1)))))) := hD
                refine o_ifnz (tgt := 94) hx hb dX5_isPart_89 (by decide) (fun c_254 => ?_) (fun c_254 => ?_)
                · skip
                  rw [if_pos c_254] at hP hD
                  have hP : va_P D vwCl (wM q cI (va_up v 0 (va_up (v 0) 3 ((v 0 3) + 2)))) H := hP
                  have hD : va_D A (wM q cI (va_up v 0 (va_up (v 0) 3 ((v 0 3) + 2)))) := hD
                  refine lv_aload_n hx hb dX5_isPart_94 rfl (lv_at hl 1 rfl) ?_
                  refine va_get (D := D) (ci := 5) (v := .ref (q 4)) (C := RX5) (T := TX5) (N := 10) hx hb hts inX5_isPart_X5 hown hK hP 0 rfl rfl 8 (by decide) (hts (.fieldLink RX5 19 "OddNoticeModel" "told" "[I") (List.mem_of_getElem? (i := 3) (by decide +kernel))) (fun _ h9 => h9) rfl dX5_isPart_95 ?_
                  refine o_const (k := 3) hx hb dX5_isPart_98 (by decide) ?_
                  refine lv_aload_n hx hb dX5_isPart_99 rfl (lv_at hl 1 rfl) ?_
                  refine va_get (D := D) (ci := 5) (v := .int (nI (v 0 5))) (C := RX5) (T := TX5) (N := 10) hx hb hts inX5_isPart_X5 hown hK hP 0 rfl rfl 9 (by decide) (hts (.fieldLink RX5 106 "OddNoticeModel" "tolds" "I") (List.mem_of_getElem? (i := 4) (by decide +kernel))) (fun _ h9 => h9) rfl dX5_isPart_100 ?_
                  refine o_imul (a := 3) (b := (v 0 5)) (k := (3 * (v 0 5))) hx hb dX5_isPart_103 rfl ?_
                  refine lv_iload_n hx hb dX5_isPart_104 rfl (lv_at hl 0 rfl) ?_
                  refine o_iast (g := (v 4)) hx hb hK hP hD hS 4 0 rfl rfl (by omega) (Nat.le_of_ble_eq_true rfl) dX5_isPart_105 (fun H locs hP hD hS => ?_)
                  have hP : va_P D vwCl (wM q cI (va_up (va_up v 0 (va_up (v 0) 3 ((v 0 3) + 2))) 4 (va_up (v 4) (3 * (v 0 5)) (v 3 (v 0 3))))) H := hP
                  have hD : va_D A (wM q cI (va_up (va_up v 0 (va_up (v 0) 3 ((v 0 3) + 2))) 4 (va_up (v 4) (3 * (v 0 5)) (v 3 (v 0 3))))) := hD
                  refine lv_aload_n hx hb dX5_isPart_106 rfl (lv_at hl 1 rfl) ?_
                  refine va_get (D := D) (ci := 5) (v := .ref (q 4)) (C := RX5) (T := TX5) (N := 10) hx hb hts inX5_isPart_X5 hown hK hP 0 rfl rfl 8 (by decide) (hts (.fieldLink RX5 19 "OddNoticeModel" "told" "[I") (List.mem_of_getElem? (i := 3) (by decide +kernel))) (fun _ h9 => h9) rfl dX5_isPart_107 ?_
                  refine o_const (k := 3) hx hb dX5_isPart_110 (by decide) ?_
                  refine lv_aload_n hx hb dX5_isPart_111 rfl (lv_at hl 1 rfl) ?_
                  refine va_get (D := D) (ci := 5) (v := .int (nI (v 0 5))) (C := RX5) (T := TX5) (N := 10) hx hb hts inX5_isPart_X5 hown hK hP 0 rfl rfl 9 (by decide) (hts (.fieldLink RX5 106 "OddNoticeModel" "tolds" "I") (List.mem_of_getElem? (i := 4) (by decide +kernel))) (fun _ h9 => h9) rfl dX5_isPart_112 ?_
                  refine o_imul (a := 3) (b := (v 0 5)) (k := (3 * (v 0 5))) hx hb dX5_isPart_115 rfl ?_
                  refine o_const (k := 1) hx hb dX5_isPart_116 (by decide) ?_
                  refine o_iadd (a := (3 * (v 0 5))) (b := 1) (k := (3 * (v 0 5) + 1)) hx hb dX5_isPart_117 rfl ?_
                  refine lv_aload_n hx hb dX5_isPart_118 rfl (lv_at hl 1 rfl) ?_
                  refine va_get (D := D) (ci := 5) (v := .ref (q 3)) (C := RX5) (T := TX5) (N := 10) hx hb hts inX5_isPart_X5 hown hK hP 0 rfl rfl 3 (by decide) (hts (.fieldLink RX5 16 "OddNoticeModel" "text" "[I") (List.mem_of_getElem? (i := 1) (by decide +kernel))) (fun _ h9 => h9) rfl dX5_isPart_119 ?_
                  refine lv_aload_n hx hb dX5_isPart_122 rfl (lv_at hl 1 rfl) ?_
                  refine va_get (D := D) (ci := 5) (v := .int (nI ((v 0 3) + 2))) (C := RX5) (T := TX5) (N := 10) hx hb hts inX5_isPart_X5 hown hK hP 0 rfl rfl 6 (by decide) (hts (.fieldLink RX5 89 "OddNoticeModel" "at" "I") (List.mem_of_getElem? (i := 2) (by decide +kernel))) (fun _ h9 => h9) rfl dX5_isPart_123 ?_
                  refine o_const (k := 1) hx hb dX5_isPart_126 (by decide) ?_
                  refine o_isub (a := ((v 0 3) + 2)) (b := 1) (k := ((v 0 3) + 1)) hx hb dX5_isPart_127 (by omega) (by omega) ?_
                  refine o_iald (v := nI (v 3 ((v 0 3) + 1))) hx hb hK hP 3 0 rfl rfl (by omega) (Nat.le_of_ble_eq_true rfl) rfl dX5_isPart_128 ?_
                  have f_255 := ht ((v 0 3) + 1)
                  refine o_bipush (k := 48) hx hb dX5_isPart_129 (by decide) ?_
                  refine o_isub (a := (v 3 ((v 0 3) + 1))) (b := 48) (k := ((v 3 ((v 0 3) + 1)) - 48)) hx hb dX5_isPart_131 (by omega) rfl ?_
                  refine o_iast (g := (va_up (v 4) (3 * (v 0 5)) (v 3 (v 0 3)))) hx hb hK hP hD hS 4 0 rfl rfl (by omega) (Nat.le_of_ble_eq_true rfl) dX5_isPart_132 (fun H locs hP hD hS => ?_)
                  have hP : va_P D vwCl (wM q cI (va_up (va_up v 0 (va_up (v 0) 3 ((v 0 3) + 2))) 4 (va_up (va_up (v 4) (3 * (v 0 5)) (v 3 (v 0 3))) (3 * (v 0 5) + 1) ((v 3 ((v 0 3) + 1)) - 48)))) H := hP
                  have hD : va_D A (wM q cI (va_up (va_up v 0 (va_up (v 0) 3 ((v 0 3) + 2))) 4 (va_up (va_up (v 4) (3 * (v 0 5)) (v 3 (v 0 3))) (3 * (v 0 5) + 1) ((v 3 ((v 0 3) + 1)) - 48)))) := hD
                  refine lv_iload_n hx hb dX5_isPart_133 rfl (lv_at hl 0 rfl) ?_
                  refine o_bipush (k := 119) hx hb dX5_isPart_134 (by decide) ?_
                  refine o_icmp_ne (tgt := 204) hx hb dX5_isPart_136 (by decide) (by omega) (Nat.le_of_ble_eq_true rfl) (fun c_256 => ?_) (fun c_256 => ?_)
                  · skip
                    refine o_const (k := 1) hx hb dX5_isPart_204 (by decide) ?_
                    have w_257 : (wM q cI (va_up (va_up v 0 (va_up (va_up (v 0) 3 (m_pt (v 3) (v 0 1) (v 0 5) (v 0 3) (v 0 4) (v 4)).1) 4 (m_pt (v 3) (v 0 1) (v 0 5) (v 0 3) (v 0 4) (v 4)).2.1)) 4 (m_pt (v 3) (v 0 1) (v 0 5) (v 0 3) (v 0 4) (v 4)).2.2.1)) = (wM q cI (va_up (va_up v 0 (va_up (v 0) 3 ((v 0 3) + 2))) 4 (va_up (va_up (v 4) (3 * (v 0 5)) (v 3 (v 0 3))) (3 * (v 0 5) + 1) ((v 3 ((v 0 3) + 1)) - 48)))) := (by unfold m_pt; rw [if_pos (by omega), if_pos (by unfold m_hi; (repeat' split) <;> omega), if_neg (by omega)]; first | done | rfl)
                    rw [← w_257] at hP
                    exact W.zret (v := nI 1) hx hb hrt rfl (fun t ht hW => ⟨⟨_, (), rfl, (congrArg nI (by unfold m_pt; rw [if_pos (by omega), if_pos (by unfold m_hi; (repeat' split) <;> omega), if_neg (by omega)])), by show va_P D vwCl _ t.heap; rw [ht]; exact hP⟩, hS.F ht⟩) hS.2.2 dX5_isPart_205
                  · skip
                    refine lv_aload_n hx hb dX5_isPart_139 rfl (lv_at hl 1 rfl) ?_
                    refine o_bipush (k := 57) hx hb dX5_isPart_140 (by decide) ?_
                    refine o_wi (va_runV (As := [.int (nI 57)]) (rest := []) ⟨hx, hb, hml, hown, hts⟩ (k_X5_isDigit l D cI cR cS cL H.size q (va_up (va_up v 0 (va_up (v 0) 3 ((v 0 3) + 2))) 4 (va_up (va_up (v 4) (3 * (v 0 5)) (v 3 (v 0 3))) (3 * (v 0 5) + 1) ((v 3 ((v 0 3) + 1)) - 48))) 57 (by show ((v 0 3) + 2) < 2 ^ 31; first | assumption | omega) (by show v 0 1 ≤ 60; first | assumption | omega) (by show ∀ k, v 3 k < 2 ^ 31; first | assumption | omega) (by show 57 < 2 ^ 31; first | assumption | omega)) (cwV 1 hts gX5_isPart_X5_isDigit rfl rfl rfl (by decide +kernel) ⟨Nat.le_of_ble_eq_true rfl, Nat.le_of_ble_eq_true rfl⟩) (o_v (o_pB hK hN hP hD) (va_recv hK hP (ci := 5) (q0 := 0) rfl rfl)) rfl rfl hl.1 rfl (lv_room (Nat.le_of_ble_eq_true rfl)) dX5_isPart_142 ⟨Nat.zero_le _, Nat.zero_le _⟩) hP hD hS hA [0, 1, 2, 3, 4] (by decide) rfl (fun _ => rfl) (fun r_259 _ H locs e_258 hP hD hS => ?_)
                    have e_258 : r_259 = nI (bn (((v 0 3) + 2) < v 0 1 ∧ 48 ≤ v 3 (((v 0 3) + 2)) ∧ v 3 (((v 0 3) + 2)) ≤ 57)) := e_258
                    subst e_258
                    have hP : va_P D vwCl (wM q cI (va_up (va_up v 0 (if ((v 0 3) + 2) < v 0 1 ∧ 48 ≤ v 3 (((v 0 3) + 2)) ∧ v 3 (((v 0 3) + 2)) ≤ 57 then (va_up (va_up (v 0) 3 ((v 0 3) + 2)) 3 ((v 0 3) + 3)) else (va_up (va_up (v 0) 3 ((v 0 3) + 2)) 4 (bn (((v 0 3) + 2) < v 0 1))))) 4 (va_up (va_up (v 4) (3 * (v 0 5)) (v 3 (v 0 3))) (3 * (v 0 5) + 1) ((v 3 ((v 0 3) + 1)) - 48)))) H := hP
                    have hD : va_D A (wM q cI (va_up (va_up v 0 (if ((v 0 3) + 2) < v 0 1 ∧ 48 ≤ v 3 (((v 0 3) + 2)) ∧ v 3 (((v 0 3) + 2)) ≤ 57 then (va_up (va_up (v 0) 3 ((v 0 3) + 2)) 3 ((v 0 3) + 3)) else (va_up (va_up (v 0) 3 ((v 0 3) + 2)) 4 (bn (((v 0 3) + 2) < v 0 1))))) 4 (va_up (va_up (v 4) (3 * (v 0 5)) (v 3 (v 0 3))) (3 * (v 0 5) + 1) ((v 3 ((v 0 3) + 1)) - 48)))) := hD
                    refine o_ifz (tgt := 157) hx hb dX5_isPart_145 (by decide) (fun c_260 => ?_) (fun c_260 => ?_)
                    · skip
                      rw [if_neg c_260] at hP hD
                      have hP : va_P D vwCl (wM q cI (va_up (va_up v 0 (va_up (va_up (v 0) 3 ((v 0 3) + 2)) 4 (bn (((v 0 3) + 2) < v 0 1)))) 4 (va_up (va_up (v 4) (3 * (v 0 5)) (v 3 (v 0 3))) (3 * (v 0 5) + 1) ((v 3 ((v 0 3) + 1)) - 48)))) H := hP
                      have hD : va_D A (wM q cI (va_up (va_up v 0 (va_up (va_up (v 0) 3 ((v 0 3) + 2)) 4 (bn (((v 0 3) + 2) < v 0 1)))) 4 (va_up (va_up (v 4) (3 * (v 0 5)) (v 3 (v 0 3))) (3 * (v 0 5) + 1) ((v 3 ((v 0 3) + 1)) - 48)))) := hD
                      refine o_const (k := 0) hx hb dX5_isPart_157 (by decide) ?_
                      have w_261 : (wM q cI (va_up (va_up v 0 (va_up (va_up (v 0) 3 (m_pt (v 3) (v 0 1) (v 0 5) (v 0 3) (v 0 4) (v 4)).1) 4 (m_pt (v 3) (v 0 1) (v 0 5) (v 0 3) (v 0 4) (v 4)).2.1)) 4 (m_pt (v 3) (v 0 1) (v 0 5) (v 0 3) (v 0 4) (v 4)).2.2.1)) = (wM q cI (va_up (va_up v 0 (va_up (va_up (v 0) 3 ((v 0 3) + 2)) 4 (bn (((v 0 3) + 2) < v 0 1)))) 4 (va_up (va_up (v 4) (3 * (v 0 5)) (v 3 (v 0 3))) (3 * (v 0 5) + 1) ((v 3 ((v 0 3) + 1)) - 48)))) := (by unfold m_pt; rw [if_pos (by omega), if_pos (by unfold m_hi; (repeat' split) <;> omega), if_pos (by omega), if_neg (by omega)]; first | done | rfl)
                      rw [← w_261] at hP
                      exact W.zret (v := nI 0) hx hb hrt rfl (fun t ht hW => ⟨⟨_, (), rfl, (congrArg nI (by unfold m_pt; rw [if_pos (by omega), if_pos (by unfold m_hi; (repeat' split) <;> omega), if_pos (by omega), if_neg (by omega)])), by show va_P D vwCl _ t.heap; rw [ht]; exact hP⟩, hS.F ht⟩) hS.2.2 dX5_isPart_158
                    · skip
                      rw [if_pos c_260] at hP hD
                      have hP : va_P D vwCl (wM q cI (va_up (va_up v 0 (va_up (v 0) 3 ((v 0 3) + 3))) 4 (va_up (va_up (v 4) (3 * (v 0 5)) (v 3 (v 0 3))) (3 * (v 0 5) + 1) ((v 3 ((v 0 3) + 1)) - 48)))) H := hP
                      have hD : va_D A (wM q cI (va_up (va_up v 0 (va_up (v 0) 3 ((v 0 3) + 3))) 4 (va_up (va_up (v 4) (3 * (v 0 5)) (v 3 (v 0 3))) (3 * (v 0 5) + 1) ((v 3 ((v 0 3) + 1)) - 48)))) := hD
                      refine lv_aload_n hx hb dX5_isPart_148 rfl (lv_at hl 1 rfl) ?_
                      refine o_bipush (k := 57) hx hb dX5_isPart_149 (by decide) ?_
                      refine o_wi (va_runV (As := [.int (nI 57)]) (rest := []) ⟨hx, hb, hml, hown, hts⟩ (k_X5_isDigit l D cI cR cS cL H.size q (va_up (va_up v 0 (va_up (v 0) 3 ((v 0 3) + 3))) 4 (va_up (va_up (v 4) (3 * (v 0 5)) (v 3 (v 0 3))) (3 * (v 0 5) + 1) ((v 3 ((v 0 3) + 1)) - 48))) 57 (by show ((v 0 3) + 3) < 2 ^ 31; first | assumption | omega) (by show v 0 1 ≤ 60; first | assumption | omega) (by show ∀ k, v 3 k < 2 ^ 31; first | assumption | omega) (by show 57 < 2 ^ 31; first | assumption | omega)) (cwV 1 hts gX5_isPart_X5_isDigit rfl rfl rfl (by decide +kernel) ⟨Nat.le_of_ble_eq_true rfl, Nat.le_of_ble_eq_true rfl⟩) (o_v (o_pB hK hN hP hD) (va_recv hK hP (ci := 5) (q0 := 0) rfl rfl)) rfl rfl hl.1 rfl (lv_room (Nat.le_of_ble_eq_true rfl)) dX5_isPart_151 ⟨Nat.zero_le _, Nat.zero_le _⟩) hP hD hS hA [0, 1, 2, 3, 4] (by decide) rfl (fun _ => rfl) (fun r_263 _ H locs e_262 hP hD hS => ?_)
                      have e_262 : r_263 = nI (bn (((v 0 3) + 3) < v 0 1 ∧ 48 ≤ v 3 (((v 0 3) + 3)) ∧ v 3 (((v 0 3) + 3)) ≤ 57)) := e_262
                      subst e_262
                      have hP : va_P D vwCl (wM q cI (va_up (va_up v 0 (if ((v 0 3) + 3) < v 0 1 ∧ 48 ≤ v 3 (((v 0 3) + 3)) ∧ v 3 (((v 0 3) + 3)) ≤ 57 then (va_up (va_up (v 0) 3 ((v 0 3) + 3)) 3 ((v 0 3) + 4)) else (va_up (va_up (v 0) 3 ((v 0 3) + 3)) 4 (bn (((v 0 3) + 3) < v 0 1))))) 4 (va_up (va_up (v 4) (3 * (v 0 5)) (v 3 (v 0 3))) (3 * (v 0 5) + 1) ((v 3 ((v 0 3) + 1)) - 48)))) H := hP
                      have hD : va_D A (wM q cI (va_up (va_up v 0 (if ((v 0 3) + 3) < v 0 1 ∧ 48 ≤ v 3 (((v 0 3) + 3)) ∧ v 3 (((v 0 3) + 3)) ≤ 57 then (va_up (va_up (v 0) 3 ((v 0 3) + 3)) 3 ((v 0 3) + 4)) else (va_up (va_up (v 0) 3 ((v 0 3) + 3)) 4 (bn (((v 0 3) + 3) < v 0 1))))) 4 (va_up (va_up (v 4) (3 * (v 0 5)) (v 3 (v 0 3))) (3 * (v 0 5) + 1) ((v 3 ((v 0 3) + 1)) - 48)))) := hD
                      refine o_ifnz (tgt := 159) hx hb dX5_isPart_154 (by decide) (fun c_264 => ?_) (fun c_264 => ?_)
                      · skip
                        rw [if_pos c_264] at hP hD
                        have hP : va_P D vwCl (wM q cI (va_up (va_up v 0 (va_up (v 0) 3 ((v 0 3) + 4))) 4 (va_up (va_up (v 4) (3 * (v 0 5)) (v 3 (v 0 3))) (3 * (v 0 5) + 1) ((v 3 ((v 0 3) + 1)) - 48)))) H := hP
                        have hD : va_D A (wM q cI (va_up (va_up v 0 (va_up (v 0) 3 ((v 0 3) + 4))) 4 (va_up (va_up (v 4) (3 * (v 0 5)) (v 3 (v 0 3))) (3 * (v 0 5) + 1) ((v 3 ((v 0 3) + 1)) - 48)))) := hD
                        refine lv_aload_n hx hb dX5_isPart_159 rfl (lv_at hl 1 rfl) ?_
                        refine va_get (D := D) (ci := 5) (v := .ref (q 4)) (C := RX5) (T := TX5) (N := 10) hx hb hts inX5_isPart_X5 hown hK hP 0 rfl rfl 8 (by decide) (hts (.fieldLink RX5 19 "OddNoticeModel" "told" "[I") (List.mem_of_getElem? (i := 3) (by decide +kernel))) (fun _ h9 => h9) rfl dX5_isPart_160 ?_
                        refine o_const (k := 3) hx hb dX5_isPart_163 (by decide) ?_
                        refine lv_aload_n hx hb dX5_isPart_164 rfl (lv_at hl 1 rfl) ?_
                        refine va_get (D := D) (ci := 5) (v := .int (nI (v 0 5))) (C := RX5) (T := TX5) (N := 10) hx hb hts inX5_isPart_X5 hown hK hP 0 rfl rfl 9 (by decide) (hts (.fieldLink RX5 106 "OddNoticeModel" "tolds" "I") (List.mem_of_getElem? (i := 4) (by decide +kernel))) (fun _ h9 => h9) rfl dX5_isPart_165 ?_
                        refine o_imul (a := 3) (b := (v 0 5)) (k := (3 * (v 0 5))) hx hb dX5_isPart_168 rfl ?_
                        refine o_const (k := 2) hx hb dX5_isPart_169 (by decide) ?_
                        refine o_iadd (a := (3 * (v 0 5))) (b := 2) (k := (3 * (v 0 5) + 2)) hx hb dX5_isPart_170 rfl ?_
                        refine o_bipush (k := 10) hx hb dX5_isPart_171 (by decide) ?_
                        refine lv_aload_n hx hb dX5_isPart_173 rfl (lv_at hl 1 rfl) ?_
                        refine va_get (D := D) (ci := 5) (v := .ref (q 3)) (C := RX5) (T := TX5) (N := 10) hx hb hts inX5_isPart_X5 hown hK hP 0 rfl rfl 3 (by decide) (hts (.fieldLink RX5 16 "OddNoticeModel" "text" "[I") (List.mem_of_getElem? (i := 1) (by decide +kernel))) (fun _ h9 => h9) rfl dX5_isPart_174 ?_
                        refine lv_aload_n hx hb dX5_isPart_177 rfl (lv_at hl 1 rfl) ?_
                        refine va_get (D := D) (ci := 5) (v := .int (nI ((v 0 3) + 4))) (C := RX5) (T := TX5) (N := 10) hx hb hts inX5_isPart_X5 hown hK hP 0 rfl rfl 6 (by decide) (hts (.fieldLink RX5 89 "OddNoticeModel" "at" "I") (List.mem_of_getElem? (i := 2) (by decide +kernel))) (fun _ h9 => h9) rfl dX5_isPart_178 ?_
                        refine o_const (k := 2) hx hb dX5_isPart_181 (by decide) ?_
                        refine o_isub (a := ((v 0 3) + 4)) (b := 2) (k := ((v 0 3) + 2)) hx hb dX5_isPart_182 (by omega) (by omega) ?_
                        refine o_iald (v := nI (v 3 ((v 0 3) + 2))) hx hb hK hP 3 0 rfl rfl (by omega) (Nat.le_of_ble_eq_true rfl) rfl dX5_isPart_183 ?_
                        have f_265 := ht ((v 0 3) + 2)
                        refine o_bipush (k := 48) hx hb dX5_isPart_184 (by decide) ?_
                        refine o_isub (a := (v 3 ((v 0 3) + 2))) (b := 48) (k := ((v 3 ((v 0 3) + 2)) - 48)) hx hb dX5_isPart_186 (by omega) rfl ?_
                        refine o_imul (a := 10) (b := ((v 3 ((v 0 3) + 2)) - 48)) (k := (10 * ((v 3 ((v 0 3) + 2)) - 48))) hx hb dX5_isPart_187 rfl ?_
                        refine lv_aload_n hx hb dX5_isPart_188 rfl (lv_at hl 1 rfl) ?_
                        refine va_get (D := D) (ci := 5) (v := .ref (q 3)) (C := RX5) (T := TX5) (N := 10) hx hb hts inX5_isPart_X5 hown hK hP 0 rfl rfl 3 (by decide) (hts (.fieldLink RX5 16 "OddNoticeModel" "text" "[I") (List.mem_of_getElem? (i := 1) (by decide +kernel))) (fun _ h9 => h9) rfl dX5_isPart_189 ?_
                        refine lv_aload_n hx hb dX5_isPart_192 rfl (lv_at hl 1 rfl) ?_
                        refine va_get (D := D) (ci := 5) (v := .int (nI ((v 0 3) + 4))) (C := RX5) (T := TX5) (N := 10) hx hb hts inX5_isPart_X5 hown hK hP 0 rfl rfl 6 (by decide) (hts (.fieldLink RX5 89 "OddNoticeModel" "at" "I") (List.mem_of_getElem? (i := 2) (by decide +kernel))) (fun _ h9 => h9) rfl dX5_isPart_193 ?_
                        refine o_const (k := 1) hx hb dX5_isPart_196 (by decide) ?_
                        refine o_isub (a := ((v 0 3) + 4)) (b := 1) (k := ((v 0 3) + 3)) hx hb dX5_isPart_197 (by omega) (by omega) ?_
                        refine o_iald (v := nI (v 3 ((v 0 3) + 3))) hx hb hK hP 3 0 rfl rfl (by omega) (Nat.le_of_ble_eq_true rfl) rfl dX5_isPart_198 ?_
                        have f_266 := ht ((v 0 3) + 3)
                        refine o_iadd (a := (10 * ((v 3 ((v 0 3) + 2)) - 48))) (b := (v 3 ((v 0 3) + 3))) (k := (10 * ((v 3 ((v 0 3) + 2)) - 48) + (v 3 ((v 0 3) + 3)))) hx hb dX5_isPart_199 rfl ?_
                        refine o_bipush (k := 48) hx hb dX5_isPart_200 (by decide) ?_
                        refine o_isub (a := (10 * ((v 3 ((v 0 3) + 2)) - 48) + (v 3 ((v 0 3) + 3)))) (b := 48) (k := (10 * ((v 3 ((v 0 3) + 2)) - 48) + (v 3 ((v 0 3) + 3)) - 48)) hx hb dX5_isPart_202 (by omega) rfl ?_
                        refine o_iast (g := (va_up (va_up (v 4) (3 * (v 0 5)) (v 3 (v 0 3))) (3 * (v 0 5) + 1) ((v 3 ((v 0 3) + 1)) - 48))) hx hb hK hP hD hS 4 0 rfl rfl (by omega) (Nat.le_of_ble_eq_true rfl) dX5_isPart_203 (fun H locs hP hD hS => ?_)
                        have hP : va_P D vwCl (wM q cI (va_up (va_up v 0 (va_up (v 0) 3 ((v 0 3) + 4))) 4 (va_up (va_up (va_up (v 4) (3 * (v 0 5)) (v 3 (v 0 3))) (3 * (v 0 5) + 1) ((v 3 ((v 0 3) + 1)) - 48)) (3 * (v 0 5) + 2) (10 * ((v 3 ((v 0 3) + 2)) - 48) + (v 3 ((v 0 3) + 3)) - 48)))) H := hP
                        have hD : va_D A (wM q cI (va_up (va_up v 0 (va_up (v 0) 3 ((v 0 3) + 4))) 4 (va_up (va_up (va_up (v 4) (3 * (v 0 5)) (v 3 (v 0 3))) (3 * (v 0 5) + 1) ((v 3 ((v 0 3) + 1)) - 48)) (3 * (v 0 5) + 2) (10 * ((v 3 ((v 0 3) + 2)) - 48) + (v 3 ((v 0 3) + 3)) - 48)))) := hD
                        refine o_const (k := 1) hx hb dX5_isPart_204 (by decide) ?_
                        have w_267 : (wM q cI (va_up (va_up v 0 (va_up (va_up (v 0) 3 (m_pt (v 3) (v 0 1) (v 0 5) (v 0 3) (v 0 4) (v 4)).1) 4 (m_pt (v 3) (v 0 1) (v 0 5) (v 0 3) (v 0 4) (v 4)).2.1)) 4 (m_pt (v 3) (v 0 1) (v 0 5) (v 0 3) (v 0 4) (v 4)).2.2.1)) = (wM q cI (va_up (va_up v 0 (va_up (v 0) 3 ((v 0 3) + 4))) 4 (va_up (va_up (va_up (v 4) (3 * (v 0 5)) (v 3 (v 0 3))) (3 * (v 0 5) + 1) ((v 3 ((v 0 3) + 1)) - 48)) (3 * (v 0 5) + 2) (10 * ((v 3 ((v 0 3) + 2)) - 48) + (v 3 ((v 0 3) + 3)) - 48)))) := (by unfold m_pt; rw [if_pos (by omega), if_pos (by unfold m_hi; (repeat' split) <;> omega), if_pos (by omega), if_pos (by omega), if_pos (by omega)]; first | done | rfl)
                        rw [← w_267] at hP
                        exact W.zret (v := nI 1) hx hb hrt rfl (fun t ht hW => ⟨⟨_, (), rfl, (congrArg nI (by unfold m_pt; rw [if_pos (by omega), if_pos (by unfold m_hi; (repeat' split) <;> omega), if_pos (by omega), if_pos (by omega), if_pos (by omega)])), by show va_P D vwCl _ t.heap; rw [ht]; exact hP⟩, hS.F ht⟩) hS.2.2 dX5_isPart_205
                      · skip
                        rw [if_neg c_264] at hP hD
                        have hP : va_P D vwCl (wM q cI (va_up (va_up v 0 (va_up (va_up (v 0) 3 ((v 0 3) + 3)) 4 (bn (((v 0 3) + 3) < v 0 1)))) 4 (va_up (va_up (v 4) (3 * (v 0 5)) (v 3 (v 0 3))) (3 * (v 0 5) + 1) ((v 3 ((v 0 3) + 1)) - 48)))) H := hP
                        have hD : va_D A (wM q cI (va_up (va_up v 0 (va_up (va_up (v 0) 3 ((v 0 3) + 3)) 4 (bn (((v 0 3) + 3) < v 0 1)))) 4 (va_up (va_up (v 4) (3 * (v 0 5)) (v 3 (v 0 3))) (3 * (v 0 5) + 1) ((v 3 ((v 0 3) + 1)) - 48)))) := hD
                        refine o_const (k := 0) hx hb dX5_isPart_157 (by decide) ?_
                        have w_268 : (wM q cI (va_up (va_up v 0 (va_up (va_up (v 0) 3 (m_pt (v 3) (v 0 1) (v 0 5) (v 0 3) (v 0 4) (v 4)).1) 4 (m_pt (v 3) (v 0 1) (v 0 5) (v 0 3) (v 0 4) (v 4)).2.1)) 4 (m_pt (v 3) (v 0 1) (v 0 5) (v 0 3) (v 0 4) (v 4)).2.2.1)) = (wM q cI (va_up (va_up v 0 (va_up (va_up (v 0) 3 ((v 0 3) + 3)) 4 (bn (((v 0 3) + 3) < v 0 1)))) 4 (va_up (va_up (v 4) (3 * (v 0 5)) (v 3 (v 0 3))) (3 * (v 0 5) + 1) ((v 3 ((v 0 3) + 1)) - 48)))) := (by unfold m_pt; rw [if_pos (by omega), if_pos (by unfold m_hi; (repeat' split) <;> omega), if_pos (by omega), if_pos (by omega), if_neg (by omega)]; first | done | rfl)
                        rw [← w_268] at hP
                        exact W.zret (v := nI 0) hx hb hrt rfl (fun t ht hW => ⟨⟨_, (), rfl, (congrArg nI (by unfold m_pt; rw [if_pos (by omega), if_pos (by unfold m_hi; (repeat' split) <;> omega), if_pos (by omega), if_pos (by omega), if_neg (by omega)])), by show va_P D vwCl _ t.heap; rw [ht]; exact hP⟩, hS.F ht⟩) hS.2.2 dX5_isPart_158
                · skip
                  rw [if_neg c_254] at hP hD
                  have hP : va_P D vwCl (wM q cI (va_up v 0 (va_up (va_up (v 0) 3 ((v 0 3) + 1)) 4 (bn (((v 0 3) + 1) < v 0 1))))) H := hP
                  have hD : va_D A (wM q cI (va_up v 0 (va_up (va_up (v 0) 3 ((v 0 3) + 1)) 4 (bn (((v 0 3) + 1) < v 0 1))))) := hD
                  refine o_const (k := 0) hx hb dX5_isPart_92 (by decide) ?_
                  have w_269 : (wM q cI (va_up (va_up v 0 (va_up (va_up (v 0) 3 (m_pt (v 3) (v 0 1) (v 0 5) (v 0 3) (v 0 4) (v 4)).1) 4 (m_pt (v 3) (v 0 1) (v 0 5) (v 0 3) (v 0 4) (v 4)).2.1)) 4 (m_pt (v 3) (v 0 1) (v 0 5) (v 0 3) (v 0 4) (v 4)).2.2.1)) = (wM q cI (va_up v 0 (va_up (va_up (v 0) 3 ((v 0 3) + 1)) 4 (bn (((v 0 3) + 1) < v 0 1))))) := (by unfold m_pt; rw [if_pos (by omega), if_neg (by unfold m_hi; (repeat' split) <;> omega)]; first | done | rfl)
                  rw [← w_269] at hP
                  exact W.zret (v := nI 0) hx hb hrt rfl (fun t ht hW => ⟨⟨_, (), rfl, (congrArg nI (by unfold m_pt; rw [if_pos (by omega), if_neg (by unfold m_hi; (repeat' split) <;> omega)])), by show va_P D vwCl _ t.heap; rw [ht]; exact hP⟩, hS.F ht⟩) hS.2.2 dX5_isPart_93
              · skip
                refine o_bipush (k := 50) hx hb dX5_isPart_79 (by decide) ?_
                refine lv_goto (tgt := 86) hx hb dX5_isPart_81 (by decide) ?_
                refine o_wi (va_runV (As := [.int (nI 50)]) (rest := []) ⟨hx, hb, hml, hown, hts⟩ (k_X5_isDigit l D cI cR cS cL H.size q (va_up v 0 (va_up (v 0) 3 ((v 0 3) + 1))) 50 (by show ((v 0 3) + 1) < 2 ^ 31; first | assumption | omega) (by show v 0 1 ≤ 60; first | assumption | omega) (by show ∀ k, v 3 k < 2 ^ 31; first | assumption | omega) (by show 50 < 2 ^ 31; first | assumption | omega)) (cwV 1 hts gX5_isPart_X5_isDigit rfl rfl rfl (by decide +kernel) ⟨Nat.le_of_ble_eq_true rfl, Nat.le_of_ble_eq_true rfl⟩) (o_v (o_pB hK hN hP hD) (va_recv hK hP (ci := 5) (q0 := 0) rfl rfl)) rfl rfl hl.1 rfl (lv_room (Nat.le_of_ble_eq_true rfl)) dX5_isPart_86 ⟨Nat.zero_le _, Nat.zero_le _⟩) hP hD hS hA [0, 1, 2, 3, 4] (by decide) rfl (fun _ => rfl) (fun r_271 _ H locs e_270 hP hD hS => ?_)
                have e_270 : r_271 = nI (bn (((v 0 3) + 1) < v 0 1 ∧ 48 ≤ v 3 (((v 0 3) + 1)) ∧ v 3 (((v 0 3) + 1)) ≤ 50)) := e_270
                subst e_270
                have hP : va_P D vwCl (wM q cI (va_up v 0 (if ((v 0 3) + 1) < v 0 1 ∧ 48 ≤ v 3 (((v 0 3) + 1)) ∧ v 3 (((v 0 3) + 1)) ≤ 50 then (va_up (va_up (v 0) 3 ((v 0 3) + 1)) 3 ((v 0 3) + 2)) else (va_up (va_up (v 0) 3 ((v 0 3) + 1)) 4 (bn (((v 0 3) + 1) < v 0 1)))))) H := hP
                have hD : va_D A (wM q cI (va_up v 0 (if ((v 0 3) + 1) < v 0 1 ∧ 48 ≤ v 3 (((v 0 3) + 1)) ∧ v 3 (((v 0 3) + 1)) ≤ 50 then (va_up (va_up (v 0) 3 ((v 0 3) + 1)) 3 ((v 0 3) + 2)) else (va_up (va_up (v 0) 3 ((v 0 3) + 1)) 4 (bn (((v 0 3) + 1) < v 0 1)))))) := hD
                refine o_ifnz (tgt := 94) hx hb dX5_isPart_89 (by decide) (fun c_272 => ?_) (fun c_272 => ?_)
                · skip
                  rw [if_pos c_272] at hP hD
                  have hP : va_P D vwCl (wM q cI (va_up v 0 (va_up (v 0) 3 ((v 0 3) + 2)))) H := hP
                  have hD : va_D A (wM q cI (va_up v 0 (va_up (v 0) 3 ((v 0 3) + 2)))) := hD
                  refine lv_aload_n hx hb dX5_isPart_94 rfl (lv_at hl 1 rfl) ?_
                  refine va_get (D := D) (ci := 5) (v := .ref (q 4)) (C := RX5) (T := TX5) (N := 10) hx hb hts inX5_isPart_X5 hown hK hP 0 rfl rfl 8 (by decide) (hts (.fieldLink RX5 19 "OddNoticeModel" "told" "[I") (List.mem_of_getElem? (i := 3) (by decide +kernel))) (fun _ h9 => h9) rfl dX5_isPart_95 ?_
                  refine o_const (k := 3) hx hb dX5_isPart_98 (by decide) ?_
                  refine lv_aload_n hx hb dX5_isPart_99 rfl (lv_at hl 1 rfl) ?_
                  refine va_get (D := D) (ci := 5) (v := .int (nI (v 0 5))) (C := RX5) (T := TX5) (N := 10) hx hb hts inX5_isPart_X5 hown hK hP 0 rfl rfl 9 (by decide) (hts (.fieldLink RX5 106 "OddNoticeModel" "tolds" "I") (List.mem_of_getElem? (i := 4) (by decide +kernel))) (fun _ h9 => h9) rfl dX5_isPart_100 ?_
                  refine o_imul (a := 3) (b := (v 0 5)) (k := (3 * (v 0 5))) hx hb dX5_isPart_103 rfl ?_
                  refine lv_iload_n hx hb dX5_isPart_104 rfl (lv_at hl 0 rfl) ?_
                  refine o_iast (g := (v 4)) hx hb hK hP hD hS 4 0 rfl rfl (by omega) (Nat.le_of_ble_eq_true rfl) dX5_isPart_105 (fun H locs hP hD hS => ?_)
                  have hP : va_P D vwCl (wM q cI (va_up (va_up v 0 (va_up (v 0) 3 ((v 0 3) + 2))) 4 (va_up (v 4) (3 * (v 0 5)) (v 3 (v 0 3))))) H := hP
                  have hD : va_D A (wM q cI (va_up (va_up v 0 (va_up (v 0) 3 ((v 0 3) + 2))) 4 (va_up (v 4) (3 * (v 0 5)) (v 3 (v 0 3))))) := hD
                  refine lv_aload_n hx hb dX5_isPart_106 rfl (lv_at hl 1 rfl) ?_
                  refine va_get (D := D) (ci := 5) (v := .ref (q 4)) (C := RX5) (T := TX5) (N := 10) hx hb hts inX5_isPart_X5 hown hK hP 0 rfl rfl 8 (by decide) (hts (.fieldLink RX5 19 "OddNoticeModel" "told" "[I") (List.mem_of_getElem? (i := 3) (by decide +kernel))) (fun _ h9 => h9) rfl dX5_isPart_107 ?_
                  refine o_const (k := 3) hx hb dX5_isPart_110 (by decide) ?_
                  refine lv_aload_n hx hb dX5_isPart_111 rfl (lv_at hl 1 rfl) ?_
                  refine va_get (D := D) (ci := 5) (v := .int (nI (v 0 5))) (C := RX5) (T := TX5) (N := 10) hx hb hts inX5_isPart_X5 hown hK hP 0 rfl rfl 9 (by decide) (hts (.fieldLink RX5 106 "OddNoticeModel" "tolds" "I") (List.mem_of_getElem? (i := 4) (by decide +kernel))) (fun _ h9 => h9) rfl dX5_isPart_112 ?_
                  refine o_imul (a := 3) (b := (v 0 5)) (k := (3 * (v 0 5))) hx hb dX5_isPart_115 rfl ?_
                  refine o_const (k := 1) hx hb dX5_isPart_116 (by decide) ?_
                  refine o_iadd (a := (3 * (v 0 5))) (b := 1) (k := (3 * (v 0 5) + 1)) hx hb dX5_isPart_117 rfl ?_
                  refine lv_aload_n hx hb dX5_isPart_118 rfl (lv_at hl 1 rfl) ?_
                  refine va_get (D := D) (ci := 5) (v := .ref (q 3)) (C := RX5) (T := TX5) (N := 10) hx hb hts inX5_isPart_X5 hown hK hP 0 rfl rfl 3 (by decide) (hts (.fieldLink RX5 16 "OddNoticeModel" "text" "[I") (List.mem_of_getElem? (i := 1) (by decide +kernel))) (fun _ h9 => h9) rfl dX5_isPart_119 ?_
                  refine lv_aload_n hx hb dX5_isPart_122 rfl (lv_at hl 1 rfl) ?_
                  refine va_get (D := D) (ci := 5) (v := .int (nI ((v 0 3) + 2))) (C := RX5) (T := TX5) (N := 10) hx hb hts inX5_isPart_X5 hown hK hP 0 rfl rfl 6 (by decide) (hts (.fieldLink RX5 89 "OddNoticeModel" "at" "I") (List.mem_of_getElem? (i := 2) (by decide +kernel))) (fun _ h9 => h9) rfl dX5_isPart_123 ?_
                  refine o_const (k := 1) hx hb dX5_isPart_126 (by decide) ?_
                  refine o_isub (a := ((v 0 3) + 2)) (b := 1) (k := ((v 0 3) + 1)) hx hb dX5_isPart_127 (by omega) (by omega) ?_
                  refine o_iald (v := nI (v 3 ((v 0 3) + 1))) hx hb hK hP 3 0 rfl rfl (by omega) (Nat.le_of_ble_eq_true rfl) rfl dX5_isPart_128 ?_
                  have f_273 := ht ((v 0 3) + 1)
                  refine o_bipush (k := 48) hx hb dX5_isPart_129 (by decide) ?_
                  refine o_isub (a := (v 3 ((v 0 3) + 1))) (b := 48) (k := ((v 3 ((v 0 3) + 1)) - 48)) hx hb dX5_isPart_131 (by omega) rfl ?_
                  refine o_iast (g := (va_up (v 4) (3 * (v 0 5)) (v 3 (v 0 3)))) hx hb hK hP hD hS 4 0 rfl rfl (by omega) (Nat.le_of_ble_eq_true rfl) dX5_isPart_132 (fun H locs hP hD hS => ?_)
                  have hP : va_P D vwCl (wM q cI (va_up (va_up v 0 (va_up (v 0) 3 ((v 0 3) + 2))) 4 (va_up (va_up (v 4) (3 * (v 0 5)) (v 3 (v 0 3))) (3 * (v 0 5) + 1) ((v 3 ((v 0 3) + 1)) - 48)))) H := hP
                  have hD : va_D A (wM q cI (va_up (va_up v 0 (va_up (v 0) 3 ((v 0 3) + 2))) 4 (va_up (va_up (v 4) (3 * (v 0 5)) (v 3 (v 0 3))) (3 * (v 0 5) + 1) ((v 3 ((v 0 3) + 1)) - 48)))) := hD
                  refine lv_iload_n hx hb dX5_isPart_133 rfl (lv_at hl 0 rfl) ?_
                  refine o_bipush (k := 119) hx hb dX5_isPart_134 (by decide) ?_
                  refine o_icmp_ne (tgt := 204) hx hb dX5_isPart_136 (by decide) (by omega) (Nat.le_of_ble_eq_true rfl) (fun c_274 => ?_) (fun c_274 => ?_)
                  · skip
                    refine o_const (k := 1) hx hb dX5_isPart_204 (by decide) ?_
                    have w_275 : (wM q cI (va_up (va_up v 0 (va_up (va_up (v 0) 3 (m_pt (v 3) (v 0 1) (v 0 5) (v 0 3) (v 0 4) (v 4)).1) 4 (m_pt (v 3) (v 0 1) (v 0 5) (v 0 3) (v 0 4) (v 4)).2.1)) 4 (m_pt (v 3) (v 0 1) (v 0 5) (v 0 3) (v 0 4) (v 4)).2.2.1)) = (wM q cI (va_up (va_up v 0 (va_up (v 0) 3 ((v 0 3) + 2))) 4 (va_up (va_up (v 4) (3 * (v 0 5)) (v 3 (v 0 3))) (3 * (v 0 5) + 1) ((v 3 ((v 0 3) + 1)) - 48)))) := (by unfold m_pt; rw [if_pos (by omega), if_pos (by unfold m_hi; (repeat' split) <;> omega), if_neg (by omega)]; first | done | rfl)
                    rw [← w_275] at hP
                    exact W.zret (v := nI 1) hx hb hrt rfl (fun t ht hW => ⟨⟨_, (), rfl, (congrArg nI (by unfold m_pt; rw [if_pos (by omega), if_pos (by unfold m_hi; (repeat' split) <;> omega), if_neg (by omega)])), by show va_P D vwCl _ t.heap; rw [ht]; exact hP⟩, hS.F ht⟩) hS.2.2 dX5_isPart_205
                  · skip
                    refine lv_aload_n hx hb dX5_isPart_139 rfl (lv_at hl 1 rfl) ?_
                    refine o_bipush (k := 57) hx hb dX5_isPart_140 (by decide) ?_
                    refine o_wi (va_runV (As := [.int (nI 57)]) (rest := []) ⟨hx, hb, hml, hown, hts⟩ (k_X5_isDigit l D cI cR cS cL H.size q (va_up (va_up v 0 (va_up (v 0) 3 ((v 0 3) + 2))) 4 (va_up (va_up (v 4) (3 * (v 0 5)) (v 3 (v 0 3))) (3 * (v 0 5) + 1) ((v 3 ((v 0 3) + 1)) - 48))) 57 (by show ((v 0 3) + 2) < 2 ^ 31; first | assumption | omega) (by show v 0 1 ≤ 60; first | assumption | omega) (by show ∀ k, v 3 k < 2 ^ 31; first | assumption | omega) (by show 57 < 2 ^ 31; first | assumption | omega)) (cwV 1 hts gX5_isPart_X5_isDigit rfl rfl rfl (by decide +kernel) ⟨Nat.le_of_ble_eq_true rfl, Nat.le_of_ble_eq_true rfl⟩) (o_v (o_pB hK hN hP hD) (va_recv hK hP (ci := 5) (q0 := 0) rfl rfl)) rfl rfl hl.1 rfl (lv_room (Nat.le_of_ble_eq_true rfl)) dX5_isPart_142 ⟨Nat.zero_le _, Nat.zero_le _⟩) hP hD hS hA [0, 1, 2, 3, 4] (by decide) rfl (fun _ => rfl) (fun r_277 _ H locs e_276 hP hD hS => ?_)
                    have e_276 : r_277 = nI (bn (((v 0 3) + 2) < v 0 1 ∧ 48 ≤ v 3 (((v 0 3) + 2)) ∧ v 3 (((v 0 3) + 2)) ≤ 57)) := e_276
                    subst e_276
                    have hP : va_P D vwCl (wM q cI (va_up (va_up v 0 (if ((v 0 3) + 2) < v 0 1 ∧ 48 ≤ v 3 (((v 0 3) + 2)) ∧ v 3 (((v 0 3) + 2)) ≤ 57 then (va_up (va_up (v 0) 3 ((v 0 3) + 2)) 3 ((v 0 3) + 3)) else (va_up (va_up (v 0) 3 ((v 0 3) + 2)) 4 (bn (((v 0 3) + 2) < v 0 1))))) 4 (va_up (va_up (v 4) (3 * (v 0 5)) (v 3 (v 0 3))) (3 * (v 0 5) + 1) ((v 3 ((v 0 3) + 1)) - 48)))) H := hP
                    have hD : va_D A (wM q cI (va_up (va_up v 0 (if ((v 0 3) + 2) < v 0 1 ∧ 48 ≤ v 3 (((v 0 3) + 2)) ∧ v 3 (((v 0 3) + 2)) ≤ 57 then (va_up (va_up (v 0) 3 ((v 0 3) + 2)) 3 ((v 0 3) + 3)) else (va_up (va_up (v 0) 3 ((v 0 3) + 2)) 4 (bn (((v 0 3) + 2) < v 0 1))))) 4 (va_up (va_up (v 4) (3 * (v 0 5)) (v 3 (v 0 3))) (3 * (v 0 5) + 1) ((v 3 ((v 0 3) + 1)) - 48)))) := hD
                    refine o_ifz (tgt := 157) hx hb dX5_isPart_145 (by decide) (fun c_278 => ?_) (fun c_278 => ?_)
                    · skip
                      rw [if_neg c_278] at hP hD
                      have hP : va_P D vwCl (wM q cI (va_up (va_up v 0 (va_up (va_up (v 0) 3 ((v 0 3) + 2)) 4 (bn (((v 0 3) + 2) < v 0 1)))) 4 (va_up (va_up (v 4) (3 * (v 0 5)) (v 3 (v 0 3))) (3 * (v 0 5) + 1) ((v 3 ((v 0 3) + 1)) - 48)))) H := hP
                      have hD : va_D A (wM q cI (va_up (va_up v 0 (va_up (va_up (v 0) 3 ((v 0 3) + 2)) 4 (bn (((v 0 3) + 2) < v 0 1)))) 4 (va_up (va_up (v 4) (3 * (v 0 5)) (v 3 (v 0 3))) (3 * (v 0 5) + 1) ((v 3 ((v 0 3) + 1)) - 48)))) := hD
                      refine o_const (k := 0) hx hb dX5_isPart_157 (by decide) ?_
                      have w_279 : (wM q cI (va_up (va_up v 0 (va_up (va_up (v 0) 3 (m_pt (v 3) (v 0 1) (v 0 5) (v 0 3) (v 0 4) (v 4)).1) 4 (m_pt (v 3) (v 0 1) (v 0 5) (v 0 3) (v 0 4) (v 4)).2.1)) 4 (m_pt (v 3) (v 0 1) (v 0 5) (v 0 3) (v 0 4) (v 4)).2.2.1)) = (wM q cI (va_up (va_up v 0 (va_up (va_up (v 0) 3 ((v 0 3) + 2)) 4 (bn (((v 0 3) + 2) < v 0 1)))) 4 (va_up (va_up (v 4) (3 * (v 0 5)) (v 3 (v 0 3))) (3 * (v 0 5) + 1) ((v 3 ((v 0 3) + 1)) - 48)))) := (by unfold m_pt; rw [if_pos (by omega), if_pos (by unfold m_hi; (repeat' split) <;> omega), if_pos (by omega), if_neg (by omega)]; first | done | rfl)
                      rw [← w_279] at hP
                      exact W.zret (v := nI 0) hx hb hrt rfl (fun t ht hW => ⟨⟨_, (), rfl, (congrArg nI (by unfold m_pt; rw [if_pos (by omega), if_pos (by unfold m_hi; (repeat' split) <;> omega), if_pos (by omega), if_neg (by omega)])), by show va_P D vwCl _ t.heap; rw [ht]; exact hP⟩, hS.F ht⟩) hS.2.2 dX5_isPart_158
                    · skip
                      rw [if_pos c_278] at hP hD
                      have hP : va_P D vwCl (wM q cI (va_up (va_up v 0 (va_up (v 0) 3 ((v 0 3) + 3))) 4 (va_up (va_up (v 4) (3 * (v 0 5)) (v 3 (v 0 3))) (3 * (v 0 5) + 1) ((v 3 ((v 0 3) + 1)) - 48)))) H := hP
                      have hD : va_D A (wM q cI (va_up (va_up v 0 (va_up (v 0) 3 ((v 0 3) + 3))) 4 (va_up (va_up (v 4) (3 * (v 0 5)) (v 3 (v 0 3))) (3 * (v 0 5) + 1) ((v 3 ((v 0 3) + 1)) - 48)))) := hD
                      refine lv_aload_n hx hb dX5_isPart_148 rfl (lv_at hl 1 rfl) ?_
                      refine o_bipush (k := 57) hx hb dX5_isPart_149 (by decide) ?_
                      refine o_wi (va_runV (As := [.int (nI 57)]) (rest := []) ⟨hx, hb, hml, hown, hts⟩ (k_X5_isDigit l D cI cR cS cL H.size q (va_up (va_up v 0 (va_up (v 0) 3 ((v 0 3) + 3))) 4 (va_up (va_up (v 4) (3 * (v 0 5)) (v 3 (v 0 3))) (3 * (v 0 5) + 1) ((v 3 ((v 0 3) + 1)) - 48))) 57 (by show ((v 0 3) + 3) < 2 ^ 31; first | assumption | omega) (by show v 0 1 ≤ 60; first | assumption | omega) (by show ∀ k, v 3 k < 2 ^ 31; first | assumption | omega) (by show 57 < 2 ^ 31; first | assumption | omega)) (cwV 1 hts gX5_isPart_X5_isDigit rfl rfl rfl (by decide +kernel) ⟨Nat.le_of_ble_eq_true rfl, Nat.le_of_ble_eq_true rfl⟩) (o_v (o_pB hK hN hP hD) (va_recv hK hP (ci := 5) (q0 := 0) rfl rfl)) rfl rfl hl.1 rfl (lv_room (Nat.le_of_ble_eq_true rfl)) dX5_isPart_151 ⟨Nat.zero_le _, Nat.zero_le _⟩) hP hD hS hA [0, 1, 2, 3, 4] (by decide) rfl (fun _ => rfl) (fun r_281 _ H locs e_280 hP hD hS => ?_)
                      have e_280 : r_281 = nI (bn (((v 0 3) + 3) < v 0 1 ∧ 48 ≤ v 3 (((v 0 3) + 3)) ∧ v 3 (((v 0 3) + 3)) ≤ 57)) := e_280
                      subst e_280
                      have hP : va_P D vwCl (wM q cI (va_up (va_up v 0 (if ((v 0 3) + 3) < v 0 1 ∧ 48 ≤ v 3 (((v 0 3) + 3)) ∧ v 3 (((v 0 3) + 3)) ≤ 57 then (va_up (va_up (v 0) 3 ((v 0 3) + 3)) 3 ((v 0 3) + 4)) else (va_up (va_up (v 0) 3 ((v 0 3) + 3)) 4 (bn (((v 0 3) + 3) < v 0 1))))) 4 (va_up (va_up (v 4) (3 * (v 0 5)) (v 3 (v 0 3))) (3 * (v 0 5) + 1) ((v 3 ((v 0 3) + 1)) - 48)))) H := hP
                      have hD : va_D A (wM q cI (va_up (va_up v 0 (if ((v 0 3) + 3) < v 0 1 ∧ 48 ≤ v 3 (((v 0 3) + 3)) ∧ v 3 (((v 0 3) + 3)) ≤ 57 then (va_up (va_up (v 0) 3 ((v 0 3) + 3)) 3 ((v 0 3) + 4)) else (va_up (va_up (v 0) 3 ((v 0 3) + 3)) 4 (bn (((v 0 3) + 3) < v 0 1))))) 4 (va_up (va_up (v 4) (3 * (v 0 5)) (v 3 (v 0 3))) (3 * (v 0 5) + 1) ((v 3 ((v 0 3) + 1)) - 48)))) := hD
                      refine o_ifnz (tgt := 159) hx hb dX5_isPart_154 (by decide) (fun c_282 => ?_) (fun c_282 => ?_)
                      · skip
                        rw [if_pos c_282] at hP hD
                        have hP : va_P D vwCl (wM q cI (va_up (va_up v 0 (va_up (v 0) 3 ((v 0 3) + 4))) 4 (va_up (va_up (v 4) (3 * (v 0 5)) (v 3 (v 0 3))) (3 * (v 0 5) + 1) ((v 3 ((v 0 3) + 1)) - 48)))) H := hP
                        have hD : va_D A (wM q cI (va_up (va_up v 0 (va_up (v 0) 3 ((v 0 3) + 4))) 4 (va_up (va_up (v 4) (3 * (v 0 5)) (v 3 (v 0 3))) (3 * (v 0 5) + 1) ((v 3 ((v 0 3) + 1)) - 48)))) := hD
                        refine lv_aload_n hx hb dX5_isPart_159 rfl (lv_at hl 1 rfl) ?_
                        refine va_get (D := D) (ci := 5) (v := .ref (q 4)) (C := RX5) (T := TX5) (N := 10) hx hb hts inX5_isPart_X5 hown hK hP 0 rfl rfl 8 (by decide) (hts (.fieldLink RX5 19 "OddNoticeModel" "told" "[I") (List.mem_of_getElem? (i := 3) (by decide +kernel))) (fun _ h9 => h9) rfl dX5_isPart_160 ?_
                        refine o_const (k := 3) hx hb dX5_isPart_163 (by decide) ?_
                        refine lv_aload_n hx hb dX5_isPart_164 rfl (lv_at hl 1 rfl) ?_
                        refine va_get (D := D) (ci := 5) (v := .int (nI (v 0 5))) (C := RX5) (T := TX5) (N := 10) hx hb hts inX5_isPart_X5 hown hK hP 0 rfl rfl 9 (by decide) (hts (.fieldLink RX5 106 "OddNoticeModel" "tolds" "I") (List.mem_of_getElem? (i := 4) (by decide +kernel))) (fun _ h9 => h9) rfl dX5_isPart_165 ?_
                        refine o_imul (a := 3) (b := (v 0 5)) (k := (3 * (v 0 5))) hx hb dX5_isPart_168 rfl ?_
                        refine o_const (k := 2) hx hb dX5_isPart_169 (by decide) ?_
                        refine o_iadd (a := (3 * (v 0 5))) (b := 2) (k := (3 * (v 0 5) + 2)) hx hb dX5_isPart_170 rfl ?_
                        refine o_bipush (k := 10) hx hb dX5_isPart_171 (by decide) ?_
                        refine lv_aload_n hx hb dX5_isPart_173 rfl (lv_at hl 1 rfl) ?_
                        refine va_get (D := D) (ci := 5) (v := .ref (q 3)) (C := RX5) (T := TX5) (N := 10) hx hb hts inX5_isPart_X5 hown hK hP 0 rfl rfl 3 (by decide) (hts (.fieldLink RX5 16 "OddNoticeModel" "text" "[I") (List.mem_of_getElem? (i := 1) (by decide +kernel))) (fun _ h9 => h9) rfl dX5_isPart_174 ?_
                        refine lv_aload_n hx hb dX5_isPart_177 rfl (lv_at hl 1 rfl) ?_
                        refine va_get (D := D) (ci := 5) (v := .int (nI ((v 0 3) + 4))) (C := RX5) (T := TX5) (N := 10) hx hb hts inX5_isPart_X5 hown hK hP 0 rfl rfl 6 (by decide) (hts (.fieldLink RX5 89 "OddNoticeModel" "at" "I") (List.mem_of_getElem? (i := 2) (by decide +kernel))) (fun _ h9 => h9) rfl dX5_isPart_178 ?_
                        refine o_const (k := 2) hx hb dX5_isPart_181 (by decide) ?_
                        refine o_isub (a := ((v 0 3) + 4)) (b := 2) (k := ((v 0 3) + 2)) hx hb dX5_isPart_182 (by omega) (by omega) ?_
                        refine o_iald (v := nI (v 3 ((v 0 3) + 2))) hx hb hK hP 3 0 rfl rfl (by omega) (Nat.le_of_ble_eq_true rfl) rfl dX5_isPart_183 ?_
                        have f_283 := ht ((v 0 3) + 2)
                        refine o_bipush (k := 48) hx hb dX5_isPart_184 (by decide) ?_
                        refine o_isub (a := (v 3 ((v 0 3) + 2))) (b := 48) (k := ((v 3 ((v 0 3) + 2)) - 48)) hx hb dX5_isPart_186 (by omega) rfl ?_
                        refine o_imul (a := 10) (b := ((v 3 ((v 0 3) + 2)) - 48)) (k := (10 * ((v 3 ((v 0 3) + 2)) - 48))) hx hb dX5_isPart_187 rfl ?_
                        refine lv_aload_n hx hb dX5_isPart_188 rfl (lv_at hl 1 rfl) ?_
                        refine va_get (D := D) (ci := 5) (v := .ref (q 3)) (C := RX5) (T := TX5) (N := 10) hx hb hts inX5_isPart_X5 hown hK hP 0 rfl rfl 3 (by decide) (hts (.fieldLink RX5 16 "OddNoticeModel" "text" "[I") (List.mem_of_getElem? (i := 1) (by decide +kernel))) (fun _ h9 => h9) rfl dX5_isPart_189 ?_
                        refine lv_aload_n hx hb dX5_isPart_192 rfl (lv_at hl 1 rfl) ?_
                        refine va_get (D := D) (ci := 5) (v := .int (nI ((v 0 3) + 4))) (C := RX5) (T := TX5) (N := 10) hx hb hts inX5_isPart_X5 hown hK hP 0 rfl rfl 6 (by decide) (hts (.fieldLink RX5 89 "OddNoticeModel" "at" "I") (List.mem_of_getElem? (i := 2) (by decide +kernel))) (fun _ h9 => h9) rfl dX5_isPart_193 ?_
                        refine o_const (k := 1) hx hb dX5_isPart_196 (by decide) ?_
                        refine o_isub (a := ((v 0 3) + 4)) (b := 1) (k := ((v 0 3) + 3)) hx hb dX5_isPart_197 (by omega) (by omega) ?_
                        refine o_iald (v := nI (v 3 ((v 0 3) + 3))) hx hb hK hP 3 0 rfl rfl (by omega) (Nat.le_of_ble_eq_true rfl) rfl dX5_isPart_198 ?_
                        have f_284 := ht ((v 0 3) + 3)
                        refine o_iadd (a := (10 * ((v 3 ((v 0 3) + 2)) - 48))) (b := (v 3 ((v 0 3) + 3))) (k := (10 * ((v 3 ((v 0 3) + 2)) - 48) + (v 3 ((v 0 3) + 3)))) hx hb dX5_isPart_199 rfl ?_
                        refine o_bipush (k := 48) hx hb dX5_isPart_200 (by decide) ?_
                        refine o_isub (a := (10 * ((v 3 ((v 0 3) + 2)) - 48) + (v 3 ((v 0 3) + 3)))) (b := 48) (k := (10 * ((v 3 ((v 0 3) + 2)) - 48) + (v 3 ((v 0 3) + 3)) - 48)) hx hb dX5_isPart_202 (by omega) rfl ?_
                        refine o_iast (g := (va_up (va_up (v 4) (3 * (v 0 5)) (v 3 (v 0 3))) (3 * (v 0 5) + 1) ((v 3 ((v 0 3) + 1)) - 48))) hx hb hK hP hD hS 4 0 rfl rfl (by omega) (Nat.le_of_ble_eq_true rfl) dX5_isPart_203 (fun H locs hP hD hS => ?_)
                        have hP : va_P D vwCl (wM q cI (va_up (va_up v 0 (va_up (v 0) 3 ((v 0 3) + 4))) 4 (va_up (va_up (va_up (v 4) (3 * (v 0 5)) (v 3 (v 0 3))) (3 * (v 0 5) + 1) ((v 3 ((v 0 3) + 1)) - 48)) (3 * (v 0 5) + 2) (10 * ((v 3 ((v 0 3) + 2)) - 48) + (v 3 ((v 0 3) + 3)) - 48)))) H := hP
                        have hD : va_D A (wM q cI (va_up (va_up v 0 (va_up (v 0) 3 ((v 0 3) + 4))) 4 (va_up (va_up (va_up (v 4) (3 * (v 0 5)) (v 3 (v 0 3))) (3 * (v 0 5) + 1) ((v 3 ((v 0 3) + 1)) - 48)) (3 * (v 0 5) + 2) (10 * ((v 3 ((v 0 3) + 2)) - 48) + (v 3 ((v 0 3) + 3)) - 48)))) := hD
                        refine o_const (k := 1) hx hb dX5_isPart_204 (by decide) ?_
                        have w_285 : (wM q cI (va_up (va_up v 0 (va_up (va_up (v 0) 3 (m_pt (v 3) (v 0 1) (v 0 5) (v 0 3) (v 0 4) (v 4)).1) 4 (m_pt (v 3) (v 0 1) (v 0 5) (v 0 3) (v 0 4) (v 4)).2.1)) 4 (m_pt (v 3) (v 0 1) (v 0 5) (v 0 3) (v 0 4) (v 4)).2.2.1)) = (wM q cI (va_up (va_up v 0 (va_up (v 0) 3 ((v 0 3) + 4))) 4 (va_up (va_up (va_up (v 4) (3 * (v 0 5)) (v 3 (v 0 3))) (3 * (v 0 5) + 1) ((v 3 ((v 0 3) + 1)) - 48)) (3 * (v 0 5) + 2) (10 * ((v 3 ((v 0 3) + 2)) - 48) + (v 3 ((v 0 3) + 3)) - 48)))) := (by unfold m_pt; rw [if_pos (by omega), if_pos (by unfold m_hi; (repeat' split) <;> omega), if_pos (by omega), if_pos (by omega), if_pos (by omega)]; first | done | rfl)
                        rw [← w_285] at hP
                        exact W.zret (v := nI 1) hx hb hrt rfl (fun t ht hW => ⟨⟨_, (), rfl, (congrArg nI (by unfold m_pt; rw [if_pos (by omega), if_pos (by unfold m_hi; (repeat' split) <;> omega), if_pos (by omega), if_pos (by omega), if_pos (by omega)])), by show va_P D vwCl _ t.heap; rw [ht]; exact hP⟩, hS.F ht⟩) hS.2.2 dX5_isPart_205
                      · skip
                        rw [if_neg c_282] at hP hD
                        have hP : va_P D vwCl (wM q cI (va_up (va_up v 0 (va_up (va_up (v 0) 3 ((v 0 3) + 3)) 4 (bn (((v 0 3) + 3) < v 0 1)))) 4 (va_up (va_up (v 4) (3 * (v 0 5)) (v 3 (v 0 3))) (3 * (v 0 5) + 1) ((v 3 ((v 0 3) + 1)) - 48)))) H := hP
                        have hD : va_D A (wM q cI (va_up (va_up v 0 (va_up (va_up (v 0) 3 ((v 0 3) + 3)) 4 (bn (((v 0 3) + 3) < v 0 1)))) 4 (va_up (va_up (v 4) (3 * (v 0 5)) (v 3 (v 0 3))) (3 * (v 0 5) + 1) ((v 3 ((v 0 3) + 1)) - 48)))) := hD
                        refine o_const (k := 0) hx hb dX5_isPart_157 (by decide) ?_
                        have w_286 : (wM q cI (va_up (va_up v 0 (va_up (va_up (v 0) 3 (m_pt (v 3) (v 0 1) (v 0 5) (v 0 3) (v 0 4) (v 4)).1) 4 (m_pt (v 3) (v 0 1) (v 0 5) (v 0 3) (v 0 4) (v 4)).2.1)) 4 (m_pt (v 3) (v 0 1) (v 0 5) (v 0 3) (v 0 4) (v 4)).2.2.1)) = (wM q cI (va_up (va_up v 0 (va_up (va_up (v 0) 3 ((v 0 3) + 3)) 4 (bn (((v 0 3) + 3) < v 0 1)))) 4 (va_up (va_up (v 4) (3 * (v 0 5)) (v 3 (v 0 3))) (3 * (v 0 5) + 1) ((v 3 ((v 0 3) + 1)) - 48)))) := (by unfold m_pt; rw [if_pos (by omega), if_pos (by unfold m_hi; (repeat' split) <;> omega), if_pos (by omega), if_pos (by omega), if_neg (by omega)]; first | done | rfl)
                        rw [← w_286] at hP
                        exact W.zret (v := nI 0) hx hb hrt rfl (fun t ht hW => ⟨⟨_, (), rfl, (congrArg nI (by unfold m_pt; rw [if_pos (by omega), if_pos (by unfold m_hi; (repeat' split) <;> omega), if_pos (by omega), if_pos (by omega), if_neg (by omega)])), by show va_P D vwCl _ t.heap; rw [ht]; exact hP⟩, hS.F ht⟩) hS.2.2 dX5_isPart_158
                · skip
                  rw [if_neg c_272] at hP hD
                  have hP : va_P D vwCl (wM q cI (va_up v 0 (va_up (va_up (v 0) 3 ((v 0 3) + 1)) 4 (bn (((v 0 3) + 1) < v 0 1))))) H := hP
                  have hD : va_D A (wM q cI (va_up v 0 (va_up (va_up (v 0) 3 ((v 0 3) + 1)) 4 (bn (((v 0 3) + 1) < v 0 1))))) := hD
                  refine o_const (k := 0) hx hb dX5_isPart_92 (by decide) ?_
                  have w_287 : (wM q cI (va_up (va_up v 0 (va_up (va_up (v 0) 3 (m_pt (v 3) (v 0 1) (v 0 5) (v 0 3) (v 0 4) (v 4)).1) 4 (m_pt (v 3) (v 0 1) (v 0 5) (v 0 3) (v 0 4) (v 4)).2.1)) 4 (m_pt (v 3) (v 0 1) (v 0 5) (v 0 3) (v 0 4) (v 4)).2.2.1)) = (wM q cI (va_up v 0 (va_up (va_up (v 0) 3 ((v 0 3) + 1)) 4 (bn (((v 0 3) + 1) < v 0 1))))) := (by unfold m_pt; rw [if_pos (by omega), if_neg (by unfold m_hi; (repeat' split) <;> omega)]; first | done | rfl)
                  rw [← w_287] at hP
                  exact W.zret (v := nI 0) hx hb hrt rfl (fun t ht hW => ⟨⟨_, (), rfl, (congrArg nI (by unfold m_pt; rw [if_pos (by omega), if_neg (by unfold m_hi; (repeat' split) <;> omega)])), by show va_P D vwCl _ t.heap; rw [ht]; exact hP⟩, hS.F ht⟩) hS.2.2 dX5_isPart_93
          · skip
            refine o_bipush (k := 52) hx hb dX5_isPart_62 (by decide) ?_
            refine lv_goto (tgt := 86) hx hb dX5_isPart_64 (by decide) ?_
            refine o_wi (va_runV (As := [.int (nI 52)]) (rest := []) ⟨hx, hb, hml, hown, hts⟩ (k_X5_isDigit l D cI cR cS cL H.size q (va_up v 0 (va_up (v 0) 3 ((v 0 3) + 1))) 52 (by show ((v 0 3) + 1) < 2 ^ 31; first | assumption | omega) (by show v 0 1 ≤ 60; first | assumption | omega) (by show ∀ k, v 3 k < 2 ^ 31; first | assumption | omega) (by show 52 < 2 ^ 31; first | assumption | omega)) (cwV 1 hts gX5_isPart_X5_isDigit rfl rfl rfl (by decide +kernel) ⟨Nat.le_of_ble_eq_true rfl, Nat.le_of_ble_eq_true rfl⟩) (o_v (o_pB hK hN hP hD) (va_recv hK hP (ci := 5) (q0 := 0) rfl rfl)) rfl rfl hl.1 rfl (lv_room (Nat.le_of_ble_eq_true rfl)) dX5_isPart_86 ⟨Nat.zero_le _, Nat.zero_le _⟩) hP hD hS hA [0, 1, 2, 3, 4] (by decide) rfl (fun _ => rfl) (fun r_289 _ H locs e_288 hP hD hS => ?_)
            have e_288 : r_289 = nI (bn (((v 0 3) + 1) < v 0 1 ∧ 48 ≤ v 3 (((v 0 3) + 1)) ∧ v 3 (((v 0 3) + 1)) ≤ 52)) := e_288
            subst e_288
            have hP : va_P D vwCl (wM q cI (va_up v 0 (if ((v 0 3) + 1) < v 0 1 ∧ 48 ≤ v 3 (((v 0 3) + 1)) ∧ v 3 (((v 0 3) + 1)) ≤ 52 then (va_up (va_up (v 0) 3 ((v 0 3) + 1)) 3 ((v 0 3) + 2)) else (va_up (va_up (v 0) 3 ((v 0 3) + 1)) 4 (bn (((v 0 3) + 1) < v 0 1)))))) H := hP
            have hD : va_D A (wM q cI (va_up v 0 (if ((v 0 3) + 1) < v 0 1 ∧ 48 ≤ v 3 (((v 0 3) + 1)) ∧ v 3 (((v 0 3) + 1)) ≤ 52 then (va_up (va_up (v 0) 3 ((v 0 3) + 1)) 3 ((v 0 3) + 2)) else (va_up (va_up (v 0) 3 ((v 0 3) + 1)) 4 (bn (((v 0 3) + 1) < v 0 1)))))) := hD
            refine o_ifnz (tgt := 94) hx hb dX5_isPart_89 (by decide) (fun c_290 => ?_) (fun c_290 => ?_)
            · skip
              rw [if_pos c_290] at hP hD
              have hP : va_P D vwCl (wM q cI (va_up v 0 (va_up (v 0) 3 ((v 0 3) + 2)))) H := hP
              have hD : va_D A (wM q cI (va_up v 0 (va_up (v 0) 3 ((v 0 3) + 2)))) := hD
              refine lv_aload_n hx hb dX5_isPart_94 rfl (lv_at hl 1 rfl) ?_
              refine va_get (D := D) (ci := 5) (v := .ref (q 4)) (C := RX5) (T := TX5) (N := 10) hx hb hts inX5_isPart_X5 hown hK hP 0 rfl rfl 8 (by decide) (hts (.fieldLink RX5 19 "OddNoticeModel" "told" "[I") (List.mem_of_getElem? (i := 3) (by decide +kernel))) (fun _ h9 => h9) rfl dX5_isPart_95 ?_
              refine o_const (k := 3) hx hb dX5_isPart_98 (by decide) ?_
              refine lv_aload_n hx hb dX5_isPart_99 rfl (lv_at hl 1 rfl) ?_
              refine va_get (D := D) (ci := 5) (v := .int (nI (v 0 5))) (C := RX5) (T := TX5) (N := 10) hx hb hts inX5_isPart_X5 hown hK hP 0 rfl rfl 9 (by decide) (hts (.fieldLink RX5 106 "OddNoticeModel" "tolds" "I") (List.mem_of_getElem? (i := 4) (by decide +kernel))) (fun _ h9 => h9) rfl dX5_isPart_100 ?_
              refine o_imul (a := 3) (b := (v 0 5)) (k := (3 * (v 0 5))) hx hb dX5_isPart_103 rfl ?_
              refine lv_iload_n hx hb dX5_isPart_104 rfl (lv_at hl 0 rfl) ?_
              refine o_iast (g := (v 4)) hx hb hK hP hD hS 4 0 rfl rfl (by omega) (Nat.le_of_ble_eq_true rfl) dX5_isPart_105 (fun H locs hP hD hS => ?_)
              have hP : va_P D vwCl (wM q cI (va_up (va_up v 0 (va_up (v 0) 3 ((v 0 3) + 2))) 4 (va_up (v 4) (3 * (v 0 5)) (v 3 (v 0 3))))) H := hP
              have hD : va_D A (wM q cI (va_up (va_up v 0 (va_up (v 0) 3 ((v 0 3) + 2))) 4 (va_up (v 4) (3 * (v 0 5)) (v 3 (v 0 3))))) := hD
              refine lv_aload_n hx hb dX5_isPart_106 rfl (lv_at hl 1 rfl) ?_
              refine va_get (D := D) (ci := 5) (v := .ref (q 4)) (C := RX5) (T := TX5) (N := 10) hx hb hts inX5_isPart_X5 hown hK hP 0 rfl rfl 8 (by decide) (hts (.fieldLink RX5 19 "OddNoticeModel" "told" "[I") (List.mem_of_getElem? (i := 3) (by decide +kernel))) (fun _ h9 => h9) rfl dX5_isPart_107 ?_
              refine o_const (k := 3) hx hb dX5_isPart_110 (by decide) ?_
              refine lv_aload_n hx hb dX5_isPart_111 rfl (lv_at hl 1 rfl) ?_
              refine va_get (D := D) (ci := 5) (v := .int (nI (v 0 5))) (C := RX5) (T := TX5) (N := 10) hx hb hts inX5_isPart_X5 hown hK hP 0 rfl rfl 9 (by decide) (hts (.fieldLink RX5 106 "OddNoticeModel" "tolds" "I") (List.mem_of_getElem? (i := 4) (by decide +kernel))) (fun _ h9 => h9) rfl dX5_isPart_112 ?_
              refine o_imul (a := 3) (b := (v 0 5)) (k := (3 * (v 0 5))) hx hb dX5_isPart_115 rfl ?_
              refine o_const (k := 1) hx hb dX5_isPart_116 (by decide) ?_
              refine o_iadd (a := (3 * (v 0 5))) (b := 1) (k := (3 * (v 0 5) + 1)) hx hb dX5_isPart_117 rfl ?_
              refine lv_aload_n hx hb dX5_isPart_118 rfl (lv_at hl 1 rfl) ?_
              refine va_get (D := D) (ci := 5) (v := .ref (q 3)) (C := RX5) (T := TX5) (N := 10) hx hb hts inX5_isPart_X5 hown hK hP 0 rfl rfl 3 (by decide) (hts (.fieldLink RX5 16 "OddNoticeModel" "text" "[I") (List.mem_of_getElem? (i := 1) (by decide +kernel))) (fun _ h9 => h9) rfl dX5_isPart_119 ?_
              refine lv_aload_n hx hb dX5_isPart_122 rfl (lv_at hl 1 rfl) ?_
              refine va_get (D := D) (ci := 5) (v := .int (nI ((v 0 3) + 2))) (C := RX5) (T := TX5) (N := 10) hx hb hts inX5_isPart_X5 hown hK hP 0 rfl rfl 6 (by decide) (hts (.fieldLink RX5 89 "OddNoticeModel" "at" "I") (List.mem_of_getElem? (i := 2) (by decide +kernel))) (fun _ h9 => h9) rfl dX5_isPart_123 ?_
              refine o_const (k := 1) hx hb dX5_isPart_126 (by decide) ?_
              refine o_isub (a := ((v 0 3) + 2)) (b := 1) (k := ((v 0 3) + 1)) hx hb dX5_isPart_127 (by omega) (by omega) ?_
              refine o_iald (v := nI (v 3 ((v 0 3) + 1))) hx hb hK hP 3 0 rfl rfl (by omega) (Nat.le_of_ble_eq_true rfl) rfl dX5_isPart_128 ?_
              have f_291 := ht ((v 0 3) + 1)
              refine o_bipush (k := 48) hx hb dX5_isPart_129 (by decide) ?_
              refine o_isub (a := (v 3 ((v 0 3) + 1))) (b := 48) (k := ((v 3 ((v 0 3) + 1)) - 48)) hx hb dX5_isPart_131 (by omega) rfl ?_
              refine o_iast (g := (va_up (v 4) (3 * (v 0 5)) (v 3 (v 0 3)))) hx hb hK hP hD hS 4 0 rfl rfl (by omega) (Nat.le_of_ble_eq_true rfl) dX5_isPart_132 (fun H locs hP hD hS => ?_)
              have hP : va_P D vwCl (wM q cI (va_up (va_up v 0 (va_up (v 0) 3 ((v 0 3) + 2))) 4 (va_up (va_up (v 4) (3 * (v 0 5)) (v 3 (v 0 3))) (3 * (v 0 5) + 1) ((v 3 ((v 0 3) + 1)) - 48)))) H := hP
              have hD : va_D A (wM q cI (va_up (va_up v 0 (va_up (v 0) 3 ((v 0 3) + 2))) 4 (va_up (va_up (v 4) (3 * (v 0 5)) (v 3 (v 0 3))) (3 * (v 0 5) + 1) ((v 3 ((v 0 3) + 1)) - 48)))) := hD
              refine lv_iload_n hx hb dX5_isPart_133 rfl (lv_at hl 0 rfl) ?_
              refine o_bipush (k := 119) hx hb dX5_isPart_134 (by decide) ?_
              refine o_icmp_ne (tgt := 204) hx hb dX5_isPart_136 (by decide) (by omega) (Nat.le_of_ble_eq_true rfl) (fun c_292 => ?_) (fun c_292 => ?_)
              · skip
                refine o_const (k := 1) hx hb dX5_isPart_204 (by decide) ?_
                have w_293 : (wM q cI (va_up (va_up v 0 (va_up (va_up (v 0) 3 (m_pt (v 3) (v 0 1) (v 0 5) (v 0 3) (v 0 4) (v 4)).1) 4 (m_pt (v 3) (v 0 1) (v 0 5) (v 0 3) (v 0 4) (v 4)).2.1)) 4 (m_pt (v 3) (v 0 1) (v 0 5) (v 0 3) (v 0 4) (v 4)).2.2.1)) = (wM q cI (va_up (va_up v 0 (va_up (v 0) 3 ((v 0 3) + 2))) 4 (va_up (va_up (v 4) (3 * (v 0 5)) (v 3 (v 0 3))) (3 * (v 0 5) + 1) ((v 3 ((v 0 3) + 1)) - 48)))) := (by unfold m_pt; rw [if_pos (by omega), if_pos (by unfold m_hi; (repeat' split) <;> omega), if_neg (by omega)]; first | done | rfl)
                rw [← w_293] at hP
                exact W.zret (v := nI 1) hx hb hrt rfl (fun t ht hW => ⟨⟨_, (), rfl, (congrArg nI (by unfold m_pt; rw [if_pos (by omega), if_pos (by unfold m_hi; (repeat' split) <;> omega), if_neg (by omega)])), by show va_P D vwCl _ t.heap; rw [ht]; exact hP⟩, hS.F ht⟩) hS.2.2 dX5_isPart_205
              · skip
                refine lv_aload_n hx hb dX5_isPart_139 rfl (lv_at hl 1 rfl) ?_
                refine o_bipush (k := 57) hx hb dX5_isPart_140 (by decide) ?_
                refine o_wi (va_runV (As := [.int (nI 57)]) (rest := []) ⟨hx, hb, hml, hown, hts⟩ (k_X5_isDigit l D cI cR cS cL H.size q (va_up (va_up v 0 (va_up (v 0) 3 ((v 0 3) + 2))) 4 (va_up (va_up (v 4) (3 * (v 0 5)) (v 3 (v 0 3))) (3 * (v 0 5) + 1) ((v 3 ((v 0 3) + 1)) - 48))) 57 (by show ((v 0 3) + 2) < 2 ^ 31; first | assumption | omega) (by show v 0 1 ≤ 60; first | assumption | omega) (by show ∀ k, v 3 k < 2 ^ 31; first | assumption | omega) (by show 57 < 2 ^ 31; first | assumption | omega)) (cwV 1 hts gX5_isPart_X5_isDigit rfl rfl rfl (by decide +kernel) ⟨Nat.le_of_ble_eq_true rfl, Nat.le_of_ble_eq_true rfl⟩) (o_v (o_pB hK hN hP hD) (va_recv hK hP (ci := 5) (q0 := 0) rfl rfl)) rfl rfl hl.1 rfl (lv_room (Nat.le_of_ble_eq_true rfl)) dX5_isPart_142 ⟨Nat.zero_le _, Nat.zero_le _⟩) hP hD hS hA [0, 1, 2, 3, 4] (by decide) rfl (fun _ => rfl) (fun r_295 _ H locs e_294 hP hD hS => ?_)
                have e_294 : r_295 = nI (bn (((v 0 3) + 2) < v 0 1 ∧ 48 ≤ v 3 (((v 0 3) + 2)) ∧ v 3 (((v 0 3) + 2)) ≤ 57)) := e_294
                subst e_294
                have hP : va_P D vwCl (wM q cI (va_up (va_up v 0 (if ((v 0 3) + 2) < v 0 1 ∧ 48 ≤ v 3 (((v 0 3) + 2)) ∧ v 3 (((v 0 3) + 2)) ≤ 57 then (va_up (va_up (v 0) 3 ((v 0 3) + 2)) 3 ((v 0 3) + 3)) else (va_up (va_up (v 0) 3 ((v 0 3) + 2)) 4 (bn (((v 0 3) + 2) < v 0 1))))) 4 (va_up (va_up (v 4) (3 * (v 0 5)) (v 3 (v 0 3))) (3 * (v 0 5) + 1) ((v 3 ((v 0 3) + 1)) - 48)))) H := hP
                have hD : va_D A (wM q cI (va_up (va_up v 0 (if ((v 0 3) + 2) < v 0 1 ∧ 48 ≤ v 3 (((v 0 3) + 2)) ∧ v 3 (((v 0 3) + 2)) ≤ 57 then (va_up (va_up (v 0) 3 ((v 0 3) + 2)) 3 ((v 0 3) + 3)) else (va_up (va_up (v 0) 3 ((v 0 3) + 2)) 4 (bn (((v 0 3) + 2) < v 0 1))))) 4 (va_up (va_up (v 4) (3 * (v 0 5)) (v 3 (v 0 3))) (3 * (v 0 5) + 1) ((v 3 ((v 0 3) + 1)) - 48)))) := hD
                refine o_ifz (tgt := 157) hx hb dX5_isPart_145 (by decide) (fun c_296 => ?_) (fun c_296 => ?_)
                · skip
                  rw [if_neg c_296] at hP hD
                  have hP : va_P D vwCl (wM q cI (va_up (va_up v 0 (va_up (va_up (v 0) 3 ((v 0 3) + 2)) 4 (bn (((v 0 3) + 2) < v 0 1)))) 4 (va_up (va_up (v 4) (3 * (v 0 5)) (v 3 (v 0 3))) (3 * (v 0 5) + 1) ((v 3 ((v 0 3) + 1)) - 48)))) H := hP
                  have hD : va_D A (wM q cI (va_up (va_up v 0 (va_up (va_up (v 0) 3 ((v 0 3) + 2)) 4 (bn (((v 0 3) + 2) < v 0 1)))) 4 (va_up (va_up (v 4) (3 * (v 0 5)) (v 3 (v 0 3))) (3 * (v 0 5) + 1) ((v 3 ((v 0 3) + 1)) - 48)))) := hD
                  refine o_const (k := 0) hx hb dX5_isPart_157 (by decide) ?_
                  have w_297 : (wM q cI (va_up (va_up v 0 (va_up (va_up (v 0) 3 (m_pt (v 3) (v 0 1) (v 0 5) (v 0 3) (v 0 4) (v 4)).1) 4 (m_pt (v 3) (v 0 1) (v 0 5) (v 0 3) (v 0 4) (v 4)).2.1)) 4 (m_pt (v 3) (v 0 1) (v 0 5) (v 0 3) (v 0 4) (v 4)).2.2.1)) = (wM q cI (va_up (va_up v 0 (va_up (va_up (v 0) 3 ((v 0 3) + 2)) 4 (bn (((v 0 3) + 2) < v 0 1)))) 4 (va_up (va_up (v 4) (3 * (v 0 5)) (v 3 (v 0 3))) (3 * (v 0 5) + 1) ((v 3 ((v 0 3) + 1)) - 48)))) := (by unfold m_pt; rw [if_pos (by omega), if_pos (by unfold m_hi; (repeat' split) <;> omega), if_pos (by omega), if_neg (by omega)]; first | done | rfl)
                  rw [← w_297] at hP
                  exact W.zret (v := nI 0) hx hb hrt rfl (fun t ht hW => ⟨⟨_, (), rfl, (congrArg nI (by unfold m_pt; rw [if_pos (by omega), if_pos (by unfold m_hi; (repeat' split) <;> omega), if_pos (by omega), if_neg (by omega)])), by show va_P D vwCl _ t.heap; rw [ht]; exact hP⟩, hS.F ht⟩) hS.2.2 dX5_isPart_158
                · skip
                  rw [if_pos c_296] at hP hD
                  have hP : va_P D vwCl (wM q cI (va_up (va_up v 0 (va_up (v 0) 3 ((v 0 3) + 3))) 4 (va_up (va_up (v 4) (3 * (v 0 5)) (v 3 (v 0 3))) (3 * (v 0 5) + 1) ((v 3 ((v 0 3) + 1)) - 48)))) H := hP
                  have hD : va_D A (wM q cI (va_up (va_up v 0 (va_up (v 0) 3 ((v 0 3) + 3))) 4 (va_up (va_up (v 4) (3 * (v 0 5)) (v 3 (v 0 3))) (3 * (v 0 5) + 1) ((v 3 ((v 0 3) + 1)) - 48)))) := hD
                  refine lv_aload_n hx hb dX5_isPart_148 rfl (lv_at hl 1 rfl) ?_
                  refine o_bipush (k := 57) hx hb dX5_isPart_149 (by decide) ?_
                  refine o_wi (va_runV (As := [.int (nI 57)]) (rest := []) ⟨hx, hb, hml, hown, hts⟩ (k_X5_isDigit l D cI cR cS cL H.size q (va_up (va_up v 0 (va_up (v 0) 3 ((v 0 3) + 3))) 4 (va_up (va_up (v 4) (3 * (v 0 5)) (v 3 (v 0 3))) (3 * (v 0 5) + 1) ((v 3 ((v 0 3) + 1)) - 48))) 57 (by show ((v 0 3) + 3) < 2 ^ 31; first | assumption | omega) (by show v 0 1 ≤ 60; first | assumption | omega) (by show ∀ k, v 3 k < 2 ^ 31; first | assumption | omega) (by show 57 < 2 ^ 31; first | assumption | omega)) (cwV 1 hts gX5_isPart_X5_isDigit rfl rfl rfl (by decide +kernel) ⟨Nat.le_of_ble_eq_true rfl, Nat.le_of_ble_eq_true rfl⟩) (o_v (o_pB hK hN hP hD) (va_recv hK hP (ci := 5) (q0 := 0) rfl rfl)) rfl rfl hl.1 rfl (lv_room (Nat.le_of_ble_eq_true rfl)) dX5_isPart_151 ⟨Nat.zero_le _, Nat.zero_le _⟩) hP hD hS hA [0, 1, 2, 3, 4] (by decide) rfl (fun _ => rfl) (fun r_299 _ H locs e_298 hP hD hS => ?_)
                  have e_298 : r_299 = nI (bn (((v 0 3) + 3) < v 0 1 ∧ 48 ≤ v 3 (((v 0 3) + 3)) ∧ v 3 (((v 0 3) + 3)) ≤ 57)) := e_298
                  subst e_298
                  have hP : va_P D vwCl (wM q cI (va_up (va_up v 0 (if ((v 0 3) + 3) < v 0 1 ∧ 48 ≤ v 3 (((v 0 3) + 3)) ∧ v 3 (((v 0 3) + 3)) ≤ 57 then (va_up (va_up (v 0) 3 ((v 0 3) + 3)) 3 ((v 0 3) + 4)) else (va_up (va_up (v 0) 3 ((v 0 3) + 3)) 4 (bn (((v 0 3) + 3) < v 0 1))))) 4 (va_up (va_up (v 4) (3 * (v 0 5)) (v 3 (v 0 3))) (3 * (v 0 5) + 1) ((v 3 ((v 0 3) + 1)) - 48)))) H := hP
                  have hD : va_D A (wM q cI (va_up (va_up v 0 (if ((v 0 3) + 3) < v 0 1 ∧ 48 ≤ v 3 (((v 0 3) + 3)) ∧ v 3 (((v 0 3) + 3)) ≤ 57 then (va_up (va_up (v 0) 3 ((v 0 3) + 3)) 3 ((v 0 3) + 4)) else (va_up (va_up (v 0) 3 ((v 0 3) + 3)) 4 (bn (((v 0 3) + 3) < v 0 1))))) 4 (va_up (va_up (v 4) (3 * (v 0 5)) (v 3 (v 0 3))) (3 * (v 0 5) + 1) ((v 3 ((v 0 3) + 1)) - 48)))) := hD
                  refine o_ifnz (tgt := 159) hx hb dX5_isPart_154 (by decide) (fun c_300 => ?_) (fun c_300 => ?_)
                  · skip
                    rw [if_pos c_300] at hP hD
                    have hP : va_P D vwCl (wM q cI (va_up (va_up v 0 (va_up (v 0) 3 ((v 0 3) + 4))) 4 (va_up (va_up (v 4) (3 * (v 0 5)) (v 3 (v 0 3))) (3 * (v 0 5) + 1) ((v 3 ((v 0 3) + 1)) - 48)))) H := hP
                    have hD : va_D A (wM q cI (va_up (va_up v 0 (va_up (v 0) 3 ((v 0 3) + 4))) 4 (va_up (va_up (v 4) (3 * (v 0 5)) (v 3 (v 0 3))) (3 * (v 0 5) + 1) ((v 3 ((v 0 3) + 1)) - 48)))) := hD
                    refine lv_aload_n hx hb dX5_isPart_159 rfl (lv_at hl 1 rfl) ?_
                    refine va_get (D := D) (ci := 5) (v := .ref (q 4)) (C := RX5) (T := TX5) (N := 10) hx hb hts inX5_isPart_X5 hown hK hP 0 rfl rfl 8 (by decide) (hts (.fieldLink RX5 19 "OddNoticeModel" "told" "[I") (List.mem_of_getElem? (i := 3) (by decide +kernel))) (fun _ h9 => h9) rfl dX5_isPart_160 ?_
                    refine o_const (k := 3) hx hb dX5_isPart_163 (by decide) ?_
                    refine lv_aload_n hx hb dX5_isPart_164 rfl (lv_at hl 1 rfl) ?_
                    refine va_get (D := D) (ci := 5) (v := .int (nI (v 0 5))) (C := RX5) (T := TX5) (N := 10) hx hb hts inX5_isPart_X5 hown hK hP 0 rfl rfl 9 (by decide) (hts (.fieldLink RX5 106 "OddNoticeModel" "tolds" "I") (List.mem_of_getElem? (i := 4) (by decide +kernel))) (fun _ h9 => h9) rfl dX5_isPart_165 ?_
                    refine o_imul (a := 3) (b := (v 0 5)) (k := (3 * (v 0 5))) hx hb dX5_isPart_168 rfl ?_
                    refine o_const (k := 2) hx hb dX5_isPart_169 (by decide) ?_
                    refine o_iadd (a := (3 * (v 0 5))) (b := 2) (k := (3 * (v 0 5) + 2)) hx hb dX5_isPart_170 rfl ?_
                    refine o_bipush (k := 10) hx hb dX5_isPart_171 (by decide) ?_
                    refine lv_aload_n hx hb dX5_isPart_173 rfl (lv_at hl 1 rfl) ?_
                    refine va_get (D := D) (ci := 5) (v := .ref (q 3)) (C := RX5) (T := TX5) (N := 10) hx hb hts inX5_isPart_X5 hown hK hP 0 rfl rfl 3 (by decide) (hts (.fieldLink RX5 16 "OddNoticeModel" "text" "[I") (List.mem_of_getElem? (i := 1) (by decide +kernel))) (fun _ h9 => h9) rfl dX5_isPart_174 ?_
                    refine lv_aload_n hx hb dX5_isPart_177 rfl (lv_at hl 1 rfl) ?_
                    refine va_get (D := D) (ci := 5) (v := .int (nI ((v 0 3) + 4))) (C := RX5) (T := TX5) (N := 10) hx hb hts inX5_isPart_X5 hown hK hP 0 rfl rfl 6 (by decide) (hts (.fieldLink RX5 89 "OddNoticeModel" "at" "I") (List.mem_of_getElem? (i := 2) (by decide +kernel))) (fun _ h9 => h9) rfl dX5_isPart_178 ?_
                    refine o_const (k := 2) hx hb dX5_isPart_181 (by decide) ?_
                    refine o_isub (a := ((v 0 3) + 4)) (b := 2) (k := ((v 0 3) + 2)) hx hb dX5_isPart_182 (by omega) (by omega) ?_
                    refine o_iald (v := nI (v 3 ((v 0 3) + 2))) hx hb hK hP 3 0 rfl rfl (by omega) (Nat.le_of_ble_eq_true rfl) rfl dX5_isPart_183 ?_
                    have f_301 := ht ((v 0 3) + 2)
                    refine o_bipush (k := 48) hx hb dX5_isPart_184 (by decide) ?_
                    refine o_isub (a := (v 3 ((v 0 3) + 2))) (b := 48) (k := ((v 3 ((v 0 3) + 2)) - 48)) hx hb dX5_isPart_186 (by omega) rfl ?_
                    refine o_imul (a := 10) (b := ((v 3 ((v 0 3) + 2)) - 48)) (k := (10 * ((v 3 ((v 0 3) + 2)) - 48))) hx hb dX5_isPart_187 rfl ?_
                    refine lv_aload_n hx hb dX5_isPart_188 rfl (lv_at hl 1 rfl) ?_
                    refine va_get (D := D) (ci := 5) (v := .ref (q 3)) (C := RX5) (T := TX5) (N := 10) hx hb hts inX5_isPart_X5 hown hK hP 0 rfl rfl 3 (by decide) (hts (.fieldLink RX5 16 "OddNoticeModel" "text" "[I") (List.mem_of_getElem? (i := 1) (by decide +kernel))) (fun _ h9 => h9) rfl dX5_isPart_189 ?_
                    refine lv_aload_n hx hb dX5_isPart_192 rfl (lv_at hl 1 rfl) ?_
                    refine va_get (D := D) (ci := 5) (v := .int (nI ((v 0 3) + 4))) (C := RX5) (T := TX5) (N := 10) hx hb hts inX5_isPart_X5 hown hK hP 0 rfl rfl 6 (by decide) (hts (.fieldLink RX5 89 "OddNoticeModel" "at" "I") (List.mem_of_getElem? (i := 2) (by decide +kernel))) (fun _ h9 => h9) rfl dX5_isPart_193 ?_
                    refine o_const (k := 1) hx hb dX5_isPart_196 (by decide) ?_
                    refine o_isub (a := ((v 0 3) + 4)) (b := 1) (k := ((v 0 3) + 3)) hx hb dX5_isPart_197 (by omega) (by omega) ?_
                    refine o_iald (v := nI (v 3 ((v 0 3) + 3))) hx hb hK hP 3 0 rfl rfl (by omega) (Nat.le_of_ble_eq_true rfl) rfl dX5_isPart_198 ?_
                    have f_302 := ht ((v 0 3) + 3)
                    refine o_iadd (a := (10 * ((v 3 ((v 0 3) + 2)) - 48))) (b := (v 3 ((v 0 3) + 3))) (k := (10 * ((v 3 ((v 0 3) + 2)) - 48) + (v 3 ((v 0 3) + 3)))) hx hb dX5_isPart_199 rfl ?_
                    refine o_bipush (k := 48) hx hb dX5_isPart_200 (by decide) ?_
                    refine o_isub (a := (10 * ((v 3 ((v 0 3) + 2)) - 48) + (v 3 ((v 0 3) + 3)))) (b := 48) (k := (10 * ((v 3 ((v 0 3) + 2)) - 48) + (v 3 ((v 0 3) + 3)) - 48)) hx hb dX5_isPart_202 (by omega) rfl ?_
                    refine o_iast (g := (va_up (va_up (v 4) (3 * (v 0 5)) (v 3 (v 0 3))) (3 * (v 0 5) + 1) ((v 3 ((v 0 3) + 1)) - 48))) hx hb hK hP hD hS 4 0 rfl rfl (by omega) (Nat.le_of_ble_eq_true rfl) dX5_isPart_203 (fun H locs hP hD hS => ?_)
                    have hP : va_P D vwCl (wM q cI (va_up (va_up v 0 (va_up (v 0) 3 ((v 0 3) + 4))) 4 (va_up (va_up (va_up (v 4) (3 * (v 0 5)) (v 3 (v 0 3))) (3 * (v 0 5) + 1) ((v 3 ((v 0 3) + 1)) - 48)) (3 * (v 0 5) + 2) (10 * ((v 3 ((v 0 3) + 2)) - 48) + (v 3 ((v 0 3) + 3)) - 48)))) H := hP
                    have hD : va_D A (wM q cI (va_up (va_up v 0 (va_up (v 0) 3 ((v 0 3) + 4))) 4 (va_up (va_up (va_up (v 4) (3 * (v 0 5)) (v 3 (v 0 3))) (3 * (v 0 5) + 1) ((v 3 ((v 0 3) + 1)) - 48)) (3 * (v 0 5) + 2) (10 * ((v 3 ((v 0 3) + 2)) - 48) + (v 3 ((v 0 3) + 3)) - 48)))) := hD
                    refine o_const (k := 1) hx hb dX5_isPart_204 (by decide) ?_
                    have w_303 : (wM q cI (va_up (va_up v 0 (va_up (va_up (v 0) 3 (m_pt (v 3) (v 0 1) (v 0 5) (v 0 3) (v 0 4) (v 4)).1) 4 (m_pt (v 3) (v 0 1) (v 0 5) (v 0 3) (v 0 4) (v 4)).2.1)) 4 (m_pt (v 3) (v 0 1) (v 0 5) (v 0 3) (v 0 4) (v 4)).2.2.1)) = (wM q cI (va_up (va_up v 0 (va_up (v 0) 3 ((v 0 3) + 4))) 4 (va_up (va_up (va_up (v 4) (3 * (v 0 5)) (v 3 (v 0 3))) (3 * (v 0 5) + 1) ((v 3 ((v 0 3) + 1)) - 48)) (3 * (v 0 5) + 2) (10 * ((v 3 ((v 0 3) + 2)) - 48) + (v 3 ((v 0 3) + 3)) - 48)))) := (by unfold m_pt; rw [if_pos (by omega), if_pos (by unfold m_hi; (repeat' split) <;> omega), if_pos (by omega), if_pos (by omega), if_pos (by omega)]; first | done | rfl)
                    rw [← w_303] at hP
                    exact W.zret (v := nI 1) hx hb hrt rfl (fun t ht hW => ⟨⟨_, (), rfl, (congrArg nI (by unfold m_pt; rw [if_pos (by omega), if_pos (by unfold m_hi; (repeat' split) <;> omega), if_pos (by omega), if_pos (by omega), if_pos (by omega)])), by show va_P D vwCl _ t.heap; rw [ht]; exact hP⟩, hS.F ht⟩) hS.2.2 dX5_isPart_205
                  · skip
                    rw [if_neg c_300] at hP hD
                    have hP : va_P D vwCl (wM q cI (va_up (va_up v 0 (va_up (va_up (v 0) 3 ((v 0 3) + 3)) 4 (bn (((v 0 3) + 3) < v 0 1)))) 4 (va_up (va_up (v 4) (3 * (v 0 5)) (v 3 (v 0 3))) (3 * (v 0 5) + 1) ((v 3 ((v 0 3) + 1)) - 48)))) H := hP
                    have hD : va_D A (wM q cI (va_up (va_up v 0 (va_up (va_up (v 0) 3 ((v 0 3) + 3)) 4 (bn (((v 0 3) + 3) < v 0 1)))) 4 (va_up (va_up (v 4) (3 * (v 0 5)) (v 3 (v 0 3))) (3 * (v 0 5) + 1) ((v 3 ((v 0 3) + 1)) - 48)))) := hD
                    refine o_const (k := 0) hx hb dX5_isPart_157 (by decide) ?_
                    have w_304 : (wM q cI (va_up (va_up v 0 (va_up (va_up (v 0) 3 (m_pt (v 3) (v 0 1) (v 0 5) (v 0 3) (v 0 4) (v 4)).1) 4 (m_pt (v 3) (v 0 1) (v 0 5) (v 0 3) (v 0 4) (v 4)).2.1)) 4 (m_pt (v 3) (v 0 1) (v 0 5) (v 0 3) (v 0 4) (v 4)).2.2.1)) = (wM q cI (va_up (va_up v 0 (va_up (va_up (v 0) 3 ((v 0 3) + 3)) 4 (bn (((v 0 3) + 3) < v 0 1)))) 4 (va_up (va_up (v 4) (3 * (v 0 5)) (v 3 (v 0 3))) (3 * (v 0 5) + 1) ((v 3 ((v 0 3) + 1)) - 48)))) := (by unfold m_pt; rw [if_pos (by omega), if_pos (by unfold m_hi; (repeat' split) <;> omega), if_pos (by omega), if_pos (by omega), if_neg (by omega)]; first | done | rfl)
                    rw [← w_304] at hP
                    exact W.zret (v := nI 0) hx hb hrt rfl (fun t ht hW => ⟨⟨_, (), rfl, (congrArg nI (by unfold m_pt; rw [if_pos (by omega), if_pos (by unfold m_hi; (repeat' split) <;> omega), if_pos (by omega), if_pos (by omega), if_neg (by omega)])), by show va_P D vwCl _ t.heap; rw [ht]; exact hP⟩, hS.F ht⟩) hS.2.2 dX5_isPart_158
            · skip
              rw [if_neg c_290] at hP hD
              have hP : va_P D vwCl (wM q cI (va_up v 0 (va_up (va_up (v 0) 3 ((v 0 3) + 1)) 4 (bn (((v 0 3) + 1) < v 0 1))))) H := hP
              have hD : va_D A (wM q cI (va_up v 0 (va_up (va_up (v 0) 3 ((v 0 3) + 1)) 4 (bn (((v 0 3) + 1) < v 0 1))))) := hD
              refine o_const (k := 0) hx hb dX5_isPart_92 (by decide) ?_
              have w_305 : (wM q cI (va_up (va_up v 0 (va_up (va_up (v 0) 3 (m_pt (v 3) (v 0 1) (v 0 5) (v 0 3) (v 0 4) (v 4)).1) 4 (m_pt (v 3) (v 0 1) (v 0 5) (v 0 3) (v 0 4) (v 4)).2.1)) 4 (m_pt (v 3) (v 0 1) (v 0 5) (v 0 3) (v 0 4) (v 4)).2.2.1)) = (wM q cI (va_up v 0 (va_up (va_up (v 0) 3 ((v 0 3) + 1)) 4 (bn (((v 0 3) + 1) < v 0 1))))) := (by unfold m_pt; rw [if_pos (by omega), if_neg (by unfold m_hi; (repeat' split) <;> omega)]; first | done | rfl)
              rw [← w_305] at hP
              exact W.zret (v := nI 0) hx hb hrt rfl (fun t ht hW => ⟨⟨_, (), rfl, (congrArg nI (by unfold m_pt; rw [if_pos (by omega), if_neg (by unfold m_hi; (repeat' split) <;> omega)])), by show va_P D vwCl _ t.heap; rw [ht]; exact hP⟩, hS.F ht⟩) hS.2.2 dX5_isPart_93
        · skip
          refine lv_iload_n hx hb dX5_isPart_34 rfl (lv_at hl 0 rfl) ?_
          refine o_bipush (k := 108) hx hb dX5_isPart_35 (by decide) ?_
          refine o_icmp_eq (tgt := 45) hx hb dX5_isPart_37 (by decide) (by omega) (Nat.le_of_ble_eq_true rfl) (fun c_306 => ?_) (fun c_306 => ?_)
          · skip
            refine lv_aload_n hx hb dX5_isPart_45 rfl (lv_at hl 1 rfl) ?_
            refine lv_dup hx hb dX5_isPart_46 rfl ?_
            refine va_get (D := D) (ci := 5) (v := .int (nI (v 0 3))) (C := RX5) (T := TX5) (N := 10) hx hb hts inX5_isPart_X5 hown hK hP 0 rfl rfl 6 (by decide) (hts (.fieldLink RX5 89 "OddNoticeModel" "at" "I") (List.mem_of_getElem? (i := 2) (by decide +kernel))) (fun _ h9 => h9) rfl dX5_isPart_47 ?_
            refine o_const (k := 1) hx hb dX5_isPart_50 (by decide) ?_
            refine o_iadd (a := (v 0 3)) (b := 1) (k := ((v 0 3) + 1)) hx hb dX5_isPart_51 rfl ?_
            refine va_put (D := D) (ci := 5) (v := .int (nI ((v 0 3) + 1))) (ty := .int) (C := RX5) (T := TX5) (N := 10) hx hb hts inX5_isPart_X5 tyX5 tyX5_ok nmX5 hown hK hP hD hS 0 rfl rfl 6 (by decide) (hts (.fieldLink RX5 89 "OddNoticeModel" "at" "I") (List.mem_of_getElem? (i := 2) (by decide +kernel))) (fun _ h9 => h9) rfl (by decide +kernel) rfl rfl (Nat.le_of_ble_eq_true rfl) dX5_isPart_52 (fun H locs hP hD hS => ?_)
            have hP : va_P D vwCl (wM q cI (va_up v 0 (va_up (v 0) 3 ((v 0 3) + 1)))) H := hP
            have hD : va_D A (wM q cI (va_up v 0 (va_up (v 0) 3 ((v 0 3) + 1)))) := hD
            refine lv_aload_n hx hb dX5_isPart_55 rfl (lv_at hl 1 rfl) ?_
            refine lv_iload_n hx hb dX5_isPart_56 rfl (lv_at hl 0 rfl) ?_
            refine o_bipush (k := 119) hx hb dX5_isPart_57 (by decide) ?_
            refine o_icmp_ne (tgt := 67) hx hb dX5_isPart_59 (by decide) (by omega) (Nat.le_of_ble_eq_true rfl) (fun c_307 => ?_) (fun c_307 => ?_)
            · skip
              refine lv_iload_n hx hb dX5_isPart_67 rfl (lv_at hl 0 rfl) ?_
              refine o_bipush (k := 99) hx hb dX5_isPart_68 (by decide) ?_
              refine o_icmp_eq (tgt := 79) hx hb dX5_isPart_70 (by decide) (by omega) (Nat.le_of_ble_eq_true rfl) (fun c_308 => ?_) (fun c_308 => ?_)
              · skip
                refine o_bipush (k := 50) hx hb dX5_isPart_79 (by decide) ?_
                refine lv_goto (tgt := 86) hx hb dX5_isPart_81 (by decide) ?_
                refine o_wi (va_runV (As := [.int (nI 50)]) (rest := []) ⟨hx, hb, hml, hown, hts⟩ (k_X5_isDigit l D cI cR cS cL H.size q (va_up v 0 (va_up (v 0) 3 ((v 0 3) + 1))) 50 (by show ((v 0 3) + 1) < 2 ^ 31; first | assumption | omega) (by show v 0 1 ≤ 60; first | assumption | omega) (by show ∀ k, v 3 k < 2 ^ 31; first | assumption | omega) (by show 50 < 2 ^ 31; first | assumption | omega)) (cwV 1 hts gX5_isPart_X5_isDigit rfl rfl rfl (by decide +kernel) ⟨Nat.le_of_ble_eq_true rfl, Nat.le_of_ble_eq_true rfl⟩) (o_v (o_pB hK hN hP hD) (va_recv hK hP (ci := 5) (q0 := 0) rfl rfl)) rfl rfl hl.1 rfl (lv_room (Nat.le_of_ble_eq_true rfl)) dX5_isPart_86 ⟨Nat.zero_le _, Nat.zero_le _⟩) hP hD hS hA [0, 1, 2, 3, 4] (by decide) rfl (fun _ => rfl) (fun r_310 _ H locs e_309 hP hD hS => ?_)
                have e_309 : r_310 = nI (bn (((v 0 3) + 1) < v 0 1 ∧ 48 ≤ v 3 (((v 0 3) + 1)) ∧ v 3 (((v 0 3) + 1)) ≤ 50)) := e_309
                subst e_309
                have hP : va_P D vwCl (wM q cI (va_up v 0 (if ((v 0 3) + 1) < v 0 1 ∧ 48 ≤ v 3 (((v 0 3) + 1)) ∧ v 3 (((v 0 3) + 1)) ≤ 50 then (va_up (va_up (v 0) 3 ((v 0 3) + 1)) 3 ((v 0 3) + 2)) else (va_up (va_up (v 0) 3 ((v 0 3) + 1)) 4 (bn (((v 0 3) + 1) < v 0 1)))))) H := hP
                have hD : va_D A (wM q cI (va_up v 0 (if ((v 0 3) + 1) < v 0 1 ∧ 48 ≤ v 3 (((v 0 3) + 1)) ∧ v 3 (((v 0 3) + 1)) ≤ 50 then (va_up (va_up (v 0) 3 ((v 0 3) + 1)) 3 ((v 0 3) + 2)) else (va_up (va_up (v 0) 3 ((v 0 3) + 1)) 4 (bn (((v 0 3) + 1) < v 0 1)))))) := hD
                refine o_ifnz (tgt := 94) hx hb dX5_isPart_89 (by decide) (fun c_311 => ?_) (fun c_311 => ?_)
                · skip
                  rw [if_pos c_311] at hP hD
                  have hP : va_P D vwCl (wM q cI (va_up v 0 (va_up (v 0) 3 ((v 0 3) + 2)))) H := hP
                  have hD : va_D A (wM q cI (va_up v 0 (va_up (v 0) 3 ((v 0 3) + 2)))) := hD
                  refine lv_aload_n hx hb dX5_isPart_94 rfl (lv_at hl 1 rfl) ?_
                  refine va_get (D := D) (ci := 5) (v := .ref (q 4)) (C := RX5) (T := TX5) (N := 10) hx hb hts inX5_isPart_X5 hown hK hP 0 rfl rfl 8 (by decide) (hts (.fieldLink RX5 19 "OddNoticeModel" "told" "[I") (List.mem_of_getElem? (i := 3) (by decide +kernel))) (fun _ h9 => h9) rfl dX5_isPart_95 ?_
                  refine o_const (k := 3) hx hb dX5_isPart_98 (by decide) ?_
                  refine lv_aload_n hx hb dX5_isPart_99 rfl (lv_at hl 1 rfl) ?_
                  refine va_get (D := D) (ci := 5) (v := .int (nI (v 0 5))) (C := RX5) (T := TX5) (N := 10) hx hb hts inX5_isPart_X5 hown hK hP 0 rfl rfl 9 (by decide) (hts (.fieldLink RX5 106 "OddNoticeModel" "tolds" "I") (List.mem_of_getElem? (i := 4) (by decide +kernel))) (fun _ h9 => h9) rfl dX5_isPart_100 ?_
                  refine o_imul (a := 3) (b := (v 0 5)) (k := (3 * (v 0 5))) hx hb dX5_isPart_103 rfl ?_
                  refine lv_iload_n hx hb dX5_isPart_104 rfl (lv_at hl 0 rfl) ?_
                  refine o_iast (g := (v 4)) hx hb hK hP hD hS 4 0 rfl rfl (by omega) (Nat.le_of_ble_eq_true rfl) dX5_isPart_105 (fun H locs hP hD hS => ?_)
                  have hP : va_P D vwCl (wM q cI (va_up (va_up v 0 (va_up (v 0) 3 ((v 0 3) + 2))) 4 (va_up (v 4) (3 * (v 0 5)) (v 3 (v 0 3))))) H := hP
                  have hD : va_D A (wM q cI (va_up (va_up v 0 (va_up (v 0) 3 ((v 0 3) + 2))) 4 (va_up (v 4) (3 * (v 0 5)) (v 3 (v 0 3))))) := hD
                  refine lv_aload_n hx hb dX5_isPart_106 rfl (lv_at hl 1 rfl) ?_
                  refine va_get (D := D) (ci := 5) (v := .ref (q 4)) (C := RX5) (T := TX5) (N := 10) hx hb hts inX5_isPart_X5 hown hK hP 0 rfl rfl 8 (by decide) (hts (.fieldLink RX5 19 "OddNoticeModel" "told" "[I") (List.mem_of_getElem? (i := 3) (by decide +kernel))) (fun _ h9 => h9) rfl dX5_isPart_107 ?_
                  refine o_const (k := 3) hx hb dX5_isPart_110 (by decide) ?_
                  refine lv_aload_n hx hb dX5_isPart_111 rfl (lv_at hl 1 rfl) ?_
                  refine va_get (D := D) (ci := 5) (v := .int (nI (v 0 5))) (C := RX5) (T := TX5) (N := 10) hx hb hts inX5_isPart_X5 hown hK hP 0 rfl rfl 9 (by decide) (hts (.fieldLink RX5 106 "OddNoticeModel" "tolds" "I") (List.mem_of_getElem? (i := 4) (by decide +kernel))) (fun _ h9 => h9) rfl dX5_isPart_112 ?_
                  refine o_imul (a := 3) (b := (v 0 5)) (k := (3 * (v 0 5))) hx hb dX5_isPart_115 rfl ?_
                  refine o_const (k := 1) hx hb dX5_isPart_116 (by decide) ?_
                  refine o_iadd (a := (3 * (v 0 5))) (b := 1) (k := (3 * (v 0 5) + 1)) hx hb dX5_isPart_117 rfl ?_
                  refine lv_aload_n hx hb dX5_isPart_118 rfl (lv_at hl 1 rfl) ?_
                  refine va_get (D := D) (ci := 5) (v := .ref (q 3)) (C := RX5) (T := TX5) (N := 10) hx hb hts inX5_isPart_X5 hown hK hP 0 rfl rfl 3 (by decide) (hts (.fieldLink RX5 16 "OddNoticeModel" "text" "[I") (List.mem_of_getElem? (i := 1) (by decide +kernel))) (fun _ h9 => h9) rfl dX5_isPart_119 ?_
                  refine lv_aload_n hx hb dX5_isPart_122 rfl (lv_at hl 1 rfl) ?_
                  refine va_get (D := D) (ci := 5) (v := .int (nI ((v 0 3) + 2))) (C := RX5) (T := TX5) (N := 10) hx hb hts inX5_isPart_X5 hown hK hP 0 rfl rfl 6 (by decide) (hts (.fieldLink RX5 89 "OddNoticeModel" "at" "I") (List.mem_of_getElem? (i := 2) (by decide +kernel))) (fun _ h9 => h9) rfl dX5_isPart_123 ?_
                  refine o_const (k := 1) hx hb dX5_isPart_126 (by decide) ?_
                  refine o_isub (a := ((v 0 3) + 2)) (b := 1) (k := ((v 0 3) + 1)) hx hb dX5_isPart_127 (by omega) (by omega) ?_
                  refine o_iald (v := nI (v 3 ((v 0 3) + 1))) hx hb hK hP 3 0 rfl rfl (by omega) (Nat.le_of_ble_eq_true rfl) rfl dX5_isPart_128 ?_
                  have f_312 := ht ((v 0 3) + 1)
                  refine o_bipush (k := 48) hx hb dX5_isPart_129 (by decide) ?_
                  refine o_isub (a := (v 3 ((v 0 3) + 1))) (b := 48) (k := ((v 3 ((v 0 3) + 1)) - 48)) hx hb dX5_isPart_131 (by omega) rfl ?_
                  refine o_iast (g := (va_up (v 4) (3 * (v 0 5)) (v 3 (v 0 3)))) hx hb hK hP hD hS 4 0 rfl rfl (by omega) (Nat.le_of_ble_eq_true rfl) dX5_isPart_132 (fun H locs hP hD hS => ?_)
                  have hP : va_P D vwCl (wM q cI (va_up (va_up v 0 (va_up (v 0) 3 ((v 0 3) + 2))) 4 (va_up (va_up (v 4) (3 * (v 0 5)) (v 3 (v 0 3))) (3 * (v 0 5) + 1) ((v 3 ((v 0 3) + 1)) - 48)))) H := hP
                  have hD : va_D A (wM q cI (va_up (va_up v 0 (va_up (v 0) 3 ((v 0 3) + 2))) 4 (va_up (va_up (v 4) (3 * (v 0 5)) (v 3 (v 0 3))) (3 * (v 0 5) + 1) ((v 3 ((v 0 3) + 1)) - 48)))) := hD
                  refine lv_iload_n hx hb dX5_isPart_133 rfl (lv_at hl 0 rfl) ?_
                  refine o_bipush (k := 119) hx hb dX5_isPart_134 (by decide) ?_
                  refine o_icmp_ne (tgt := 204) hx hb dX5_isPart_136 (by decide) (by omega) (Nat.le_of_ble_eq_true rfl) (fun c_313 => ?_) (fun c_313 => ?_)
                  · skip
                    refine o_const (k := 1) hx hb dX5_isPart_204 (by decide) ?_
                    have w_314 : (wM q cI (va_up (va_up v 0 (va_up (va_up (v 0) 3 (m_pt (v 3) (v 0 1) (v 0 5) (v 0 3) (v 0 4) (v 4)).1) 4 (m_pt (v 3) (v 0 1) (v 0 5) (v 0 3) (v 0 4) (v 4)).2.1)) 4 (m_pt (v 3) (v 0 1) (v 0 5) (v 0 3) (v 0 4) (v 4)).2.2.1)) = (wM q cI (va_up (va_up v 0 (va_up (v 0) 3 ((v 0 3) + 2))) 4 (va_up (va_up (v 4) (3 * (v 0 5)) (v 3 (v 0 3))) (3 * (v 0 5) + 1) ((v 3 ((v 0 3) + 1)) - 48)))) := (by unfold m_pt; rw [if_pos (by omega), if_pos (by unfold m_hi; (repeat' split) <;> omega), if_neg (by omega)]; first | done | rfl)
                    rw [← w_314] at hP
                    exact W.zret (v := nI 1) hx hb hrt rfl (fun t ht hW => ⟨⟨_, (), rfl, (congrArg nI (by unfold m_pt; rw [if_pos (by omega), if_pos (by unfold m_hi; (repeat' split) <;> omega), if_neg (by omega)])), by show va_P D vwCl _ t.heap; rw [ht]; exact hP⟩, hS.F ht⟩) hS.2.2 dX5_isPart_205
                  · skip
                    refine lv_aload_n hx hb dX5_isPart_139 rfl (lv_at hl 1 rfl) ?_
                    refine o_bipush (k := 57) hx hb dX5_isPart_140 (by decide) ?_
                    refine o_wi (va_runV (As := [.int (nI 57)]) (rest := []) ⟨hx, hb, hml, hown, hts⟩ (k_X5_isDigit l D cI cR cS cL H.size q (va_up (va_up v 0 (va_up (v 0) 3 ((v 0 3) + 2))) 4 (va_up (va_up (v 4) (3 * (v 0 5)) (v 3 (v 0 3))) (3 * (v 0 5) + 1) ((v 3 ((v 0 3) + 1)) - 48))) 57 (by show ((v 0 3) + 2) < 2 ^ 31; first | assumption | omega) (by show v 0 1 ≤ 60; first | assumption | omega) (by show ∀ k, v 3 k < 2 ^ 31; first | assumption | omega) (by show 57 < 2 ^ 31; first | assumption | omega)) (cwV 1 hts gX5_isPart_X5_isDigit rfl rfl rfl (by decide +kernel) ⟨Nat.le_of_ble_eq_true rfl, Nat.le_of_ble_eq_true rfl⟩) (o_v (o_pB hK hN hP hD) (va_recv hK hP (ci := 5) (q0 := 0) rfl rfl)) rfl rfl hl.1 rfl (lv_room (Nat.le_of_ble_eq_true rfl)) dX5_isPart_142 ⟨Nat.zero_le _, Nat.zero_le _⟩) hP hD hS hA [0, 1, 2, 3, 4] (by decide) rfl (fun _ => rfl) (fun r_316 _ H locs e_315 hP hD hS => ?_)
                    have e_315 : r_316 = nI (bn (((v 0 3) + 2) < v 0 1 ∧ 48 ≤ v 3 (((v 0 3) + 2)) ∧ v 3 (((v 0 3) + 2)) ≤ 57)) := e_315
                    subst e_315
                    have hP : va_P D vwCl (wM q cI (va_up (va_up v 0 (if ((v 0 3) + 2) < v 0 1 ∧ 48 ≤ v 3 (((v 0 3) + 2)) ∧ v 3 (((v 0 3) + 2)) ≤ 57 then (va_up (va_up (v 0) 3 ((v 0 3) + 2)) 3 ((v 0 3) + 3)) else (va_up (va_up (v 0) 3 ((v 0 3) + 2)) 4 (bn (((v 0 3) + 2) < v 0 1))))) 4 (va_up (va_up (v 4) (3 * (v 0 5)) (v 3 (v 0 3))) (3 * (v 0 5) + 1) ((v 3 ((v 0 3) + 1)) - 48)))) H := hP
                    have hD : va_D A (wM q cI (va_up (va_up v 0 (if ((v 0 3) + 2) < v 0 1 ∧ 48 ≤ v 3 (((v 0 3) + 2)) ∧ v 3 (((v 0 3) + 2)) ≤ 57 then (va_up (va_up (v 0) 3 ((v 0 3) + 2)) 3 ((v 0 3) + 3)) else (va_up (va_up (v 0) 3 ((v 0 3) + 2)) 4 (bn (((v 0 3) + 2) < v 0 1))))) 4 (va_up (va_up (v 4) (3 * (v 0 5)) (v 3 (v 0 3))) (3 * (v 0 5) + 1) ((v 3 ((v 0 3) + 1)) - 48)))) := hD
                    refine o_ifz (tgt := 157) hx hb dX5_isPart_145 (by decide) (fun c_317 => ?_) (fun c_317 => ?_)
                    · skip
                      rw [if_neg c_317] at hP hD
                      have hP : va_P D vwCl (wM q cI (va_up (va_up v 0 (va_up (va_up (v 0) 3 ((v 0 3) + 2)) 4 (bn (((v 0 3) + 2) < v 0 1)))) 4 (va_up (va_up (v 4) (3 * (v 0 5)) (v 3 (v 0 3))) (3 * (v 0 5) + 1) ((v 3 ((v 0 3) + 1)) - 48)))) H := hP
                      have hD : va_D A (wM q cI (va_up (va_up v 0 (va_up (va_up (v 0) 3 ((v 0 3) + 2)) 4 (bn (((v 0 3) + 2) < v 0 1)))) 4 (va_up (va_up (v 4) (3 * (v 0 5)) (v 3 (v 0 3))) (3 * (v 0 5) + 1) ((v 3 ((v 0 3) + 1)) - 48)))) := hD
                      refine o_const (k := 0) hx hb dX5_isPart_157 (by decide) ?_
                      have w_318 : (wM q cI (va_up (va_up v 0 (va_up (va_up (v 0) 3 (m_pt (v 3) (v 0 1) (v 0 5) (v 0 3) (v 0 4) (v 4)).1) 4 (m_pt (v 3) (v 0 1) (v 0 5) (v 0 3) (v 0 4) (v 4)).2.1)) 4 (m_pt (v 3) (v 0 1) (v 0 5) (v 0 3) (v 0 4) (v 4)).2.2.1)) = (wM q cI (va_up (va_up v 0 (va_up (va_up (v 0) 3 ((v 0 3) + 2)) 4 (bn (((v 0 3) + 2) < v 0 1)))) 4 (va_up (va_up (v 4) (3 * (v 0 5)) (v 3 (v 0 3))) (3 * (v 0 5) + 1) ((v 3 ((v 0 3) + 1)) - 48)))) := (by unfold m_pt; rw [if_pos (by omega), if_pos (by unfold m_hi; (repeat' split) <;> omega), if_pos (by omega), if_neg (by omega)]; first | done | rfl)
                      rw [← w_318] at hP
                      exact W.zret (v := nI 0) hx hb hrt rfl (fun t ht hW => ⟨⟨_, (), rfl, (congrArg nI (by unfold m_pt; rw [if_pos (by omega), if_pos (by unfold m_hi; (repeat' split) <;> omega), if_pos (by omega), if_neg (by omega)])), by show va_P D vwCl _ t.heap; rw [ht]; exact hP⟩, hS.F ht⟩) hS.2.2 dX5_isPart_158
                    · skip
                      rw [if_pos c_317] at hP hD
                      have hP : va_P D vwCl (wM q cI (va_up (va_up v 0 (va_up (v 0) 3 ((v 0 3) + 3))) 4 (va_up (va_up (v 4) (3 * (v 0 5)) (v 3 (v 0 3))) (3 * (v 0 5) + 1) ((v 3 ((v 0 3) + 1)) - 48)))) H := hP
                      have hD : va_D A (wM q cI (va_up (va_up v 0 (va_up (v 0) 3 ((v 0 3) + 3))) 4 (va_up (va_up (v 4) (3 * (v 0 5)) (v 3 (v 0 3))) (3 * (v 0 5) + 1) ((v 3 ((v 0 3) + 1)) - 48)))) := hD
                      refine lv_aload_n hx hb dX5_isPart_148 rfl (lv_at hl 1 rfl) ?_
                      refine o_bipush (k := 57) hx hb dX5_isPart_149 (by decide) ?_
                      refine o_wi (va_runV (As := [.int (nI 57)]) (rest := []) ⟨hx, hb, hml, hown, hts⟩ (k_X5_isDigit l D cI cR cS cL H.size q (va_up (va_up v 0 (va_up (v 0) 3 ((v 0 3) + 3))) 4 (va_up (va_up (v 4) (3 * (v 0 5)) (v 3 (v 0 3))) (3 * (v 0 5) + 1) ((v 3 ((v 0 3) + 1)) - 48))) 57 (by show ((v 0 3) + 3) < 2 ^ 31; first | assumption | omega) (by show v 0 1 ≤ 60; first | assumption | omega) (by show ∀ k, v 3 k < 2 ^ 31; first | assumption | omega) (by show 57 < 2 ^ 31; first | assumption | omega)) (cwV 1 hts gX5_isPart_X5_isDigit rfl rfl rfl (by decide +kernel) ⟨Nat.le_of_ble_eq_true rfl, Nat.le_of_ble_eq_true rfl⟩) (o_v (o_pB hK hN hP hD) (va_recv hK hP (ci := 5) (q0 := 0) rfl rfl)) rfl rfl hl.1 rfl (lv_room (Nat.le_of_ble_eq_true rfl)) dX5_isPart_151 ⟨Nat.zero_le _, Nat.zero_le _⟩) hP hD hS hA [0, 1, 2, 3, 4] (by decide) rfl (fun _ => rfl) (fun r_320 _ H locs e_319 hP hD hS => ?_)
                      have e_319 : r_320 = nI (bn (((v 0 3) + 3) < v 0 1 ∧ 48 ≤ v 3 (((v 0 3) + 3)) ∧ v 3 (((v 0 3) + 3)) ≤ 57)) := e_319
                      subst e_319
                      have hP : va_P D vwCl (wM q cI (va_up (va_up v 0 (if ((v 0 3) + 3) < v 0 1 ∧ 48 ≤ v 3 (((v 0 3) + 3)) ∧ v 3 (((v 0 3) + 3)) ≤ 57 then (va_up (va_up (v 0) 3 ((v 0 3) + 3)) 3 ((v 0 3) + 4)) else (va_up (va_up (v 0) 3 ((v 0 3) + 3)) 4 (bn (((v 0 3) + 3) < v 0 1))))) 4 (va_up (va_up (v 4) (3 * (v 0 5)) (v 3 (v 0 3))) (3 * (v 0 5) + 1) ((v 3 ((v 0 3) + 1)) - 48)))) H := hP
                      have hD : va_D A (wM q cI (va_up (va_up v 0 (if ((v 0 3) + 3) < v 0 1 ∧ 48 ≤ v 3 (((v 0 3) + 3)) ∧ v 3 (((v 0 3) + 3)) ≤ 57 then (va_up (va_up (v 0) 3 ((v 0 3) + 3)) 3 ((v 0 3) + 4)) else (va_up (va_up (v 0) 3 ((v 0 3) + 3)) 4 (bn (((v 0 3) + 3) < v 0 1))))) 4 (va_up (va_up (v 4) (3 * (v 0 5)) (v 3 (v 0 3))) (3 * (v 0 5) + 1) ((v 3 ((v 0 3) + 1)) - 48)))) := hD
                      refine o_ifnz (tgt := 159) hx hb dX5_isPart_154 (by decide) (fun c_321 => ?_) (fun c_321 => ?_)
                      · skip
                        rw [if_pos c_321] at hP hD
                        have hP : va_P D vwCl (wM q cI (va_up (va_up v 0 (va_up (v 0) 3 ((v 0 3) + 4))) 4 (va_up (va_up (v 4) (3 * (v 0 5)) (v 3 (v 0 3))) (3 * (v 0 5) + 1) ((v 3 ((v 0 3) + 1)) - 48)))) H := hP
                        have hD : va_D A (wM q cI (va_up (va_up v 0 (va_up (v 0) 3 ((v 0 3) + 4))) 4 (va_up (va_up (v 4) (3 * (v 0 5)) (v 3 (v 0 3))) (3 * (v 0 5) + 1) ((v 3 ((v 0 3) + 1)) - 48)))) := hD
                        refine lv_aload_n hx hb dX5_isPart_159 rfl (lv_at hl 1 rfl) ?_
                        refine va_get (D := D) (ci := 5) (v := .ref (q 4)) (C := RX5) (T := TX5) (N := 10) hx hb hts inX5_isPart_X5 hown hK hP 0 rfl rfl 8 (by decide) (hts (.fieldLink RX5 19 "OddNoticeModel" "told" "[I") (List.mem_of_getElem? (i := 3) (by decide +kernel))) (fun _ h9 => h9) rfl dX5_isPart_160 ?_
                        refine o_const (k := 3) hx hb dX5_isPart_163 (by decide) ?_
                        refine lv_aload_n hx hb dX5_isPart_164 rfl (lv_at hl 1 rfl) ?_
                        refine va_get (D := D) (ci := 5) (v := .int (nI (v 0 5))) (C := RX5) (T := TX5) (N := 10) hx hb hts inX5_isPart_X5 hown hK hP 0 rfl rfl 9 (by decide) (hts (.fieldLink RX5 106 "OddNoticeModel" "tolds" "I") (List.mem_of_getElem? (i := 4) (by decide +kernel))) (fun _ h9 => h9) rfl dX5_isPart_165 ?_
                        refine o_imul (a := 3) (b := (v 0 5)) (k := (3 * (v 0 5))) hx hb dX5_isPart_168 rfl ?_
                        refine o_const (k := 2) hx hb dX5_isPart_169 (by decide) ?_
                        refine o_iadd (a := (3 * (v 0 5))) (b := 2) (k := (3 * (v 0 5) + 2)) hx hb dX5_isPart_170 rfl ?_
                        refine o_bipush (k := 10) hx hb dX5_isPart_171 (by decide) ?_
                        refine lv_aload_n hx hb dX5_isPart_173 rfl (lv_at hl 1 rfl) ?_
                        refine va_get (D := D) (ci := 5) (v := .ref (q 3)) (C := RX5) (T := TX5) (N := 10) hx hb hts inX5_isPart_X5 hown hK hP 0 rfl rfl 3 (by decide) (hts (.fieldLink RX5 16 "OddNoticeModel" "text" "[I") (List.mem_of_getElem? (i := 1) (by decide +kernel))) (fun _ h9 => h9) rfl dX5_isPart_174 ?_
                        refine lv_aload_n hx hb dX5_isPart_177 rfl (lv_at hl 1 rfl) ?_
                        refine va_get (D := D) (ci := 5) (v := .int (nI ((v 0 3) + 4))) (C := RX5) (T := TX5) (N := 10) hx hb hts inX5_isPart_X5 hown hK hP 0 rfl rfl 6 (by decide) (hts (.fieldLink RX5 89 "OddNoticeModel" "at" "I") (List.mem_of_getElem? (i := 2) (by decide +kernel))) (fun _ h9 => h9) rfl dX5_isPart_178 ?_
                        refine o_const (k := 2) hx hb dX5_isPart_181 (by decide) ?_
                        refine o_isub (a := ((v 0 3) + 4)) (b := 2) (k := ((v 0 3) + 2)) hx hb dX5_isPart_182 (by omega) (by omega) ?_
                        refine o_iald (v := nI (v 3 ((v 0 3) + 2))) hx hb hK hP 3 0 rfl rfl (by omega) (Nat.le_of_ble_eq_true rfl) rfl dX5_isPart_183 ?_
                        have f_322 := ht ((v 0 3) + 2)
                        refine o_bipush (k := 48) hx hb dX5_isPart_184 (by decide) ?_
                        refine o_isub (a := (v 3 ((v 0 3) + 2))) (b := 48) (k := ((v 3 ((v 0 3) + 2)) - 48)) hx hb dX5_isPart_186 (by omega) rfl ?_
                        refine o_imul (a := 10) (b := ((v 3 ((v 0 3) + 2)) - 48)) (k := (10 * ((v 3 ((v 0 3) + 2)) - 48))) hx hb dX5_isPart_187 rfl ?_
                        refine lv_aload_n hx hb dX5_isPart_188 rfl (lv_at hl 1 rfl) ?_
                        refine va_get (D := D) (ci := 5) (v := .ref (q 3)) (C := RX5) (T := TX5) (N := 10) hx hb hts inX5_isPart_X5 hown hK hP 0 rfl rfl 3 (by decide) (hts (.fieldLink RX5 16 "OddNoticeModel" "text" "[I") (List.mem_of_getElem? (i := 1) (by decide +kernel))) (fun _ h9 => h9) rfl dX5_isPart_189 ?_
                        refine lv_aload_n hx hb dX5_isPart_192 rfl (lv_at hl 1 rfl) ?_
                        refine va_get (D := D) (ci := 5) (v := .int (nI ((v 0 3) + 4))) (C := RX5) (T := TX5) (N := 10) hx hb hts inX5_isPart_X5 hown hK hP 0 rfl rfl 6 (by decide) (hts (.fieldLink RX5 89 "OddNoticeModel" "at" "I") (List.mem_of_getElem? (i := 2) (by decide +kernel))) (fun _ h9 => h9) rfl dX5_isPart_193 ?_
                        refine o_const (k := 1) hx hb dX5_isPart_196 (by decide) ?_
                        refine o_isub (a := ((v 0 3) + 4)) (b := 1) (k := ((v 0 3) + 3)) hx hb dX5_isPart_197 (by omega) (by omega) ?_
                        refine o_iald (v := nI (v 3 ((v 0 3) + 3))) hx hb hK hP 3 0 rfl rfl (by omega) (Nat.le_of_ble_eq_true rfl) rfl dX5_isPart_198 ?_
                        have f_323 := ht ((v 0 3) + 3)
                        refine o_iadd (a := (10 * ((v 3 ((v 0 3) + 2)) - 48))) (b := (v 3 ((v 0 3) + 3))) (k := (10 * ((v 3 ((v 0 3) + 2)) - 48) + (v 3 ((v 0 3) + 3)))) hx hb dX5_isPart_199 rfl ?_
                        refine o_bipush (k := 48) hx hb dX5_isPart_200 (by decide) ?_
                        refine o_isub (a := (10 * ((v 3 ((v 0 3) + 2)) - 48) + (v 3 ((v 0 3) + 3)))) (b := 48) (k := (10 * ((v 3 ((v 0 3) + 2)) - 48) + (v 3 ((v 0 3) + 3)) - 48)) hx hb dX5_isPart_202 (by omega) rfl ?_
                        refine o_iast (g := (va_up (va_up (v 4) (3 * (v 0 5)) (v 3 (v 0 3))) (3 * (v 0 5) + 1) ((v 3 ((v 0 3) + 1)) - 48))) hx hb hK hP hD hS 4 0 rfl rfl (by omega) (Nat.le_of_ble_eq_true rfl) dX5_isPart_203 (fun H locs hP hD hS => ?_)
                        have hP : va_P D vwCl (wM q cI (va_up (va_up v 0 (va_up (v 0) 3 ((v 0 3) + 4))) 4 (va_up (va_up (va_up (v 4) (3 * (v 0 5)) (v 3 (v 0 3))) (3 * (v 0 5) + 1) ((v 3 ((v 0 3) + 1)) - 48)) (3 * (v 0 5) + 2) (10 * ((v 3 ((v 0 3) + 2)) - 48) + (v 3 ((v 0 3) + 3)) - 48)))) H := hP
                        have hD : va_D A (wM q cI (va_up (va_up v 0 (va_up (v 0) 3 ((v 0 3) + 4))) 4 (va_up (va_up (va_up (v 4) (3 * (v 0 5)) (v 3 (v 0 3))) (3 * (v 0 5) + 1) ((v 3 ((v 0 3) + 1)) - 48)) (3 * (v 0 5) + 2) (10 * ((v 3 ((v 0 3) + 2)) - 48) + (v 3 ((v 0 3) + 3)) - 48)))) := hD
                        refine o_const (k := 1) hx hb dX5_isPart_204 (by decide) ?_
                        have w_324 : (wM q cI (va_up (va_up v 0 (va_up (va_up (v 0) 3 (m_pt (v 3) (v 0 1) (v 0 5) (v 0 3) (v 0 4) (v 4)).1) 4 (m_pt (v 3) (v 0 1) (v 0 5) (v 0 3) (v 0 4) (v 4)).2.1)) 4 (m_pt (v 3) (v 0 1) (v 0 5) (v 0 3) (v 0 4) (v 4)).2.2.1)) = (wM q cI (va_up (va_up v 0 (va_up (v 0) 3 ((v 0 3) + 4))) 4 (va_up (va_up (va_up (v 4) (3 * (v 0 5)) (v 3 (v 0 3))) (3 * (v 0 5) + 1) ((v 3 ((v 0 3) + 1)) - 48)) (3 * (v 0 5) + 2) (10 * ((v 3 ((v 0 3) + 2)) - 48) + (v 3 ((v 0 3) + 3)) - 48)))) := (by unfold m_pt; rw [if_pos (by omega), if_pos (by unfold m_hi; (repeat' split) <;> omega), if_pos (by omega), if_pos (by omega), if_pos (by omega)]; first | done | rfl)
                        rw [← w_324] at hP
                        exact W.zret (v := nI 1) hx hb hrt rfl (fun t ht hW => ⟨⟨_, (), rfl, (congrArg nI (by unfold m_pt; rw [if_pos (by omega), if_pos (by unfold m_hi; (repeat' split) <;> omega), if_pos (by omega), if_pos (by omega), if_pos (by omega)])), by show va_P D vwCl _ t.heap; rw [ht]; exact hP⟩, hS.F ht⟩) hS.2.2 dX5_isPart_205
                      · skip
                        rw [if_neg c_321] at hP hD
                        have hP : va_P D vwCl (wM q cI (va_up (va_up v 0 (va_up (va_up (v 0) 3 ((v 0 3) + 3)) 4 (bn (((v 0 3) + 3) < v 0 1)))) 4 (va_up (va_up (v 4) (3 * (v 0 5)) (v 3 (v 0 3))) (3 * (v 0 5) + 1) ((v 3 ((v 0 3) + 1)) - 48)))) H := hP
                        have hD : va_D A (wM q cI (va_up (va_up v 0 (va_up (va_up (v 0) 3 ((v 0 3) + 3)) 4 (bn (((v 0 3) + 3) < v 0 1)))) 4 (va_up (va_up (v 4) (3 * (v 0 5)) (v 3 (v 0 3))) (3 * (v 0 5) + 1) ((v 3 ((v 0 3) + 1)) - 48)))) := hD
                        refine o_const (k := 0) hx hb dX5_isPart_157 (by decide) ?_
                        have w_325 : (wM q cI (va_up (va_up v 0 (va_up (va_up (v 0) 3 (m_pt (v 3) (v 0 1) (v 0 5) (v 0 3) (v 0 4) (v 4)).1) 4 (m_pt (v 3) (v 0 1) (v 0 5) (v 0 3) (v 0 4) (v 4)).2.1)) 4 (m_pt (v 3) (v 0 1) (v 0 5) (v 0 3) (v 0 4) (v 4)).2.2.1)) = (wM q cI (va_up (va_up v 0 (va_up (va_up (v 0) 3 ((v 0 3) + 3)) 4 (bn (((v 0 3) + 3) < v 0 1)))) 4 (va_up (va_up (v 4) (3 * (v 0 5)) (v 3 (v 0 3))) (3 * (v 0 5) + 1) ((v 3 ((v 0 3) + 1)) - 48)))) := (by unfold m_pt; rw [if_pos (by omega), if_pos (by unfold m_hi; (repeat' split) <;> omega), if_pos (by omega), if_pos (by omega), if_neg (by omega)]; first | done | rfl)
                        rw [← w_325] at hP
                        exact W.zret (v := nI 0) hx hb hrt rfl (fun t ht hW => ⟨⟨_, (), rfl, (congrArg nI (by unfold m_pt; rw [if_pos (by omega), if_pos (by unfold m_hi; (repeat' split) <;> omega), if_pos (by omega), if_pos (by omega), if_neg (by omega)])), by show va_P D vwCl _ t.heap; rw [ht]; exact hP⟩, hS.F ht⟩) hS.2.2 dX5_isPart_158
                · skip
                  rw [if_neg c_311] at hP hD
                  have hP : va_P D vwCl (wM q cI (va_up v 0 (va_up (va_up (v 0) 3 ((v 0 3) + 1)) 4 (bn (((v 0 3) + 1) < v 0 1))))) H := hP
                  have hD : va_D A (wM q cI (va_up v 0 (va_up (va_up (v 0) 3 ((v 0 3) + 1)) 4 (bn (((v 0 3) + 1) < v 0 1))))) := hD
                  refine o_const (k := 0) hx hb dX5_isPart_92 (by decide) ?_
                  have w_326 : (wM q cI (va_up (va_up v 0 (va_up (va_up (v 0) 3 (m_pt (v 3) (v 0 1) (v 0 5) (v 0 3) (v 0 4) (v 4)).1) 4 (m_pt (v 3) (v 0 1) (v 0 5) (v 0 3) (v 0 4) (v 4)).2.1)) 4 (m_pt (v 3) (v 0 1) (v 0 5) (v 0 3) (v 0 4) (v 4)).2.2.1)) = (wM q cI (va_up v 0 (va_up (va_up (v 0) 3 ((v 0 3) + 1)) 4 (bn (((v 0 3) + 1) < v 0 1))))) := (by unfold m_pt; rw [if_pos (by omega), if_neg (by unfold m_hi; (repeat' split) <;> omega)]; first | done | rfl)
                  rw [← w_326] at hP
                  exact W.zret (v := nI 0) hx hb hrt rfl (fun t ht hW => ⟨⟨_, (), rfl, (congrArg nI (by unfold m_pt; rw [if_pos (by omega), if_neg (by unfold m_hi; (repeat' split) <;> omega)])), by show va_P D vwCl _ t.heap; rw [ht]; exact hP⟩, hS.F ht⟩) hS.2.2 dX5_isPart_93
              · skip
                refine lv_iload_n hx hb dX5_isPart_73 rfl (lv_at hl 0 rfl) ?_
                refine o_bipush (k := 100) hx hb dX5_isPart_74 (by decide) ?_
                refine o_icmp_ne (tgt := 84) hx hb dX5_isPart_76 (by decide) (by omega) (Nat.le_of_ble_eq_true rfl) (fun c_327 => ?_) (fun c_327 => ?_)
                · skip
                  refine o_bipush (k := 51) hx hb dX5_isPart_84 (by decide) ?_
                  refine o_wi (va_runV (As := [.int (nI 51)]) (rest := []) ⟨hx, hb, hml, hown, hts⟩ (k_X5_isDigit l D cI cR cS cL H.size q (va_up v 0 (va_up (v 0) 3 ((v 0 3) + 1))) 51 (by show ((v 0 3) + 1) < 2 ^ 31; first | assumption | omega) (by show v 0 1 ≤ 60; first | assumption | omega) (by show ∀ k, v 3 k < 2 ^ 31; first | assumption | omega) (by show 51 < 2 ^ 31; first | assumption | omega)) (cwV 1 hts gX5_isPart_X5_isDigit rfl rfl rfl (by decide +kernel) ⟨Nat.le_of_ble_eq_true rfl, Nat.le_of_ble_eq_true rfl⟩) (o_v (o_pB hK hN hP hD) (va_recv hK hP (ci := 5) (q0 := 0) rfl rfl)) rfl rfl hl.1 rfl (lv_room (Nat.le_of_ble_eq_true rfl)) dX5_isPart_86 ⟨Nat.zero_le _, Nat.zero_le _⟩) hP hD hS hA [0, 1, 2, 3, 4] (by decide) rfl (fun _ => rfl) (fun r_329 _ H locs e_328 hP hD hS => ?_)
                  have e_328 : r_329 = nI (bn (((v 0 3) + 1) < v 0 1 ∧ 48 ≤ v 3 (((v 0 3) + 1)) ∧ v 3 (((v 0 3) + 1)) ≤ 51)) := e_328
                  subst e_328
                  have hP : va_P D vwCl (wM q cI (va_up v 0 (if ((v 0 3) + 1) < v 0 1 ∧ 48 ≤ v 3 (((v 0 3) + 1)) ∧ v 3 (((v 0 3) + 1)) ≤ 51 then (va_up (va_up (v 0) 3 ((v 0 3) + 1)) 3 ((v 0 3) + 2)) else (va_up (va_up (v 0) 3 ((v 0 3) + 1)) 4 (bn (((v 0 3) + 1) < v 0 1)))))) H := hP
                  have hD : va_D A (wM q cI (va_up v 0 (if ((v 0 3) + 1) < v 0 1 ∧ 48 ≤ v 3 (((v 0 3) + 1)) ∧ v 3 (((v 0 3) + 1)) ≤ 51 then (va_up (va_up (v 0) 3 ((v 0 3) + 1)) 3 ((v 0 3) + 2)) else (va_up (va_up (v 0) 3 ((v 0 3) + 1)) 4 (bn (((v 0 3) + 1) < v 0 1)))))) := hD
                  refine o_ifnz (tgt := 94) hx hb dX5_isPart_89 (by decide) (fun c_330 => ?_) (fun c_330 => ?_)
                  · skip
                    rw [if_pos c_330] at hP hD
                    have hP : va_P D vwCl (wM q cI (va_up v 0 (va_up (v 0) 3 ((v 0 3) + 2)))) H := hP
                    have hD : va_D A (wM q cI (va_up v 0 (va_up (v 0) 3 ((v 0 3) + 2)))) := hD
                    refine lv_aload_n hx hb dX5_isPart_94 rfl (lv_at hl 1 rfl) ?_
                    refine va_get (D := D) (ci := 5) (v := .ref (q 4)) (C := RX5) (T := TX5) (N := 10) hx hb hts inX5_isPart_X5 hown hK hP 0 rfl rfl 8 (by decide) (hts (.fieldLink RX5 19 "OddNoticeModel" "told" "[I") (List.mem_of_getElem? (i := 3) (by decide +kernel))) (fun _ h9 => h9) rfl dX5_isPart_95 ?_
                    refine o_const (k := 3) hx hb dX5_isPart_98 (by decide) ?_
                    refine lv_aload_n hx hb dX5_isPart_99 rfl (lv_at hl 1 rfl) ?_
                    refine va_get (D := D) (ci := 5) (v := .int (nI (v 0 5))) (C := RX5) (T := TX5) (N := 10) hx hb hts inX5_isPart_X5 hown hK hP 0 rfl rfl 9 (by decide) (hts (.fieldLink RX5 106 "OddNoticeModel" "tolds" "I") (List.mem_of_getElem? (i := 4) (by decide +kernel))) (fun _ h9 => h9) rfl dX5_isPart_100 ?_
                    refine o_imul (a := 3) (b := (v 0 5)) (k := (3 * (v 0 5))) hx hb dX5_isPart_103 rfl ?_
                    refine lv_iload_n hx hb dX5_isPart_104 rfl (lv_at hl 0 rfl) ?_
                    refine o_iast (g := (v 4)) hx hb hK hP hD hS 4 0 rfl rfl (by omega) (Nat.le_of_ble_eq_true rfl) dX5_isPart_105 (fun H locs hP hD hS => ?_)
                    have hP : va_P D vwCl (wM q cI (va_up (va_up v 0 (va_up (v 0) 3 ((v 0 3) + 2))) 4 (va_up (v 4) (3 * (v 0 5)) (v 3 (v 0 3))))) H := hP
                    have hD : va_D A (wM q cI (va_up (va_up v 0 (va_up (v 0) 3 ((v 0 3) + 2))) 4 (va_up (v 4) (3 * (v 0 5)) (v 3 (v 0 3))))) := hD
                    refine lv_aload_n hx hb dX5_isPart_106 rfl (lv_at hl 1 rfl) ?_
                    refine va_get (D := D) (ci := 5) (v := .ref (q 4)) (C := RX5) (T := TX5) (N := 10) hx hb hts inX5_isPart_X5 hown hK hP 0 rfl rfl 8 (by decide) (hts (.fieldLink RX5 19 "OddNoticeModel" "told" "[I") (List.mem_of_getElem? (i := 3) (by decide +kernel))) (fun _ h9 => h9) rfl dX5_isPart_107 ?_
                    refine o_const (k := 3) hx hb dX5_isPart_110 (by decide) ?_
                    refine lv_aload_n hx hb dX5_isPart_111 rfl (lv_at hl 1 rfl) ?_
                    refine va_get (D := D) (ci := 5) (v := .int (nI (v 0 5))) (C := RX5) (T := TX5) (N := 10) hx hb hts inX5_isPart_X5 hown hK hP 0 rfl rfl 9 (by decide) (hts (.fieldLink RX5 106 "OddNoticeModel" "tolds" "I") (List.mem_of_getElem? (i := 4) (by decide +kernel))) (fun _ h9 => h9) rfl dX5_isPart_112 ?_
                    refine o_imul (a := 3) (b := (v 0 5)) (k := (3 * (v 0 5))) hx hb dX5_isPart_115 rfl ?_
                    refine o_const (k := 1) hx hb dX5_isPart_116 (by decide) ?_
                    refine o_iadd (a := (3 * (v 0 5))) (b := 1) (k := (3 * (v 0 5) + 1)) hx hb dX5_isPart_117 rfl ?_
                    refine lv_aload_n hx hb dX5_isPart_118 rfl (lv_at hl 1 rfl) ?_
                    refine va_get (D := D) (ci := 5) (v := .ref (q 3)) (C := RX5) (T := TX5) (N := 10) hx hb hts inX5_isPart_X5 hown hK hP 0 rfl rfl 3 (by decide) (hts (.fieldLink RX5 16 "OddNoticeModel" "text" "[I") (List.mem_of_getElem? (i := 1) (by decide +kernel))) (fun _ h9 => h9) rfl dX5_isPart_119 ?_
                    refine lv_aload_n hx hb dX5_isPart_122 rfl (lv_at hl 1 rfl) ?_
                    refine va_get (D := D) (ci := 5) (v := .int (nI ((v 0 3) + 2))) (C := RX5) (T := TX5) (N := 10) hx hb hts inX5_isPart_X5 hown hK hP 0 rfl rfl 6 (by decide) (hts (.fieldLink RX5 89 "OddNoticeModel" "at" "I") (List.mem_of_getElem? (i := 2) (by decide +kernel))) (fun _ h9 => h9) rfl dX5_isPart_123 ?_
                    refine o_const (k := 1) hx hb dX5_isPart_126 (by decide) ?_
                    refine o_isub (a := ((v 0 3) + 2)) (b := 1) (k := ((v 0 3) + 1)) hx hb dX5_isPart_127 (by omega) (by omega) ?_
                    refine o_iald (v := nI (v 3 ((v 0 3) + 1))) hx hb hK hP 3 0 rfl rfl (by omega) (Nat.le_of_ble_eq_true rfl) rfl dX5_isPart_128 ?_
                    have f_331 := ht ((v 0 3) + 1)
                    refine o_bipush (k := 48) hx hb dX5_isPart_129 (by decide) ?_
                    refine o_isub (a := (v 3 ((v 0 3) + 1))) (b := 48) (k := ((v 3 ((v 0 3) + 1)) - 48)) hx hb dX5_isPart_131 (by omega) rfl ?_
                    refine o_iast (g := (va_up (v 4) (3 * (v 0 5)) (v 3 (v 0 3)))) hx hb hK hP hD hS 4 0 rfl rfl (by omega) (Nat.le_of_ble_eq_true rfl) dX5_isPart_132 (fun H locs hP hD hS => ?_)
                    have hP : va_P D vwCl (wM q cI (va_up (va_up v 0 (va_up (v 0) 3 ((v 0 3) + 2))) 4 (va_up (va_up (v 4) (3 * (v 0 5)) (v 3 (v 0 3))) (3 * (v 0 5) + 1) ((v 3 ((v 0 3) + 1)) - 48)))) H := hP
                    have hD : va_D A (wM q cI (va_up (va_up v 0 (va_up (v 0) 3 ((v 0 3) + 2))) 4 (va_up (va_up (v 4) (3 * (v 0 5)) (v 3 (v 0 3))) (3 * (v 0 5) + 1) ((v 3 ((v 0 3) + 1)) - 48)))) := hD
                    refine lv_iload_n hx hb dX5_isPart_133 rfl (lv_at hl 0 rfl) ?_
                    refine o_bipush (k := 119) hx hb dX5_isPart_134 (by decide) ?_
                    refine o_icmp_ne (tgt := 204) hx hb dX5_isPart_136 (by decide) (by omega) (Nat.le_of_ble_eq_true rfl) (fun c_332 => ?_) (fun c_332 => ?_)
                    · skip
                      refine o_const (k := 1) hx hb dX5_isPart_204 (by decide) ?_
                      have w_333 : (wM q cI (va_up (va_up v 0 (va_up (va_up (v 0) 3 (m_pt (v 3) (v 0 1) (v 0 5) (v 0 3) (v 0 4) (v 4)).1) 4 (m_pt (v 3) (v 0 1) (v 0 5) (v 0 3) (v 0 4) (v 4)).2.1)) 4 (m_pt (v 3) (v 0 1) (v 0 5) (v 0 3) (v 0 4) (v 4)).2.2.1)) = (wM q cI (va_up (va_up v 0 (va_up (v 0) 3 ((v 0 3) + 2))) 4 (va_up (va_up (v 4) (3 * (v 0 5)) (v 3 (v 0 3))) (3 * (v 0 5) + 1) ((v 3 ((v 0 3) + 1)) - 48)))) := (by unfold m_pt; rw [if_pos (by omega), if_pos (by unfold m_hi; (repeat' split) <;> omega), if_neg (by omega)]; first | done | rfl)
                      rw [← w_333] at hP
                      exact W.zret (v := nI 1) hx hb hrt rfl (fun t ht hW => ⟨⟨_, (), rfl, (congrArg nI (by unfold m_pt; rw [if_pos (by omega), if_pos (by unfold m_hi; (repeat' split) <;> omega), if_neg (by omega)])), by show va_P D vwCl _ t.heap; rw [ht]; exact hP⟩, hS.F ht⟩) hS.2.2 dX5_isPart_205
                    · skip
                      refine lv_aload_n hx hb dX5_isPart_139 rfl (lv_at hl 1 rfl) ?_
                      refine o_bipush (k := 57) hx hb dX5_isPart_140 (by decide) ?_
                      refine o_wi (va_runV (As := [.int (nI 57)]) (rest := []) ⟨hx, hb, hml, hown, hts⟩ (k_X5_isDigit l D cI cR cS cL H.size q (va_up (va_up v 0 (va_up (v 0) 3 ((v 0 3) + 2))) 4 (va_up (va_up (v 4) (3 * (v 0 5)) (v 3 (v 0 3))) (3 * (v 0 5) + 1) ((v 3 ((v 0 3) + 1)) - 48))) 57 (by show ((v 0 3) + 2) < 2 ^ 31; first | assumption | omega) (by show v 0 1 ≤ 60; first | assumption | omega) (by show ∀ k, v 3 k < 2 ^ 31; first | assumption | omega) (by show 57 < 2 ^ 31; first | assumption | omega)) (cwV 1 hts gX5_isPart_X5_isDigit rfl rfl rfl (by decide +kernel) ⟨Nat.le_of_ble_eq_true rfl, Nat.le_of_ble_eq_true rfl⟩) (o_v (o_pB hK hN hP hD) (va_recv hK hP (ci := 5) (q0 := 0) rfl rfl)) rfl rfl hl.1 rfl (lv_room (Nat.le_of_ble_eq_true rfl)) dX5_isPart_142 ⟨Nat.zero_le _, Nat.zero_le _⟩) hP hD hS hA [0, 1, 2, 3, 4] (by decide) rfl (fun _ => rfl) (fun r_335 _ H locs e_334 hP hD hS => ?_)
                      have e_334 : r_335 = nI (bn (((v 0 3) + 2) < v 0 1 ∧ 48 ≤ v 3 (((v 0 3) + 2)) ∧ v 3 (((v 0 3) + 2)) ≤ 57)) := e_334
                      subst e_334
                      have hP : va_P D vwCl (wM q cI (va_up (va_up v 0 (if ((v 0 3) + 2) < v 0 1 ∧ 48 ≤ v 3 (((v 0 3) + 2)) ∧ v 3 (((v 0 3) + 2)) ≤ 57 then (va_up (va_up (v 0) 3 ((v 0 3) + 2)) 3 ((v 0 3) + 3)) else (va_up (va_up (v 0) 3 ((v 0 3) + 2)) 4 (bn (((v 0 3) + 2) < v 0 1))))) 4 (va_up (va_up (v 4) (3 * (v 0 5)) (v 3 (v 0 3))) (3 * (v 0 5) + 1) ((v 3 ((v 0 3) + 1)) - 48)))) H := hP
                      have hD : va_D A (wM q cI (va_up (va_up v 0 (if ((v 0 3) + 2) < v 0 1 ∧ 48 ≤ v 3 (((v 0 3) + 2)) ∧ v 3 (((v 0 3) + 2)) ≤ 57 then (va_up (va_up (v 0) 3 ((v 0 3) + 2)) 3 ((v 0 3) + 3)) else (va_up (va_up (v 0) 3 ((v 0 3) + 2)) 4 (bn (((v 0 3) + 2) < v 0 1))))) 4 (va_up (va_up (v 4) (3 * (v 0 5)) (v 3 (v 0 3))) (3 * (v 0 5) + 1) ((v 3 ((v 0 3) + 1)) - 48)))) := hD
                      refine o_ifz (tgt := 157) hx hb dX5_isPart_145 (by decide) (fun c_336 => ?_) (fun c_336 => ?_)
                      · skip
                        rw [if_neg c_336] at hP hD
                        have hP : va_P D vwCl (wM q cI (va_up (va_up v 0 (va_up (va_up (v 0) 3 ((v 0 3) + 2)) 4 (bn (((v 0 3) + 2) < v 0 1)))) 4 (va_up (va_up (v 4) (3 * (v 0 5)) (v 3 (v 0 3))) (3 * (v 0 5) + 1) ((v 3 ((v 0 3) + 1)) - 48)))) H := hP
                        have hD : va_D A (wM q cI (va_up (va_up v 0 (va_up (va_up (v 0) 3 ((v 0 3) + 2)) 4 (bn (((v 0 3) + 2) < v 0 1)))) 4 (va_up (va_up (v 4) (3 * (v 0 5)) (v 3 (v 0 3))) (3 * (v 0 5) + 1) ((v 3 ((v 0 3) + 1)) - 48)))) := hD
                        refine o_const (k := 0) hx hb dX5_isPart_157 (by decide) ?_
                        have w_337 : (wM q cI (va_up (va_up v 0 (va_up (va_up (v 0) 3 (m_pt (v 3) (v 0 1) (v 0 5) (v 0 3) (v 0 4) (v 4)).1) 4 (m_pt (v 3) (v 0 1) (v 0 5) (v 0 3) (v 0 4) (v 4)).2.1)) 4 (m_pt (v 3) (v 0 1) (v 0 5) (v 0 3) (v 0 4) (v 4)).2.2.1)) = (wM q cI (va_up (va_up v 0 (va_up (va_up (v 0) 3 ((v 0 3) + 2)) 4 (bn (((v 0 3) + 2) < v 0 1)))) 4 (va_up (va_up (v 4) (3 * (v 0 5)) (v 3 (v 0 3))) (3 * (v 0 5) + 1) ((v 3 ((v 0 3) + 1)) - 48)))) := (by unfold m_pt; rw [if_pos (by omega), if_pos (by unfold m_hi; (repeat' split) <;> omega), if_pos (by omega), if_neg (by omega)]; first | done | rfl)
                        rw [← w_337] at hP
                        exact W.zret (v := nI 0) hx hb hrt rfl (fun t ht hW => ⟨⟨_, (), rfl, (congrArg nI (by unfold m_pt; rw [if_pos (by omega), if_pos (by unfold m_hi; (repeat' split) <;> omega), if_pos (by omega), if_neg (by omega)])), by show va_P D vwCl _ t.heap; rw [ht]; exact hP⟩, hS.F ht⟩) hS.2.2 dX5_isPart_158
                      · skip
                        rw [if_pos c_336] at hP hD
                        have hP : va_P D vwCl (wM q cI (va_up (va_up v 0 (va_up (v 0) 3 ((v 0 3) + 3))) 4 (va_up (va_up (v 4) (3 * (v 0 5)) (v 3 (v 0 3))) (3 * (v 0 5) + 1) ((v 3 ((v 0 3) + 1)) - 48)))) H := hP
                        have hD : va_D A (wM q cI (va_up (va_up v 0 (va_up (v 0) 3 ((v 0 3) + 3))) 4 (va_up (va_up (v 4) (3 * (v 0 5)) (v 3 (v 0 3))) (3 * (v 0 5) + 1) ((v 3 ((v 0 3) + 1)) - 48)))) := hD
                        refine lv_aload_n hx hb dX5_isPart_148 rfl (lv_at hl 1 rfl) ?_
                        refine o_bipush (k := 57) hx hb dX5_isPart_149 (by decide) ?_
                        refine o_wi (va_runV (As := [.int (nI 57)]) (rest := []) ⟨hx, hb, hml, hown, hts⟩ (k_X5_isDigit l D cI cR cS cL H.size q (va_up (va_up v 0 (va_up (v 0) 3 ((v 0 3) + 3))) 4 (va_up (va_up (v 4) (3 * (v 0 5)) (v 3 (v 0 3))) (3 * (v 0 5) + 1) ((v 3 ((v 0 3) + 1)) - 48))) 57 (by show ((v 0 3) + 3) < 2 ^ 31; first | assumption | omega) (by show v 0 1 ≤ 60; first | assumption | omega) (by show ∀ k, v 3 k < 2 ^ 31; first | assumption | omega) (by show 57 < 2 ^ 31; first | assumption | omega)) (cwV 1 hts gX5_isPart_X5_isDigit rfl rfl rfl (by decide +kernel) ⟨Nat.le_of_ble_eq_true rfl, Nat.le_of_ble_eq_true rfl⟩) (o_v (o_pB hK hN hP hD) (va_recv hK hP (ci := 5) (q0 := 0) rfl rfl)) rfl rfl hl.1 rfl (lv_room (Nat.le_of_ble_eq_true rfl)) dX5_isPart_151 ⟨Nat.zero_le _, Nat.zero_le _⟩) hP hD hS hA [0, 1, 2, 3, 4] (by decide) rfl (fun _ => rfl) (fun r_339 _ H locs e_338 hP hD hS => ?_)
                        have e_338 : r_339 = nI (bn (((v 0 3) + 3) < v 0 1 ∧ 48 ≤ v 3 (((v 0 3) + 3)) ∧ v 3 (((v 0 3) + 3)) ≤ 57)) := e_338
                        subst e_338
                        have hP : va_P D vwCl (wM q cI (va_up (va_up v 0 (if ((v 0 3) + 3) < v 0 1 ∧ 48 ≤ v 3 (((v 0 3) + 3)) ∧ v 3 (((v 0 3) + 3)) ≤ 57 then (va_up (va_up (v 0) 3 ((v 0 3) + 3)) 3 ((v 0 3) + 4)) else (va_up (va_up (v 0) 3 ((v 0 3) + 3)) 4 (bn (((v 0 3) + 3) < v 0 1))))) 4 (va_up (va_up (v 4) (3 * (v 0 5)) (v 3 (v 0 3))) (3 * (v 0 5) + 1) ((v 3 ((v 0 3) + 1)) - 48)))) H := hP
                        have hD : va_D A (wM q cI (va_up (va_up v 0 (if ((v 0 3) + 3) < v 0 1 ∧ 48 ≤ v 3 (((v 0 3) + 3)) ∧ v 3 (((v 0 3) + 3)) ≤ 57 then (va_up (va_up (v 0) 3 ((v 0 3) + 3)) 3 ((v 0 3) + 4)) else (va_up (va_up (v 0) 3 ((v 0 3) + 3)) 4 (bn (((v 0 3) + 3) < v 0 1))))) 4 (va_up (va_up (v 4) (3 * (v 0 5)) (v 3 (v 0 3))) (3 * (v 0 5) + 1) ((v 3 ((v 0 3) + 1)) - 48)))) := hD
                        refine o_ifnz (tgt := 159) hx hb dX5_isPart_154 (by decide) (fun c_340 => ?_) (fun c_340 => ?_)
                        · skip
                          rw [if_pos c_340] at hP hD
                          have hP : va_P D vwCl (wM q cI (va_up (va_up v 0 (va_up (v 0) 3 ((v 0 3) + 4))) 4 (va_up (va_up (v 4) (3 * (v 0 5)) (v 3 (v 0 3))) (3 * (v 0 5) + 1) ((v 3 ((v 0 3) + 1)) - 48)))) H := hP
                          have hD : va_D A (wM q cI (va_up (va_up v 0 (va_up (v 0) 3 ((v 0 3) + 4))) 4 (va_up (va_up (v 4) (3 * (v 0 5)) (v 3 (v 0 3))) (3 * (v 0 5) + 1) ((v 3 ((v 0 3) + 1)) - 48)))) := hD
                          refine lv_aload_n hx hb dX5_isPart_159 rfl (lv_at hl 1 rfl) ?_
                          refine va_get (D := D) (ci := 5) (v := .ref (q 4)) (C := RX5) (T := TX5) (N := 10) hx hb hts inX5_isPart_X5 hown hK hP 0 rfl rfl 8 (by decide) (hts (.fieldLink RX5 19 "OddNoticeModel" "told" "[I") (List.mem_of_getElem? (i := 3) (by decide +kernel))) (fun _ h9 => h9) rfl dX5_isPart_160 ?_
                          refine o_const (k := 3) hx hb dX5_isPart_163 (by decide) ?_
                          refine lv_aload_n hx hb dX5_isPart_164 rfl (lv_at hl 1 rfl) ?_
                          refine va_get (D := D) (ci := 5) (v := .int (nI (v 0 5))) (C := RX5) (T := TX5) (N := 10) hx hb hts inX5_isPart_X5 hown hK hP 0 rfl rfl 9 (by decide) (hts (.fieldLink RX5 106 "OddNoticeModel" "tolds" "I") (List.mem_of_getElem? (i := 4) (by decide +kernel))) (fun _ h9 => h9) rfl dX5_isPart_165 ?_
                          refine o_imul (a := 3) (b := (v 0 5)) (k := (3 * (v 0 5))) hx hb dX5_isPart_168 rfl ?_
                          refine o_const (k := 2) hx hb dX5_isPart_169 (by decide) ?_
                          refine o_iadd (a := (3 * (v 0 5))) (b := 2) (k := (3 * (v 0 5) + 2)) hx hb dX5_isPart_170 rfl ?_
                          refine o_bipush (k := 10) hx hb dX5_isPart_171 (by decide) ?_
                          refine lv_aload_n hx hb dX5_isPart_173 rfl (lv_at hl 1 rfl) ?_
                          refine va_get (D := D) (ci := 5) (v := .ref (q 3)) (C := RX5) (T := TX5) (N := 10) hx hb hts inX5_isPart_X5 hown hK hP 0 rfl rfl 3 (by decide) (hts (.fieldLink RX5 16 "OddNoticeModel" "text" "[I") (List.mem_of_getElem? (i := 1) (by decide +kernel))) (fun _ h9 => h9) rfl dX5_isPart_174 ?_
                          refine lv_aload_n hx hb dX5_isPart_177 rfl (lv_at hl 1 rfl) ?_
                          refine va_get (D := D) (ci := 5) (v := .int (nI ((v 0 3) + 4))) (C := RX5) (T := TX5) (N := 10) hx hb hts inX5_isPart_X5 hown hK hP 0 rfl rfl 6 (by decide) (hts (.fieldLink RX5 89 "OddNoticeModel" "at" "I") (List.mem_of_getElem? (i := 2) (by decide +kernel))) (fun _ h9 => h9) rfl dX5_isPart_178 ?_
                          refine o_const (k := 2) hx hb dX5_isPart_181 (by decide) ?_
                          refine o_isub (a := ((v 0 3) + 4)) (b := 2) (k := ((v 0 3) + 2)) hx hb dX5_isPart_182 (by omega) (by omega) ?_
                          refine o_iald (v := nI (v 3 ((v 0 3) + 2))) hx hb hK hP 3 0 rfl rfl (by omega) (Nat.le_of_ble_eq_true rfl) rfl dX5_isPart_183 ?_
                          have f_341 := ht ((v 0 3) + 2)
                          refine o_bipush (k := 48) hx hb dX5_isPart_184 (by decide) ?_
                          refine o_isub (a := (v 3 ((v 0 3) + 2))) (b := 48) (k := ((v 3 ((v 0 3) + 2)) - 48)) hx hb dX5_isPart_186 (by omega) rfl ?_
                          refine o_imul (a := 10) (b := ((v 3 ((v 0 3) + 2)) - 48)) (k := (10 * ((v 3 ((v 0 3) + 2)) - 48))) hx hb dX5_isPart_187 rfl ?_
                          refine lv_aload_n hx hb dX5_isPart_188 rfl (lv_at hl 1 rfl) ?_
                          refine va_get (D := D) (ci := 5) (v := .ref (q 3)) (C := RX5) (T := TX5) (N := 10) hx hb hts inX5_isPart_X5 hown hK hP 0 rfl rfl 3 (by decide) (hts (.fieldLink RX5 16 "OddNoticeModel" "text" "[I") (List.mem_of_getElem? (i := 1) (by decide +kernel))) (fun _ h9 => h9) rfl dX5_isPart_189 ?_
                          refine lv_aload_n hx hb dX5_isPart_192 rfl (lv_at hl 1 rfl) ?_
                          refine va_get (D := D) (ci := 5) (v := .int (nI ((v 0 3) + 4))) (C := RX5) (T := TX5) (N := 10) hx hb hts inX5_isPart_X5 hown hK hP 0 rfl rfl 6 (by decide) (hts (.fieldLink RX5 89 "OddNoticeModel" "at" "I") (List.mem_of_getElem? (i := 2) (by decide +kernel))) (fun _ h9 => h9) rfl dX5_isPart_193 ?_
                          refine o_const (k := 1) hx hb dX5_isPart_196 (by decide) ?_
                          refine o_isub (a := ((v 0 3) + 4)) (b := 1) (k := ((v 0 3) + 3)) hx hb dX5_isPart_197 (by omega) (by omega) ?_
                          refine o_iald (v := nI (v 3 ((v 0 3) + 3))) hx hb hK hP 3 0 rfl rfl (by omega) (Nat.le_of_ble_eq_true rfl) rfl dX5_isPart_198 ?_
                          have f_342 := ht ((v 0 3) + 3)
                          refine o_iadd (a := (10 * ((v 3 ((v 0 3) + 2)) - 48))) (b := (v 3 ((v 0 3) + 3))) (k := (10 * ((v 3 ((v 0 3) + 2)) - 48) + (v 3 ((v 0 3) + 3)))) hx hb dX5_isPart_199 rfl ?_
                          refine o_bipush (k := 48) hx hb dX5_isPart_200 (by decide) ?_
                          refine o_isub (a := (10 * ((v 3 ((v 0 3) + 2)) - 48) + (v 3 ((v 0 3) + 3)))) (b := 48) (k := (10 * ((v 3 ((v 0 3) + 2)) - 48) + (v 3 ((v 0 3) + 3)) - 48)) hx hb dX5_isPart_202 (by omega) rfl ?_
                          refine o_iast (g := (va_up (va_up (v 4) (3 * (v 0 5)) (v 3 (v 0 3))) (3 * (v 0 5) + 1) ((v 3 ((v 0 3) + 1)) - 48))) hx hb hK hP hD hS 4 0 rfl rfl (by omega) (Nat.le_of_ble_eq_true rfl) dX5_isPart_203 (fun H locs hP hD hS => ?_)
                          have hP : va_P D vwCl (wM q cI (va_up (va_up v 0 (va_up (v 0) 3 ((v 0 3) + 4))) 4 (va_up (va_up (va_up (v 4) (3 * (v 0 5)) (v 3 (v 0 3))) (3 * (v 0 5) + 1) ((v 3 ((v 0 3) + 1)) - 48)) (3 * (v 0 5) + 2) (10 * ((v 3 ((v 0 3) + 2)) - 48) + (v 3 ((v 0 3) + 3)) - 48)))) H := hP
                          have hD : va_D A (wM q cI (va_up (va_up v 0 (va_up (v 0) 3 ((v 0 3) + 4))) 4 (va_up (va_up (va_up (v 4) (3 * (v 0 5)) (v 3 (v 0 3))) (3 * (v 0 5) + 1) ((v 3 ((v 0 3) + 1)) - 48)) (3 * (v 0 5) + 2) (10 * ((v 3 ((v 0 3) + 2)) - 48) + (v 3 ((v 0 3) + 3)) - 48)))) := hD
                          refine o_const (k := 1) hx hb dX5_isPart_204 (by decide) ?_
                          have w_343 : (wM q cI (va_up (va_up v 0 (va_up (va_up (v 0) 3 (m_pt (v 3) (v 0 1) (v 0 5) (v 0 3) (v 0 4) (v 4)).1) 4 (m_pt (v 3) (v 0 1) (v 0 5) (v 0 3) (v 0 4) (v 4)).2.1)) 4 (m_pt (v 3) (v 0 1) (v 0 5) (v 0 3) (v 0 4) (v 4)).2.2.1)) = (wM q cI (va_up (va_up v 0 (va_up (v 0) 3 ((v 0 3) + 4))) 4 (va_up (va_up (va_up (v 4) (3 * (v 0 5)) (v 3 (v 0 3))) (3 * (v 0 5) + 1) ((v 3 ((v 0 3) + 1)) - 48)) (3 * (v 0 5) + 2) (10 * ((v 3 ((v 0 3) + 2)) - 48) + (v 3 ((v 0 3) + 3)) - 48)))) := (by unfold m_pt; rw [if_pos (by omega), if_pos (by unfold m_hi; (repeat' split) <;> omega), if_pos (by omega), if_pos (by omega), if_pos (by omega)]; first | done | rfl)
                          rw [← w_343] at hP
                          exact W.zret (v := nI 1) hx hb hrt rfl (fun t ht hW => ⟨⟨_, (), rfl, (congrArg nI (by unfold m_pt; rw [if_pos (by omega), if_pos (by unfold m_hi; (repeat' split) <;> omega), if_pos (by omega), if_pos (by omega), if_pos (by omega)])), by show va_P D vwCl _ t.heap; rw [ht]; exact hP⟩, hS.F ht⟩) hS.2.2 dX5_isPart_205
                        · skip
                          rw [if_neg c_340] at hP hD
                          have hP : va_P D vwCl (wM q cI (va_up (va_up v 0 (va_up (va_up (v 0) 3 ((v 0 3) + 3)) 4 (bn (((v 0 3) + 3) < v 0 1)))) 4 (va_up (va_up (v 4) (3 * (v 0 5)) (v 3 (v 0 3))) (3 * (v 0 5) + 1) ((v 3 ((v 0 3) + 1)) - 48)))) H := hP
                          have hD : va_D A (wM q cI (va_up (va_up v 0 (va_up (va_up (v 0) 3 ((v 0 3) + 3)) 4 (bn (((v 0 3) + 3) < v 0 1)))) 4 (va_up (va_up (v 4) (3 * (v 0 5)) (v 3 (v 0 3))) (3 * (v 0 5) + 1) ((v 3 ((v 0 3) + 1)) - 48)))) := hD
                          refine o_const (k := 0) hx hb dX5_isPart_157 (by decide) ?_
                          have w_344 : (wM q cI (va_up (va_up v 0 (va_up (va_up (v 0) 3 (m_pt (v 3) (v 0 1) (v 0 5) (v 0 3) (v 0 4) (v 4)).1) 4 (m_pt (v 3) (v 0 1) (v 0 5) (v 0 3) (v 0 4) (v 4)).2.1)) 4 (m_pt (v 3) (v 0 1) (v 0 5) (v 0 3) (v 0 4) (v 4)).2.2.1)) = (wM q cI (va_up (va_up v 0 (va_up (va_up (v 0) 3 ((v 0 3) + 3)) 4 (bn (((v 0 3) + 3) < v 0 1)))) 4 (va_up (va_up (v 4) (3 * (v 0 5)) (v 3 (v 0 3))) (3 * (v 0 5) + 1) ((v 3 ((v 0 3) + 1)) - 48)))) := (by unfold m_pt; rw [if_pos (by omega), if_pos (by unfold m_hi; (repeat' split) <;> omega), if_pos (by omega), if_pos (by omega), if_neg (by omega)]; first | done | rfl)
                          rw [← w_344] at hP
                          exact W.zret (v := nI 0) hx hb hrt rfl (fun t ht hW => ⟨⟨_, (), rfl, (congrArg nI (by unfold m_pt; rw [if_pos (by omega), if_pos (by unfold m_hi; (repeat' split) <;> omega), if_pos (by omega), if_pos (by omega), if_neg (by omega)])), by show va_P D vwCl _ t.heap; rw [ht]; exact hP⟩, hS.F ht⟩) hS.2.2 dX5_isPart_158
                  · skip
                    rw [if_neg c_330] at hP hD
                    have hP : va_P D vwCl (wM q cI (va_up v 0 (va_up (va_up (v 0) 3 ((v 0 3) + 1)) 4 (bn (((v 0 3) + 1) < v 0 1))))) H := hP
                    have hD : va_D A (wM q cI (va_up v 0 (va_up (va_up (v 0) 3 ((v 0 3) + 1)) 4 (bn (((v 0 3) + 1) < v 0 1))))) := hD
                    refine o_const (k := 0) hx hb dX5_isPart_92 (by decide) ?_
                    have w_345 : (wM q cI (va_up (va_up v 0 (va_up (va_up (v 0) 3 (m_pt (v 3) (v 0 1) (v 0 5) (v 0 3) (v 0 4) (v 4)).1) 4 (m_pt (v 3) (v 0 1) (v 0 5) (v 0 3) (v 0 4) (v 4)).2.1)) 4 (m_pt (v 3) (v 0 1) (v 0 5) (v 0 3) (v 0 4) (v 4)).2.2.1)) = (wM q cI (va_up v 0 (va_up (va_up (v 0) 3 ((v 0 3) + 1)) 4 (bn (((v 0 3) + 1) < v 0 1))))) := (by unfold m_pt; rw [if_pos (by omega), if_neg (by unfold m_hi; (repeat' split) <;> omega)]; first | done | rfl)
                    rw [← w_345] at hP
                    exact W.zret (v := nI 0) hx hb hrt rfl (fun t ht hW => ⟨⟨_, (), rfl, (congrArg nI (by unfold m_pt; rw [if_pos (by omega), if_neg (by unfold m_hi; (repeat' split) <;> omega)])), by show va_P D vwCl _ t.heap; rw [ht]; exact hP⟩, hS.F ht⟩) hS.2.2 dX5_isPart_93
                · skip
                  refine o_bipush (k := 50) hx hb dX5_isPart_79 (by decide) ?_
                  refine lv_goto (tgt := 86) hx hb dX5_isPart_81 (by decide) ?_
                  refine o_wi (va_runV (As := [.int (nI 50)]) (rest := []) ⟨hx, hb, hml, hown, hts⟩ (k_X5_isDigit l D cI cR cS cL H.size q (va_up v 0 (va_up (v 0) 3 ((v 0 3) + 1))) 50 (by show ((v 0 3) + 1) < 2 ^ 31; first | assumption | omega) (by show v 0 1 ≤ 60; first | assumption | omega) (by show ∀ k, v 3 k < 2 ^ 31; first | assumption | omega) (by show 50 < 2 ^ 31; first | assumption | omega)) (cwV 1 hts gX5_isPart_X5_isDigit rfl rfl rfl (by decide +kernel) ⟨Nat.le_of_ble_eq_true rfl, Nat.le_of_ble_eq_true rfl⟩) (o_v (o_pB hK hN hP hD) (va_recv hK hP (ci := 5) (q0 := 0) rfl rfl)) rfl rfl hl.1 rfl (lv_room (Nat.le_of_ble_eq_true rfl)) dX5_isPart_86 ⟨Nat.zero_le _, Nat.zero_le _⟩) hP hD hS hA [0, 1, 2, 3, 4] (by decide) rfl (fun _ => rfl) (fun r_347 _ H locs e_346 hP hD hS => ?_)
                  have e_346 : r_347 = nI (bn (((v 0 3) + 1) < v 0 1 ∧ 48 ≤ v 3 (((v 0 3) + 1)) ∧ v 3 (((v 0 3) + 1)) ≤ 50)) := e_346
                  subst e_346
                  have hP : va_P D vwCl (wM q cI (va_up v 0 (if ((v 0 3) + 1) < v 0 1 ∧ 48 ≤ v 3 (((v 0 3) + 1)) ∧ v 3 (((v 0 3) + 1)) ≤ 50 then (va_up (va_up (v 0) 3 ((v 0 3) + 1)) 3 ((v 0 3) + 2)) else (va_up (va_up (v 0) 3 ((v 0 3) + 1)) 4 (bn (((v 0 3) + 1) < v 0 1)))))) H := hP
                  have hD : va_D A (wM q cI (va_up v 0 (if ((v 0 3) + 1) < v 0 1 ∧ 48 ≤ v 3 (((v 0 3) + 1)) ∧ v 3 (((v 0 3) + 1)) ≤ 50 then (va_up (va_up (v 0) 3 ((v 0 3) + 1)) 3 ((v 0 3) + 2)) else (va_up (va_up (v 0) 3 ((v 0 3) + 1)) 4 (bn (((v 0 3) + 1) < v 0 1)))))) := hD
                  refine o_ifnz (tgt := 94) hx hb dX5_isPart_89 (by decide) (fun c_348 => ?_) (fun c_348 => ?_)
                  · skip
                    rw [if_pos c_348] at hP hD
                    have hP : va_P D vwCl (wM q cI (va_up v 0 (va_up (v 0) 3 ((v 0 3) + 2)))) H := hP
                    have hD : va_D A (wM q cI (va_up v 0 (va_up (v 0) 3 ((v 0 3) + 2)))) := hD
                    refine lv_aload_n hx hb dX5_isPart_94 rfl (lv_at hl 1 rfl) ?_
                    refine va_get (D := D) (ci := 5) (v := .ref (q 4)) (C := RX5) (T := TX5) (N := 10) hx hb hts inX5_isPart_X5 hown hK hP 0 rfl rfl 8 (by decide) (hts (.fieldLink RX5 19 "OddNoticeModel" "told" "[I") (List.mem_of_getElem? (i := 3) (by decide +kernel))) (fun _ h9 => h9) rfl dX5_isPart_95 ?_
                    refine o_const (k := 3) hx hb dX5_isPart_98 (by decide) ?_
                    refine lv_aload_n hx hb dX5_isPart_99 rfl (lv_at hl 1 rfl) ?_
                    refine va_get (D := D) (ci := 5) (v := .int (nI (v 0 5))) (C := RX5) (T := TX5) (N := 10) hx hb hts inX5_isPart_X5 hown hK hP 0 rfl rfl 9 (by decide) (hts (.fieldLink RX5 106 "OddNoticeModel" "tolds" "I") (List.mem_of_getElem? (i := 4) (by decide +kernel))) (fun _ h9 => h9) rfl dX5_isPart_100 ?_
                    refine o_imul (a := 3) (b := (v 0 5)) (k := (3 * (v 0 5))) hx hb dX5_isPart_103 rfl ?_
                    refine lv_iload_n hx hb dX5_isPart_104 rfl (lv_at hl 0 rfl) ?_
                    refine o_iast (g := (v 4)) hx hb hK hP hD hS 4 0 rfl rfl (by omega) (Nat.le_of_ble_eq_true rfl) dX5_isPart_105 (fun H locs hP hD hS => ?_)
                    have hP : va_P D vwCl (wM q cI (va_up (va_up v 0 (va_up (v 0) 3 ((v 0 3) + 2))) 4 (va_up (v 4) (3 * (v 0 5)) (v 3 (v 0 3))))) H := hP
                    have hD : va_D A (wM q cI (va_up (va_up v 0 (va_up (v 0) 3 ((v 0 3) + 2))) 4 (va_up (v 4) (3 * (v 0 5)) (v 3 (v 0 3))))) := hD
                    refine lv_aload_n hx hb dX5_isPart_106 rfl (lv_at hl 1 rfl) ?_
                    refine va_get (D := D) (ci := 5) (v := .ref (q 4)) (C := RX5) (T := TX5) (N := 10) hx hb hts inX5_isPart_X5 hown hK hP 0 rfl rfl 8 (by decide) (hts (.fieldLink RX5 19 "OddNoticeModel" "told" "[I") (List.mem_of_getElem? (i := 3) (by decide +kernel))) (fun _ h9 => h9) rfl dX5_isPart_107 ?_
                    refine o_const (k := 3) hx hb dX5_isPart_110 (by decide) ?_
                    refine lv_aload_n hx hb dX5_isPart_111 rfl (lv_at hl 1 rfl) ?_
                    refine va_get (D := D) (ci := 5) (v := .int (nI (v 0 5))) (C := RX5) (T := TX5) (N := 10) hx hb hts inX5_isPart_X5 hown hK hP 0 rfl rfl 9 (by decide) (hts (.fieldLink RX5 106 "OddNoticeModel" "tolds" "I") (List.mem_of_getElem? (i := 4) (by decide +kernel))) (fun _ h9 => h9) rfl dX5_isPart_112 ?_
                    refine o_imul (a := 3) (b := (v 0 5)) (k := (3 * (v 0 5))) hx hb dX5_isPart_115 rfl ?_
                    refine o_const (k := 1) hx hb dX5_isPart_116 (by decide) ?_
                    refine o_iadd (a := (3 * (v 0 5))) (b := 1) (k := (3 * (v 0 5) + 1)) hx hb dX5_isPart_117 rfl ?_
                    refine lv_aload_n hx hb dX5_isPart_118 rfl (lv_at hl 1 rfl) ?_
                    refine va_get (D := D) (ci := 5) (v := .ref (q 3)) (C := RX5) (T := TX5) (N := 10) hx hb hts inX5_isPart_X5 hown hK hP 0 rfl rfl 3 (by decide) (hts (.fieldLink RX5 16 "OddNoticeModel" "text" "[I") (List.mem_of_getElem? (i := 1) (by decide +kernel))) (fun _ h9 => h9) rfl dX5_isPart_119 ?_
                    refine lv_aload_n hx hb dX5_isPart_122 rfl (lv_at hl 1 rfl) ?_
                    refine va_get (D := D) (ci := 5) (v := .int (nI ((v 0 3) + 2))) (C := RX5) (T := TX5) (N := 10) hx hb hts inX5_isPart_X5 hown hK hP 0 rfl rfl 6 (by decide) (hts (.fieldLink RX5 89 "OddNoticeModel" "at" "I") (List.mem_of_getElem? (i := 2) (by decide +kernel))) (fun _ h9 => h9) rfl dX5_isPart_123 ?_
                    refine o_const (k := 1) hx hb dX5_isPart_126 (by decide) ?_
                    refine o_isub (a := ((v 0 3) + 2)) (b := 1) (k := ((v 0 3) + 1)) hx hb dX5_isPart_127 (by omega) (by omega) ?_
                    refine o_iald (v := nI (v 3 ((v 0 3) + 1))) hx hb hK hP 3 0 rfl rfl (by omega) (Nat.le_of_ble_eq_true rfl) rfl dX5_isPart_128 ?_
                    have f_349 := ht ((v 0 3) + 1)
                    refine o_bipush (k := 48) hx hb dX5_isPart_129 (by decide) ?_
                    refine o_isub (a := (v 3 ((v 0 3) + 1))) (b := 48) (k := ((v 3 ((v 0 3) + 1)) - 48)) hx hb dX5_isPart_131 (by omega) rfl ?_
                    refine o_iast (g := (va_up (v 4) (3 * (v 0 5)) (v 3 (v 0 3)))) hx hb hK hP hD hS 4 0 rfl rfl (by omega) (Nat.le_of_ble_eq_true rfl) dX5_isPart_132 (fun H locs hP hD hS => ?_)
                    have hP : va_P D vwCl (wM q cI (va_up (va_up v 0 (va_up (v 0) 3 ((v 0 3) + 2))) 4 (va_up (va_up (v 4) (3 * (v 0 5)) (v 3 (v 0 3))) (3 * (v 0 5) + 1) ((v 3 ((v 0 3) + 1)) - 48)))) H := hP
                    have hD : va_D A (wM q cI (va_up (va_up v 0 (va_up (v 0) 3 ((v 0 3) + 2))) 4 (va_up (va_up (v 4) (3 * (v 0 5)) (v 3 (v 0 3))) (3 * (v 0 5) + 1) ((v 3 ((v 0 3) + 1)) - 48)))) := hD
                    refine lv_iload_n hx hb dX5_isPart_133 rfl (lv_at hl 0 rfl) ?_
                    refine o_bipush (k := 119) hx hb dX5_isPart_134 (by decide) ?_
                    refine o_icmp_ne (tgt := 204) hx hb dX5_isPart_136 (by decide) (by omega) (Nat.le_of_ble_eq_true rfl) (fun c_350 => ?_) (fun c_350 => ?_)
                    · skip
                      refine o_const (k := 1) hx hb dX5_isPart_204 (by decide) ?_
                      have w_351 : (wM q cI (va_up (va_up v 0 (va_up (va_up (v 0) 3 (m_pt (v 3) (v 0 1) (v 0 5) (v 0 3) (v 0 4) (v 4)).1) 4 (m_pt (v 3) (v 0 1) (v 0 5) (v 0 3) (v 0 4) (v 4)).2.1)) 4 (m_pt (v 3) (v 0 1) (v 0 5) (v 0 3) (v 0 4) (v 4)).2.2.1)) = (wM q cI (va_up (va_up v 0 (va_up (v 0) 3 ((v 0 3) + 2))) 4 (va_up (va_up (v 4) (3 * (v 0 5)) (v 3 (v 0 3))) (3 * (v 0 5) + 1) ((v 3 ((v 0 3) + 1)) - 48)))) := (by unfold m_pt; rw [if_pos (by omega), if_pos (by unfold m_hi; (repeat' split) <;> omega), if_neg (by omega)]; first | done | rfl)
                      rw [← w_351] at hP
                      exact W.zret (v := nI 1) hx hb hrt rfl (fun t ht hW => ⟨⟨_, (), rfl, (congrArg nI (by unfold m_pt; rw [if_pos (by omega), if_pos (by unfold m_hi; (repeat' split) <;> omega), if_neg (by omega)])), by show va_P D vwCl _ t.heap; rw [ht]; exact hP⟩, hS.F ht⟩) hS.2.2 dX5_isPart_205
                    · skip
                      refine lv_aload_n hx hb dX5_isPart_139 rfl (lv_at hl 1 rfl) ?_
                      refine o_bipush (k := 57) hx hb dX5_isPart_140 (by decide) ?_
                      refine o_wi (va_runV (As := [.int (nI 57)]) (rest := []) ⟨hx, hb, hml, hown, hts⟩ (k_X5_isDigit l D cI cR cS cL H.size q (va_up (va_up v 0 (va_up (v 0) 3 ((v 0 3) + 2))) 4 (va_up (va_up (v 4) (3 * (v 0 5)) (v 3 (v 0 3))) (3 * (v 0 5) + 1) ((v 3 ((v 0 3) + 1)) - 48))) 57 (by show ((v 0 3) + 2) < 2 ^ 31; first | assumption | omega) (by show v 0 1 ≤ 60; first | assumption | omega) (by show ∀ k, v 3 k < 2 ^ 31; first | assumption | omega) (by show 57 < 2 ^ 31; first | assumption | omega)) (cwV 1 hts gX5_isPart_X5_isDigit rfl rfl rfl (by decide +kernel) ⟨Nat.le_of_ble_eq_true rfl, Nat.le_of_ble_eq_true rfl⟩) (o_v (o_pB hK hN hP hD) (va_recv hK hP (ci := 5) (q0 := 0) rfl rfl)) rfl rfl hl.1 rfl (lv_room (Nat.le_of_ble_eq_true rfl)) dX5_isPart_142 ⟨Nat.zero_le _, Nat.zero_le _⟩) hP hD hS hA [0, 1, 2, 3, 4] (by decide) rfl (fun _ => rfl) (fun r_353 _ H locs e_352 hP hD hS => ?_)
                      have e_352 : r_353 = nI (bn (((v 0 3) + 2) < v 0 1 ∧ 48 ≤ v 3 (((v 0 3) + 2)) ∧ v 3 (((v 0 3) + 2)) ≤ 57)) := e_352
                      subst e_352
                      have hP : va_P D vwCl (wM q cI (va_up (va_up v 0 (if ((v 0 3) + 2) < v 0 1 ∧ 48 ≤ v 3 (((v 0 3) + 2)) ∧ v 3 (((v 0 3) + 2)) ≤ 57 then (va_up (va_up (v 0) 3 ((v 0 3) + 2)) 3 ((v 0 3) + 3)) else (va_up (va_up (v 0) 3 ((v 0 3) + 2)) 4 (bn (((v 0 3) + 2) < v 0 1))))) 4 (va_up (va_up (v 4) (3 * (v 0 5)) (v 3 (v 0 3))) (3 * (v 0 5) + 1) ((v 3 ((v 0 3) + 1)) - 48)))) H := hP
                      have hD : va_D A (wM q cI (va_up (va_up v 0 (if ((v 0 3) + 2) < v 0 1 ∧ 48 ≤ v 3 (((v 0 3) + 2)) ∧ v 3 (((v 0 3) + 2)) ≤ 57 then (va_up (va_up (v 0) 3 ((v 0 3) + 2)) 3 ((v 0 3) + 3)) else (va_up (va_up (v 0) 3 ((v 0 3) + 2)) 4 (bn (((v 0 3) + 2) < v 0 1))))) 4 (va_up (va_up (v 4) (3 * (v 0 5)) (v 3 (v 0 3))) (3 * (v 0 5) + 1) ((v 3 ((v 0 3) + 1)) - 48)))) := hD
                      refine o_ifz (tgt := 157) hx hb dX5_isPart_145 (by decide) (fun c_354 => ?_) (fun c_354 => ?_)
                      · skip
                        rw [if_neg c_354] at hP hD
                        have hP : va_P D vwCl (wM q cI (va_up (va_up v 0 (va_up (va_up (v 0) 3 ((v 0 3) + 2)) 4 (bn (((v 0 3) + 2) < v 0 1)))) 4 (va_up (va_up (v 4) (3 * (v 0 5)) (v 3 (v 0 3))) (3 * (v 0 5) + 1) ((v 3 ((v 0 3) + 1)) - 48)))) H := hP
                        have hD : va_D A (wM q cI (va_up (va_up v 0 (va_up (va_up (v 0) 3 ((v 0 3) + 2)) 4 (bn (((v 0 3) + 2) < v 0 1)))) 4 (va_up (va_up (v 4) (3 * (v 0 5)) (v 3 (v 0 3))) (3 * (v 0 5) + 1) ((v 3 ((v 0 3) + 1)) - 48)))) := hD
                        refine o_const (k := 0) hx hb dX5_isPart_157 (by decide) ?_
                        have w_355 : (wM q cI (va_up (va_up v 0 (va_up (va_up (v 0) 3 (m_pt (v 3) (v 0 1) (v 0 5) (v 0 3) (v 0 4) (v 4)).1) 4 (m_pt (v 3) (v 0 1) (v 0 5) (v 0 3) (v 0 4) (v 4)).2.1)) 4 (m_pt (v 3) (v 0 1) (v 0 5) (v 0 3) (v 0 4) (v 4)).2.2.1)) = (wM q cI (va_up (va_up v 0 (va_up (va_up (v 0) 3 ((v 0 3) + 2)) 4 (bn (((v 0 3) + 2) < v 0 1)))) 4 (va_up (va_up (v 4) (3 * (v 0 5)) (v 3 (v 0 3))) (3 * (v 0 5) + 1) ((v 3 ((v 0 3) + 1)) - 48)))) := (by unfold m_pt; rw [if_pos (by omega), if_pos (by unfold m_hi; (repeat' split) <;> omega), if_pos (by omega), if_neg (by omega)]; first | done | rfl)
                        rw [← w_355] at hP
                        exact W.zret (v := nI 0) hx hb hrt rfl (fun t ht hW => ⟨⟨_, (), rfl, (congrArg nI (by unfold m_pt; rw [if_pos (by omega), if_pos (by unfold m_hi; (repeat' split) <;> omega), if_pos (by omega), if_neg (by omega)])), by show va_P D vwCl _ t.heap; rw [ht]; exact hP⟩, hS.F ht⟩) hS.2.2 dX5_isPart_158
                      · skip
                        rw [if_pos c_354] at hP hD
                        have hP : va_P D vwCl (wM q cI (va_up (va_up v 0 (va_up (v 0) 3 ((v 0 3) + 3))) 4 (va_up (va_up (v 4) (3 * (v 0 5)) (v 3 (v 0 3))) (3 * (v 0 5) + 1) ((v 3 ((v 0 3) + 1)) - 48)))) H := hP
                        have hD : va_D A (wM q cI (va_up (va_up v 0 (va_up (v 0) 3 ((v 0 3) + 3))) 4 (va_up (va_up (v 4) (3 * (v 0 5)) (v 3 (v 0 3))) (3 * (v 0 5) + 1) ((v 3 ((v 0 3) + 1)) - 48)))) := hD
                        refine lv_aload_n hx hb dX5_isPart_148 rfl (lv_at hl 1 rfl) ?_
                        refine o_bipush (k := 57) hx hb dX5_isPart_149 (by decide) ?_
                        refine o_wi (va_runV (As := [.int (nI 57)]) (rest := []) ⟨hx, hb, hml, hown, hts⟩ (k_X5_isDigit l D cI cR cS cL H.size q (va_up (va_up v 0 (va_up (v 0) 3 ((v 0 3) + 3))) 4 (va_up (va_up (v 4) (3 * (v 0 5)) (v 3 (v 0 3))) (3 * (v 0 5) + 1) ((v 3 ((v 0 3) + 1)) - 48))) 57 (by show ((v 0 3) + 3) < 2 ^ 31; first | assumption | omega) (by show v 0 1 ≤ 60; first | assumption | omega) (by show ∀ k, v 3 k < 2 ^ 31; first | assumption | omega) (by show 57 < 2 ^ 31; first | assumption | omega)) (cwV 1 hts gX5_isPart_X5_isDigit rfl rfl rfl (by decide +kernel) ⟨Nat.le_of_ble_eq_true rfl, Nat.le_of_ble_eq_true rfl⟩) (o_v (o_pB hK hN hP hD) (va_recv hK hP (ci := 5) (q0 := 0) rfl rfl)) rfl rfl hl.1 rfl (lv_room (Nat.le_of_ble_eq_true rfl)) dX5_isPart_151 ⟨Nat.zero_le _, Nat.zero_le _⟩) hP hD hS hA [0, 1, 2, 3, 4] (by decide) rfl (fun _ => rfl) (fun r_357 _ H locs e_356 hP hD hS => ?_)
                        have e_356 : r_357 = nI (bn (((v 0 3) + 3) < v 0 1 ∧ 48 ≤ v 3 (((v 0 3) + 3)) ∧ v 3 (((v 0 3) + 3)) ≤ 57)) := e_356
                        subst e_356
                        have hP : va_P D vwCl (wM q cI (va_up (va_up v 0 (if ((v 0 3) + 3) < v 0 1 ∧ 48 ≤ v 3 (((v 0 3) + 3)) ∧ v 3 (((v 0 3) + 3)) ≤ 57 then (va_up (va_up (v 0) 3 ((v 0 3) + 3)) 3 ((v 0 3) + 4)) else (va_up (va_up (v 0) 3 ((v 0 3) + 3)) 4 (bn (((v 0 3) + 3) < v 0 1))))) 4 (va_up (va_up (v 4) (3 * (v 0 5)) (v 3 (v 0 3))) (3 * (v 0 5) + 1) ((v 3 ((v 0 3) + 1)) - 48)))) H := hP
                        have hD : va_D A (wM q cI (va_up (va_up v 0 (if ((v 0 3) + 3) < v 0 1 ∧ 48 ≤ v 3 (((v 0 3) + 3)) ∧ v 3 (((v 0 3) + 3)) ≤ 57 then (va_up (va_up (v 0) 3 ((v 0 3) + 3)) 3 ((v 0 3) + 4)) else (va_up (va_up (v 0) 3 ((v 0 3) + 3)) 4 (bn (((v 0 3) + 3) < v 0 1))))) 4 (va_up (va_up (v 4) (3 * (v 0 5)) (v 3 (v 0 3))) (3 * (v 0 5) + 1) ((v 3 ((v 0 3) + 1)) - 48)))) := hD
                        refine o_ifnz (tgt := 159) hx hb dX5_isPart_154 (by decide) (fun c_358 => ?_) (fun c_358 => ?_)
                        · skip
                          rw [if_pos c_358] at hP hD
                          have hP : va_P D vwCl (wM q cI (va_up (va_up v 0 (va_up (v 0) 3 ((v 0 3) + 4))) 4 (va_up (va_up (v 4) (3 * (v 0 5)) (v 3 (v 0 3))) (3 * (v 0 5) + 1) ((v 3 ((v 0 3) + 1)) - 48)))) H := hP
                          have hD : va_D A (wM q cI (va_up (va_up v 0 (va_up (v 0) 3 ((v 0 3) + 4))) 4 (va_up (va_up (v 4) (3 * (v 0 5)) (v 3 (v 0 3))) (3 * (v 0 5) + 1) ((v 3 ((v 0 3) + 1)) - 48)))) := hD
                          refine lv_aload_n hx hb dX5_isPart_159 rfl (lv_at hl 1 rfl) ?_
                          refine va_get (D := D) (ci := 5) (v := .ref (q 4)) (C := RX5) (T := TX5) (N := 10) hx hb hts inX5_isPart_X5 hown hK hP 0 rfl rfl 8 (by decide) (hts (.fieldLink RX5 19 "OddNoticeModel" "told" "[I") (List.mem_of_getElem? (i := 3) (by decide +kernel))) (fun _ h9 => h9) rfl dX5_isPart_160 ?_
                          refine o_const (k := 3) hx hb dX5_isPart_163 (by decide) ?_
                          refine lv_aload_n hx hb dX5_isPart_164 rfl (lv_at hl 1 rfl) ?_
                          refine va_get (D := D) (ci := 5) (v := .int (nI (v 0 5))) (C := RX5) (T := TX5) (N := 10) hx hb hts inX5_isPart_X5 hown hK hP 0 rfl rfl 9 (by decide) (hts (.fieldLink RX5 106 "OddNoticeModel" "tolds" "I") (List.mem_of_getElem? (i := 4) (by decide +kernel))) (fun _ h9 => h9) rfl dX5_isPart_165 ?_
                          refine o_imul (a := 3) (b := (v 0 5)) (k := (3 * (v 0 5))) hx hb dX5_isPart_168 rfl ?_
                          refine o_const (k := 2) hx hb dX5_isPart_169 (by decide) ?_
                          refine o_iadd (a := (3 * (v 0 5))) (b := 2) (k := (3 * (v 0 5) + 2)) hx hb dX5_isPart_170 rfl ?_
                          refine o_bipush (k := 10) hx hb dX5_isPart_171 (by decide) ?_
                          refine lv_aload_n hx hb dX5_isPart_173 rfl (lv_at hl 1 rfl) ?_
                          refine va_get (D := D) (ci := 5) (v := .ref (q 3)) (C := RX5) (T := TX5) (N := 10) hx hb hts inX5_isPart_X5 hown hK hP 0 rfl rfl 3 (by decide) (hts (.fieldLink RX5 16 "OddNoticeModel" "text" "[I") (List.mem_of_getElem? (i := 1) (by decide +kernel))) (fun _ h9 => h9) rfl dX5_isPart_174 ?_
                          refine lv_aload_n hx hb dX5_isPart_177 rfl (lv_at hl 1 rfl) ?_
                          refine va_get (D := D) (ci := 5) (v := .int (nI ((v 0 3) + 4))) (C := RX5) (T := TX5) (N := 10) hx hb hts inX5_isPart_X5 hown hK hP 0 rfl rfl 6 (by decide) (hts (.fieldLink RX5 89 "OddNoticeModel" "at" "I") (List.mem_of_getElem? (i := 2) (by decide +kernel))) (fun _ h9 => h9) rfl dX5_isPart_178 ?_
                          refine o_const (k := 2) hx hb dX5_isPart_181 (by decide) ?_
                          refine o_isub (a := ((v 0 3) + 4)) (b := 2) (k := ((v 0 3) + 2)) hx hb dX5_isPart_182 (by omega) (by omega) ?_
                          refine o_iald (v := nI (v 3 ((v 0 3) + 2))) hx hb hK hP 3 0 rfl rfl (by omega) (Nat.le_of_ble_eq_true rfl) rfl dX5_isPart_183 ?_
                          have f_359 := ht ((v 0 3) + 2)
                          refine o_bipush (k := 48) hx hb dX5_isPart_184 (by decide) ?_
                          refine o_isub (a := (v 3 ((v 0 3) + 2))) (b := 48) (k := ((v 3 ((v 0 3) + 2)) - 48)) hx hb dX5_isPart_186 (by omega) rfl ?_
                          refine o_imul (a := 10) (b := ((v 3 ((v 0 3) + 2)) - 48)) (k := (10 * ((v 3 ((v 0 3) + 2)) - 48))) hx hb dX5_isPart_187 rfl ?_
                          refine lv_aload_n hx hb dX5_isPart_188 rfl (lv_at hl 1 rfl) ?_
                          refine va_get (D := D) (ci := 5) (v := .ref (q 3)) (C := RX5) (T := TX5) (N := 10) hx hb hts inX5_isPart_X5 hown hK hP 0 rfl rfl 3 (by decide) (hts (.fieldLink RX5 16 "OddNoticeModel" "text" "[I") (List.mem_of_getElem? (i := 1) (by decide +kernel))) (fun _ h9 => h9) rfl dX5_isPart_189 ?_
                          refine lv_aload_n hx hb dX5_isPart_192 rfl (lv_at hl 1 rfl) ?_
                          refine va_get (D := D) (ci := 5) (v := .int (nI ((v 0 3) + 4))) (C := RX5) (T := TX5) (N := 10) hx hb hts inX5_isPart_X5 hown hK hP 0 rfl rfl 6 (by decide) (hts (.fieldLink RX5 89 "OddNoticeModel" "at" "I") (List.mem_of_getElem? (i := 2) (by decide +kernel))) (fun _ h9 => h9) rfl dX5_isPart_193 ?_
                          refine o_const (k := 1) hx hb dX5_isPart_196 (by decide) ?_
                          refine o_isub (a := ((v 0 3) + 4)) (b := 1) (k := ((v 0 3) + 3)) hx hb dX5_isPart_197 (by omega) (by omega) ?_
                          refine o_iald (v := nI (v 3 ((v 0 3) + 3))) hx hb hK hP 3 0 rfl rfl (by omega) (Nat.le_of_ble_eq_true rfl) rfl dX5_isPart_198 ?_
                          have f_360 := ht ((v 0 3) + 3)
                          refine o_iadd (a := (10 * ((v 3 ((v 0 3) + 2)) - 48))) (b := (v 3 ((v 0 3) + 3))) (k := (10 * ((v 3 ((v 0 3) + 2)) - 48) + (v 3 ((v 0 3) + 3)))) hx hb dX5_isPart_199 rfl ?_
                          refine o_bipush (k := 48) hx hb dX5_isPart_200 (by decide) ?_
                          refine o_isub (a := (10 * ((v 3 ((v 0 3) + 2)) - 48) + (v 3 ((v 0 3) + 3)))) (b := 48) (k := (10 * ((v 3 ((v 0 3) + 2)) - 48) + (v 3 ((v 0 3) + 3)) - 48)) hx hb dX5_isPart_202 (by omega) rfl ?_
                          refine o_iast (g := (va_up (va_up (v 4) (3 * (v 0 5)) (v 3 (v 0 3))) (3 * (v 0 5) + 1) ((v 3 ((v 0 3) + 1)) - 48))) hx hb hK hP hD hS 4 0 rfl rfl (by omega) (Nat.le_of_ble_eq_true rfl) dX5_isPart_203 (fun H locs hP hD hS => ?_)
                          have hP : va_P D vwCl (wM q cI (va_up (va_up v 0 (va_up (v 0) 3 ((v 0 3) + 4))) 4 (va_up (va_up (va_up (v 4) (3 * (v 0 5)) (v 3 (v 0 3))) (3 * (v 0 5) + 1) ((v 3 ((v 0 3) + 1)) - 48)) (3 * (v 0 5) + 2) (10 * ((v 3 ((v 0 3) + 2)) - 48) + (v 3 ((v 0 3) + 3)) - 48)))) H := hP
                          have hD : va_D A (wM q cI (va_up (va_up v 0 (va_up (v 0) 3 ((v 0 3) + 4))) 4 (va_up (va_up (va_up (v 4) (3 * (v 0 5)) (v 3 (v 0 3))) (3 * (v 0 5) + 1) ((v 3 ((v 0 3) + 1)) - 48)) (3 * (v 0 5) + 2) (10 * ((v 3 ((v 0 3) + 2)) - 48) + (v 3 ((v 0 3) + 3)) - 48)))) := hD
                          refine o_const (k := 1) hx hb dX5_isPart_204 (by decide) ?_
                          have w_361 : (wM q cI (va_up (va_up v 0 (va_up (va_up (v 0) 3 (m_pt (v 3) (v 0 1) (v 0 5) (v 0 3) (v 0 4) (v 4)).1) 4 (m_pt (v 3) (v 0 1) (v 0 5) (v 0 3) (v 0 4) (v 4)).2.1)) 4 (m_pt (v 3) (v 0 1) (v 0 5) (v 0 3) (v 0 4) (v 4)).2.2.1)) = (wM q cI (va_up (va_up v 0 (va_up (v 0) 3 ((v 0 3) + 4))) 4 (va_up (va_up (va_up (v 4) (3 * (v 0 5)) (v 3 (v 0 3))) (3 * (v 0 5) + 1) ((v 3 ((v 0 3) + 1)) - 48)) (3 * (v 0 5) + 2) (10 * ((v 3 ((v 0 3) + 2)) - 48) + (v 3 ((v 0 3) + 3)) - 48)))) := (by unfold m_pt; rw [if_pos (by omega), if_pos (by unfold m_hi; (repeat' split) <;> omega), if_pos (by omega), if_pos (by omega), if_pos (by omega)]; first | done | rfl)
                          rw [← w_361] at hP
                          exact W.zret (v := nI 1) hx hb hrt rfl (fun t ht hW => ⟨⟨_, (), rfl, (congrArg nI (by unfold m_pt; rw [if_pos (by omega), if_pos (by unfold m_hi; (repeat' split) <;> omega), if_pos (by omega), if_pos (by omega), if_pos (by omega)])), by show va_P D vwCl _ t.heap; rw [ht]; exact hP⟩, hS.F ht⟩) hS.2.2 dX5_isPart_205
                        · skip
                          rw [if_neg c_358] at hP hD
                          have hP : va_P D vwCl (wM q cI (va_up (va_up v 0 (va_up (va_up (v 0) 3 ((v 0 3) + 3)) 4 (bn (((v 0 3) + 3) < v 0 1)))) 4 (va_up (va_up (v 4) (3 * (v 0 5)) (v 3 (v 0 3))) (3 * (v 0 5) + 1) ((v 3 ((v 0 3) + 1)) - 48)))) H := hP
                          have hD : va_D A (wM q cI (va_up (va_up v 0 (va_up (va_up (v 0) 3 ((v 0 3) + 3)) 4 (bn (((v 0 3) + 3) < v 0 1)))) 4 (va_up (va_up (v 4) (3 * (v 0 5)) (v 3 (v 0 3))) (3 * (v 0 5) + 1) ((v 3 ((v 0 3) + 1)) - 48)))) := hD
                          refine o_const (k := 0) hx hb dX5_isPart_157 (by decide) ?_
                          have w_362 : (wM q cI (va_up (va_up v 0 (va_up (va_up (v 0) 3 (m_pt (v 3) (v 0 1) (v 0 5) (v 0 3) (v 0 4) (v 4)).1) 4 (m_pt (v 3) (v 0 1) (v 0 5) (v 0 3) (v 0 4) (v 4)).2.1)) 4 (m_pt (v 3) (v 0 1) (v 0 5) (v 0 3) (v 0 4) (v 4)).2.2.1)) = (wM q cI (va_up (va_up v 0 (va_up (va_up (v 0) 3 ((v 0 3) + 3)) 4 (bn (((v 0 3) + 3) < v 0 1)))) 4 (va_up (va_up (v 4) (3 * (v 0 5)) (v 3 (v 0 3))) (3 * (v 0 5) + 1) ((v 3 ((v 0 3) + 1)) - 48)))) := (by unfold m_pt; rw [if_pos (by omega), if_pos (by unfold m_hi; (repeat' split) <;> omega), if_pos (by omega), if_pos (by omega), if_neg (by omega)]; first | done | rfl)
                          rw [← w_362] at hP
                          exact W.zret (v := nI 0) hx hb hrt rfl (fun t ht hW => ⟨⟨_, (), rfl, (congrArg nI (by unfold m_pt; rw [if_pos (by omega), if_pos (by unfold m_hi; (repeat' split) <;> omega), if_pos (by omega), if_pos (by omega), if_neg (by omega)])), by show va_P D vwCl _ t.heap; rw [ht]; exact hP⟩, hS.F ht⟩) hS.2.2 dX5_isPart_158
                  · skip
                    rw [if_neg c_348] at hP hD
                    have hP : va_P D vwCl (wM q cI (va_up v 0 (va_up (va_up (v 0) 3 ((v 0 3) + 1)) 4 (bn (((v 0 3) + 1) < v 0 1))))) H := hP
                    have hD : va_D A (wM q cI (va_up v 0 (va_up (va_up (v 0) 3 ((v 0 3) + 1)) 4 (bn (((v 0 3) + 1) < v 0 1))))) := hD
                    refine o_const (k := 0) hx hb dX5_isPart_92 (by decide) ?_
                    have w_363 : (wM q cI (va_up (va_up v 0 (va_up (va_up (v 0) 3 (m_pt (v 3) (v 0 1) (v 0 5) (v 0 3) (v 0 4) (v 4)).1) 4 (m_pt (v 3) (v 0 1) (v 0 5) (v 0 3) (v 0 4) (v 4)).2.1)) 4 (m_pt (v 3) (v 0 1) (v 0 5) (v 0 3) (v 0 4) (v 4)).2.2.1)) = (wM q cI (va_up v 0 (va_up (va_up (v 0) 3 ((v 0 3) + 1)) 4 (bn (((v 0 3) + 1) < v 0 1))))) := (by unfold m_pt; rw [if_pos (by omega), if_neg (by unfold m_hi; (repeat' split) <;> omega)]; first | done | rfl)
                    rw [← w_363] at hP
                    exact W.zret (v := nI 0) hx hb hrt rfl (fun t ht hW => ⟨⟨_, (), rfl, (congrArg nI (by unfold m_pt; rw [if_pos (by omega), if_neg (by unfold m_hi; (repeat' split) <;> omega)])), by show va_P D vwCl _ t.heap; rw [ht]; exact hP⟩, hS.F ht⟩) hS.2.2 dX5_isPart_93
            · skip
              refine o_bipush (k := 52) hx hb dX5_isPart_62 (by decide) ?_
              refine lv_goto (tgt := 86) hx hb dX5_isPart_64 (by decide) ?_
              refine o_wi (va_runV (As := [.int (nI 52)]) (rest := []) ⟨hx, hb, hml, hown, hts⟩ (k_X5_isDigit l D cI cR cS cL H.size q (va_up v 0 (va_up (v 0) 3 ((v 0 3) + 1))) 52 (by show ((v 0 3) + 1) < 2 ^ 31; first | assumption | omega) (by show v 0 1 ≤ 60; first | assumption | omega) (by show ∀ k, v 3 k < 2 ^ 31; first | assumption | omega) (by show 52 < 2 ^ 31; first | assumption | omega)) (cwV 1 hts gX5_isPart_X5_isDigit rfl rfl rfl (by decide +kernel) ⟨Nat.le_of_ble_eq_true rfl, Nat.le_of_ble_eq_true rfl⟩) (o_v (o_pB hK hN hP hD) (va_recv hK hP (ci := 5) (q0 := 0) rfl rfl)) rfl rfl hl.1 rfl (lv_room (Nat.le_of_ble_eq_true rfl)) dX5_isPart_86 ⟨Nat.zero_le _, Nat.zero_le _⟩) hP hD hS hA [0, 1, 2, 3, 4] (by decide) rfl (fun _ => rfl) (fun r_365 _ H locs e_364 hP hD hS => ?_)
              have e_364 : r_365 = nI (bn (((v 0 3) + 1) < v 0 1 ∧ 48 ≤ v 3 (((v 0 3) + 1)) ∧ v 3 (((v 0 3) + 1)) ≤ 52)) := e_364
              subst e_364
              have hP : va_P D vwCl (wM q cI (va_up v 0 (if ((v 0 3) + 1) < v 0 1 ∧ 48 ≤ v 3 (((v 0 3) + 1)) ∧ v 3 (((v 0 3) + 1)) ≤ 52 then (va_up (va_up (v 0) 3 ((v 0 3) + 1)) 3 ((v 0 3) + 2)) else (va_up (va_up (v 0) 3 ((v 0 3) + 1)) 4 (bn (((v 0 3) + 1) < v 0 1)))))) H := hP
              have hD : va_D A (wM q cI (va_up v 0 (if ((v 0 3) + 1) < v 0 1 ∧ 48 ≤ v 3 (((v 0 3) + 1)) ∧ v 3 (((v 0 3) + 1)) ≤ 52 then (va_up (va_up (v 0) 3 ((v 0 3) + 1)) 3 ((v 0 3) + 2)) else (va_up (va_up (v 0) 3 ((v 0 3) + 1)) 4 (bn (((v 0 3) + 1) < v 0 1)))))) := hD
              refine o_ifnz (tgt := 94) hx hb dX5_isPart_89 (by decide) (fun c_366 => ?_) (fun c_366 => ?_)
              · skip
                rw [if_pos c_366] at hP hD
                have hP : va_P D vwCl (wM q cI (va_up v 0 (va_up (v 0) 3 ((v 0 3) + 2)))) H := hP
                have hD : va_D A (wM q cI (va_up v 0 (va_up (v 0) 3 ((v 0 3) + 2)))) := hD
                refine lv_aload_n hx hb dX5_isPart_94 rfl (lv_at hl 1 rfl) ?_
                refine va_get (D := D) (ci := 5) (v := .ref (q 4)) (C := RX5) (T := TX5) (N := 10) hx hb hts inX5_isPart_X5 hown hK hP 0 rfl rfl 8 (by decide) (hts (.fieldLink RX5 19 "OddNoticeModel" "told" "[I") (List.mem_of_getElem? (i := 3) (by decide +kernel))) (fun _ h9 => h9) rfl dX5_isPart_95 ?_
                refine o_const (k := 3) hx hb dX5_isPart_98 (by decide) ?_
                refine lv_aload_n hx hb dX5_isPart_99 rfl (lv_at hl 1 rfl) ?_
                refine va_get (D := D) (ci := 5) (v := .int (nI (v 0 5))) (C := RX5) (T := TX5) (N := 10) hx hb hts inX5_isPart_X5 hown hK hP 0 rfl rfl 9 (by decide) (hts (.fieldLink RX5 106 "OddNoticeModel" "tolds" "I") (List.mem_of_getElem? (i := 4) (by decide +kernel))) (fun _ h9 => h9) rfl dX5_isPart_100 ?_
                refine o_imul (a := 3) (b := (v 0 5)) (k := (3 * (v 0 5))) hx hb dX5_isPart_103 rfl ?_
                refine lv_iload_n hx hb dX5_isPart_104 rfl (lv_at hl 0 rfl) ?_
                refine o_iast (g := (v 4)) hx hb hK hP hD hS 4 0 rfl rfl (by omega) (Nat.le_of_ble_eq_true rfl) dX5_isPart_105 (fun H locs hP hD hS => ?_)
                have hP : va_P D vwCl (wM q cI (va_up (va_up v 0 (va_up (v 0) 3 ((v 0 3) + 2))) 4 (va_up (v 4) (3 * (v 0 5)) (v 3 (v 0 3))))) H := hP
                have hD : va_D A (wM q cI (va_up (va_up v 0 (va_up (v 0) 3 ((v 0 3) + 2))) 4 (va_up (v 4) (3 * (v 0 5)) (v 3 (v 0 3))))) := hD
                refine lv_aload_n hx hb dX5_isPart_106 rfl (lv_at hl 1 rfl) ?_
                refine va_get (D := D) (ci := 5) (v := .ref (q 4)) (C := RX5) (T := TX5) (N := 10) hx hb hts inX5_isPart_X5 hown hK hP 0 rfl rfl 8 (by decide) (hts (.fieldLink RX5 19 "OddNoticeModel" "told" "[I") (List.mem_of_getElem? (i := 3) (by decide +kernel))) (fun _ h9 => h9) rfl dX5_isPart_107 ?_
                refine o_const (k := 3) hx hb dX5_isPart_110 (by decide) ?_
                refine lv_aload_n hx hb dX5_isPart_111 rfl (lv_at hl 1 rfl) ?_
                refine va_get (D := D) (ci := 5) (v := .int (nI (v 0 5))) (C := RX5) (T := TX5) (N := 10) hx hb hts inX5_isPart_X5 hown hK hP 0 rfl rfl 9 (by decide) (hts (.fieldLink RX5 106 "OddNoticeModel" "tolds" "I") (List.mem_of_getElem? (i := 4) (by decide +kernel))) (fun _ h9 => h9) rfl dX5_isPart_112 ?_
                refine o_imul (a := 3) (b := (v 0 5)) (k := (3 * (v 0 5))) hx hb dX5_isPart_115 rfl ?_
                refine o_const (k := 1) hx hb dX5_isPart_116 (by decide) ?_
                refine o_iadd (a := (3 * (v 0 5))) (b := 1) (k := (3 * (v 0 5) + 1)) hx hb dX5_isPart_117 rfl ?_
                refine lv_aload_n hx hb dX5_isPart_118 rfl (lv_at hl 1 rfl) ?_
                refine va_get (D := D) (ci := 5) (v := .ref (q 3)) (C := RX5) (T := TX5) (N := 10) hx hb hts inX5_isPart_X5 hown hK hP 0 rfl rfl 3 (by decide) (hts (.fieldLink RX5 16 "OddNoticeModel" "text" "[I") (List.mem_of_getElem? (i := 1) (by decide +kernel))) (fun _ h9 => h9) rfl dX5_isPart_119 ?_
                refine lv_aload_n hx hb dX5_isPart_122 rfl (lv_at hl 1 rfl) ?_
                refine va_get (D := D) (ci := 5) (v := .int (nI ((v 0 3) + 2))) (C := RX5) (T := TX5) (N := 10) hx hb hts inX5_isPart_X5 hown hK hP 0 rfl rfl 6 (by decide) (hts (.fieldLink RX5 89 "OddNoticeModel" "at" "I") (List.mem_of_getElem? (i := 2) (by decide +kernel))) (fun _ h9 => h9) rfl dX5_isPart_123 ?_
                refine o_const (k := 1) hx hb dX5_isPart_126 (by decide) ?_
                refine o_isub (a := ((v 0 3) + 2)) (b := 1) (k := ((v 0 3) + 1)) hx hb dX5_isPart_127 (by omega) (by omega) ?_
                refine o_iald (v := nI (v 3 ((v 0 3) + 1))) hx hb hK hP 3 0 rfl rfl (by omega) (Nat.le_of_ble_eq_true rfl) rfl dX5_isPart_128 ?_
                have f_367 := ht ((v 0 3) + 1)
                refine o_bipush (k := 48) hx hb dX5_isPart_129 (by decide) ?_
                refine o_isub (a := (v 3 ((v 0 3) + 1))) (b := 48) (k := ((v 3 ((v 0 3) + 1)) - 48)) hx hb dX5_isPart_131 (by omega) rfl ?_
                refine o_iast (g := (va_up (v 4) (3 * (v 0 5)) (v 3 (v 0 3)))) hx hb hK hP hD hS 4 0 rfl rfl (by omega) (Nat.le_of_ble_eq_true rfl) dX5_isPart_132 (fun H locs hP hD hS => ?_)
                have hP : va_P D vwCl (wM q cI (va_up (va_up v 0 (va_up (v 0) 3 ((v 0 3) + 2))) 4 (va_up (va_up (v 4) (3 * (v 0 5)) (v 3 (v 0 3))) (3 * (v 0 5) + 1) ((v 3 ((v 0 3) + 1)) - 48)))) H := hP
                have hD : va_D A (wM q cI (va_up (va_up v 0 (va_up (v 0) 3 ((v 0 3) + 2))) 4 (va_up (va_up (v 4) (3 * (v 0 5)) (v 3 (v 0 3))) (3 * (v 0 5) + 1) ((v 3 ((v 0 3) + 1)) - 48)))) := hD
                refine lv_iload_n hx hb dX5_isPart_133 rfl (lv_at hl 0 rfl) ?_
                refine o_bipush (k := 119) hx hb dX5_isPart_134 (by decide) ?_
                refine o_icmp_ne (tgt := 204) hx hb dX5_isPart_136 (by decide) (by omega) (Nat.le_of_ble_eq_true rfl) (fun c_368 => ?_) (fun c_368 => ?_)
                · skip
                  refine o_const (k := 1) hx hb dX5_isPart_204 (by decide) ?_
                  have w_369 : (wM q cI (va_up (va_up v 0 (va_up (va_up (v 0) 3 (m_pt (v 3) (v 0 1) (v 0 5) (v 0 3) (v 0 4) (v 4)).1) 4 (m_pt (v 3) (v 0 1) (v 0 5) (v 0 3) (v 0 4) (v 4)).2.1)) 4 (m_pt (v 3) (v 0 1) (v 0 5) (v 0 3) (v 0 4) (v 4)).2.2.1)) = (wM q cI (va_up (va_up v 0 (va_up (v 0) 3 ((v 0 3) + 2))) 4 (va_up (va_up (v 4) (3 * (v 0 5)) (v 3 (v 0 3))) (3 * (v 0 5) + 1) ((v 3 ((v 0 3) + 1)) - 48)))) := (by unfold m_pt; rw [if_pos (by omega), if_pos (by unfold m_hi; (repeat' split) <;> omega), if_neg (by omega)]; first | done | rfl)
                  rw [← w_369] at hP
                  exact W.zret (v := nI 1) hx hb hrt rfl (fun t ht hW => ⟨⟨_, (), rfl, (congrArg nI (by unfold m_pt; rw [if_pos (by omega), if_pos (by unfold m_hi; (repeat' split) <;> omega), if_neg (by omega)])), by show va_P D vwCl _ t.heap; rw [ht]; exact hP⟩, hS.F ht⟩) hS.2.2 dX5_isPart_205
                · skip
                  refine lv_aload_n hx hb dX5_isPart_139 rfl (lv_at hl 1 rfl) ?_
                  refine o_bipush (k := 57) hx hb dX5_isPart_140 (by decide) ?_
                  refine o_wi (va_runV (As := [.int (nI 57)]) (rest := []) ⟨hx, hb, hml, hown, hts⟩ (k_X5_isDigit l D cI cR cS cL H.size q (va_up (va_up v 0 (va_up (v 0) 3 ((v 0 3) + 2))) 4 (va_up (va_up (v 4) (3 * (v 0 5)) (v 3 (v 0 3))) (3 * (v 0 5) + 1) ((v 3 ((v 0 3) + 1)) - 48))) 57 (by show ((v 0 3) + 2) < 2 ^ 31; first | assumption | omega) (by show v 0 1 ≤ 60; first | assumption | omega) (by show ∀ k, v 3 k < 2 ^ 31; first | assumption | omega) (by show 57 < 2 ^ 31; first | assumption | omega)) (cwV 1 hts gX5_isPart_X5_isDigit rfl rfl rfl (by decide +kernel) ⟨Nat.le_of_ble_eq_true rfl, Nat.le_of_ble_eq_true rfl⟩) (o_v (o_pB hK hN hP hD) (va_recv hK hP (ci := 5) (q0 := 0) rfl rfl)) rfl rfl hl.1 rfl (lv_room (Nat.le_of_ble_eq_true rfl)) dX5_isPart_142 ⟨Nat.zero_le _, Nat.zero_le _⟩) hP hD hS hA [0, 1, 2, 3, 4] (by decide) rfl (fun _ => rfl) (fun r_371 _ H locs e_370 hP hD hS => ?_)
                  have e_370 : r_371 = nI (bn (((v 0 3) + 2) < v 0 1 ∧ 48 ≤ v 3 (((v 0 3) + 2)) ∧ v 3 (((v 0 3) + 2)) ≤ 57)) := e_370
                  subst e_370
                  have hP : va_P D vwCl (wM q cI (va_up (va_up v 0 (if ((v 0 3) + 2) < v 0 1 ∧ 48 ≤ v 3 (((v 0 3) + 2)) ∧ v 3 (((v 0 3) + 2)) ≤ 57 then (va_up (va_up (v 0) 3 ((v 0 3) + 2)) 3 ((v 0 3) + 3)) else (va_up (va_up (v 0) 3 ((v 0 3) + 2)) 4 (bn (((v 0 3) + 2) < v 0 1))))) 4 (va_up (va_up (v 4) (3 * (v 0 5)) (v 3 (v 0 3))) (3 * (v 0 5) + 1) ((v 3 ((v 0 3) + 1)) - 48)))) H := hP
                  have hD : va_D A (wM q cI (va_up (va_up v 0 (if ((v 0 3) + 2) < v 0 1 ∧ 48 ≤ v 3 (((v 0 3) + 2)) ∧ v 3 (((v 0 3) + 2)) ≤ 57 then (va_up (va_up (v 0) 3 ((v 0 3) + 2)) 3 ((v 0 3) + 3)) else (va_up (va_up (v 0) 3 ((v 0 3) + 2)) 4 (bn (((v 0 3) + 2) < v 0 1))))) 4 (va_up (va_up (v 4) (3 * (v 0 5)) (v 3 (v 0 3))) (3 * (v 0 5) + 1) ((v 3 ((v 0 3) + 1)) - 48)))) := hD
                  refine o_ifz (tgt := 157) hx hb dX5_isPart_145 (by decide) (fun c_372 => ?_) (fun c_372 => ?_)
                  · skip
                    rw [if_neg c_372] at hP hD
                    have hP : va_P D vwCl (wM q cI (va_up (va_up v 0 (va_up (va_up (v 0) 3 ((v 0 3) + 2)) 4 (bn (((v 0 3) + 2) < v 0 1)))) 4 (va_up (va_up (v 4) (3 * (v 0 5)) (v 3 (v 0 3))) (3 * (v 0 5) + 1) ((v 3 ((v 0 3) + 1)) - 48)))) H := hP
                    have hD : va_D A (wM q cI (va_up (va_up v 0 (va_up (va_up (v 0) 3 ((v 0 3) + 2)) 4 (bn (((v 0 3) + 2) < v 0 1)))) 4 (va_up (va_up (v 4) (3 * (v 0 5)) (v 3 (v 0 3))) (3 * (v 0 5) + 1) ((v 3 ((v 0 3) + 1)) - 48)))) := hD
                    refine o_const (k := 0) hx hb dX5_isPart_157 (by decide) ?_
                    have w_373 : (wM q cI (va_up (va_up v 0 (va_up (va_up (v 0) 3 (m_pt (v 3) (v 0 1) (v 0 5) (v 0 3) (v 0 4) (v 4)).1) 4 (m_pt (v 3) (v 0 1) (v 0 5) (v 0 3) (v 0 4) (v 4)).2.1)) 4 (m_pt (v 3) (v 0 1) (v 0 5) (v 0 3) (v 0 4) (v 4)).2.2.1)) = (wM q cI (va_up (va_up v 0 (va_up (va_up (v 0) 3 ((v 0 3) + 2)) 4 (bn (((v 0 3) + 2) < v 0 1)))) 4 (va_up (va_up (v 4) (3 * (v 0 5)) (v 3 (v 0 3))) (3 * (v 0 5) + 1) ((v 3 ((v 0 3) + 1)) - 48)))) := (by unfold m_pt; rw [if_pos (by omega), if_pos (by unfold m_hi; (repeat' split) <;> omega), if_pos (by omega), if_neg (by omega)]; first | done | rfl)
                    rw [← w_373] at hP
                    exact W.zret (v := nI 0) hx hb hrt rfl (fun t ht hW => ⟨⟨_, (), rfl, (congrArg nI (by unfold m_pt; rw [if_pos (by omega), if_pos (by unfold m_hi; (repeat' split) <;> omega), if_pos (by omega), if_neg (by omega)])), by show va_P D vwCl _ t.heap; rw [ht]; exact hP⟩, hS.F ht⟩) hS.2.2 dX5_isPart_158
                  · skip
                    rw [if_pos c_372] at hP hD
                    have hP : va_P D vwCl (wM q cI (va_up (va_up v 0 (va_up (v 0) 3 ((v 0 3) + 3))) 4 (va_up (va_up (v 4) (3 * (v 0 5)) (v 3 (v 0 3))) (3 * (v 0 5) + 1) ((v 3 ((v 0 3) + 1)) - 48)))) H := hP
                    have hD : va_D A (wM q cI (va_up (va_up v 0 (va_up (v 0) 3 ((v 0 3) + 3))) 4 (va_up (va_up (v 4) (3 * (v 0 5)) (v 3 (v 0 3))) (3 * (v 0 5) + 1) ((v 3 ((v 0 3) + 1)) - 48)))) := hD
                    refine lv_aload_n hx hb dX5_isPart_148 rfl (lv_at hl 1 rfl) ?_
                    refine o_bipush (k := 57) hx hb dX5_isPart_149 (by decide) ?_
                    refine o_wi (va_runV (As := [.int (nI 57)]) (rest := []) ⟨hx, hb, hml, hown, hts⟩ (k_X5_isDigit l D cI cR cS cL H.size q (va_up (va_up v 0 (va_up (v 0) 3 ((v 0 3) + 3))) 4 (va_up (va_up (v 4) (3 * (v 0 5)) (v 3 (v 0 3))) (3 * (v 0 5) + 1) ((v 3 ((v 0 3) + 1)) - 48))) 57 (by show ((v 0 3) + 3) < 2 ^ 31; first | assumption | omega) (by show v 0 1 ≤ 60; first | assumption | omega) (by show ∀ k, v 3 k < 2 ^ 31; first | assumption | omega) (by show 57 < 2 ^ 31; first | assumption | omega)) (cwV 1 hts gX5_isPart_X5_isDigit rfl rfl rfl (by decide +kernel) ⟨Nat.le_of_ble_eq_true rfl, Nat.le_of_ble_eq_true rfl⟩) (o_v (o_pB hK hN hP hD) (va_recv hK hP (ci := 5) (q0 := 0) rfl rfl)) rfl rfl hl.1 rfl (lv_room (Nat.le_of_ble_eq_true rfl)) dX5_isPart_151 ⟨Nat.zero_le _, Nat.zero_le _⟩) hP hD hS hA [0, 1, 2, 3, 4] (by decide) rfl (fun _ => rfl) (fun r_375 _ H locs e_374 hP hD hS => ?_)
                    have e_374 : r_375 = nI (bn (((v 0 3) + 3) < v 0 1 ∧ 48 ≤ v 3 (((v 0 3) + 3)) ∧ v 3 (((v 0 3) + 3)) ≤ 57)) := e_374
                    subst e_374
                    have hP : va_P D vwCl (wM q cI (va_up (va_up v 0 (if ((v 0 3) + 3) < v 0 1 ∧ 48 ≤ v 3 (((v 0 3) + 3)) ∧ v 3 (((v 0 3) + 3)) ≤ 57 then (va_up (va_up (v 0) 3 ((v 0 3) + 3)) 3 ((v 0 3) + 4)) else (va_up (va_up (v 0) 3 ((v 0 3) + 3)) 4 (bn (((v 0 3) + 3) < v 0 1))))) 4 (va_up (va_up (v 4) (3 * (v 0 5)) (v 3 (v 0 3))) (3 * (v 0 5) + 1) ((v 3 ((v 0 3) + 1)) - 48)))) H := hP
                    have hD : va_D A (wM q cI (va_up (va_up v 0 (if ((v 0 3) + 3) < v 0 1 ∧ 48 ≤ v 3 (((v 0 3) + 3)) ∧ v 3 (((v 0 3) + 3)) ≤ 57 then (va_up (va_up (v 0) 3 ((v 0 3) + 3)) 3 ((v 0 3) + 4)) else (va_up (va_up (v 0) 3 ((v 0 3) + 3)) 4 (bn (((v 0 3) + 3) < v 0 1))))) 4 (va_up (va_up (v 4) (3 * (v 0 5)) (v 3 (v 0 3))) (3 * (v 0 5) + 1) ((v 3 ((v 0 3) + 1)) - 48)))) := hD
                    refine o_ifnz (tgt := 159) hx hb dX5_isPart_154 (by decide) (fun c_376 => ?_) (fun c_376 => ?_)
                    · skip
                      rw [if_pos c_376] at hP hD
                      have hP : va_P D vwCl (wM q cI (va_up (va_up v 0 (va_up (v 0) 3 ((v 0 3) + 4))) 4 (va_up (va_up (v 4) (3 * (v 0 5)) (v 3 (v 0 3))) (3 * (v 0 5) + 1) ((v 3 ((v 0 3) + 1)) - 48)))) H := hP
                      have hD : va_D A (wM q cI (va_up (va_up v 0 (va_up (v 0) 3 ((v 0 3) + 4))) 4 (va_up (va_up (v 4) (3 * (v 0 5)) (v 3 (v 0 3))) (3 * (v 0 5) + 1) ((v 3 ((v 0 3) + 1)) - 48)))) := hD
                      refine lv_aload_n hx hb dX5_isPart_159 rfl (lv_at hl 1 rfl) ?_
                      refine va_get (D := D) (ci := 5) (v := .ref (q 4)) (C := RX5) (T := TX5) (N := 10) hx hb hts inX5_isPart_X5 hown hK hP 0 rfl rfl 8 (by decide) (hts (.fieldLink RX5 19 "OddNoticeModel" "told" "[I") (List.mem_of_getElem? (i := 3) (by decide +kernel))) (fun _ h9 => h9) rfl dX5_isPart_160 ?_
                      refine o_const (k := 3) hx hb dX5_isPart_163 (by decide) ?_
                      refine lv_aload_n hx hb dX5_isPart_164 rfl (lv_at hl 1 rfl) ?_
                      refine va_get (D := D) (ci := 5) (v := .int (nI (v 0 5))) (C := RX5) (T := TX5) (N := 10) hx hb hts inX5_isPart_X5 hown hK hP 0 rfl rfl 9 (by decide) (hts (.fieldLink RX5 106 "OddNoticeModel" "tolds" "I") (List.mem_of_getElem? (i := 4) (by decide +kernel))) (fun _ h9 => h9) rfl dX5_isPart_165 ?_
                      refine o_imul (a := 3) (b := (v 0 5)) (k := (3 * (v 0 5))) hx hb dX5_isPart_168 rfl ?_
                      refine o_const (k := 2) hx hb dX5_isPart_169 (by decide) ?_
                      refine o_iadd (a := (3 * (v 0 5))) (b := 2) (k := (3 * (v 0 5) + 2)) hx hb dX5_isPart_170 rfl ?_
                      refine o_bipush (k := 10) hx hb dX5_isPart_171 (by decide) ?_
                      refine lv_aload_n hx hb dX5_isPart_173 rfl (lv_at hl 1 rfl) ?_
                      refine va_get (D := D) (ci := 5) (v := .ref (q 3)) (C := RX5) (T := TX5) (N := 10) hx hb hts inX5_isPart_X5 hown hK hP 0 rfl rfl 3 (by decide) (hts (.fieldLink RX5 16 "OddNoticeModel" "text" "[I") (List.mem_of_getElem? (i := 1) (by decide +kernel))) (fun _ h9 => h9) rfl dX5_isPart_174 ?_
                      refine lv_aload_n hx hb dX5_isPart_177 rfl (lv_at hl 1 rfl) ?_
                      refine va_get (D := D) (ci := 5) (v := .int (nI ((v 0 3) + 4))) (C := RX5) (T := TX5) (N := 10) hx hb hts inX5_isPart_X5 hown hK hP 0 rfl rfl 6 (by decide) (hts (.fieldLink RX5 89 "OddNoticeModel" "at" "I") (List.mem_of_getElem? (i := 2) (by decide +kernel))) (fun _ h9 => h9) rfl dX5_isPart_178 ?_
                      refine o_const (k := 2) hx hb dX5_isPart_181 (by decide) ?_
                      refine o_isub (a := ((v 0 3) + 4)) (b := 2) (k := ((v 0 3) + 2)) hx hb dX5_isPart_182 (by omega) (by omega) ?_
                      refine o_iald (v := nI (v 3 ((v 0 3) + 2))) hx hb hK hP 3 0 rfl rfl (by omega) (Nat.le_of_ble_eq_true rfl) rfl dX5_isPart_183 ?_
                      have f_377 := ht ((v 0 3) + 2)
                      refine o_bipush (k := 48) hx hb dX5_isPart_184 (by decide) ?_
                      refine o_isub (a := (v 3 ((v 0 3) + 2))) (b := 48) (k := ((v 3 ((v 0 3) + 2)) - 48)) hx hb dX5_isPart_186 (by omega) rfl ?_
                      refine o_imul (a := 10) (b := ((v 3 ((v 0 3) + 2)) - 48)) (k := (10 * ((v 3 ((v 0 3) + 2)) - 48))) hx hb dX5_isPart_187 rfl ?_
                      refine lv_aload_n hx hb dX5_isPart_188 rfl (lv_at hl 1 rfl) ?_
                      refine va_get (D := D) (ci := 5) (v := .ref (q 3)) (C := RX5) (T := TX5) (N := 10) hx hb hts inX5_isPart_X5 hown hK hP 0 rfl rfl 3 (by decide) (hts (.fieldLink RX5 16 "OddNoticeModel" "text" "[I") (List.mem_of_getElem? (i := 1) (by decide +kernel))) (fun _ h9 => h9) rfl dX5_isPart_189 ?_
                      refine lv_aload_n hx hb dX5_isPart_192 rfl (lv_at hl 1 rfl) ?_
                      refine va_get (D := D) (ci := 5) (v := .int (nI ((v 0 3) + 4))) (C := RX5) (T := TX5) (N := 10) hx hb hts inX5_isPart_X5 hown hK hP 0 rfl rfl 6 (by decide) (hts (.fieldLink RX5 89 "OddNoticeModel" "at" "I") (List.mem_of_getElem? (i := 2) (by decide +kernel))) (fun _ h9 => h9) rfl dX5_isPart_193 ?_
                      refine o_const (k := 1) hx hb dX5_isPart_196 (by decide) ?_
                      refine o_isub (a := ((v 0 3) + 4)) (b := 1) (k := ((v 0 3) + 3)) hx hb dX5_isPart_197 (by omega) (by omega) ?_
                      refine o_iald (v := nI (v 3 ((v 0 3) + 3))) hx hb hK hP 3 0 rfl rfl (by omega) (Nat.le_of_ble_eq_true rfl) rfl dX5_isPart_198 ?_
                      have f_378 := ht ((v 0 3) + 3)
                      refine o_iadd (a := (10 * ((v 3 ((v 0 3) + 2)) - 48))) (b := (v 3 ((v 0 3) + 3))) (k := (10 * ((v 3 ((v 0 3) + 2)) - 48) + (v 3 ((v 0 3) + 3)))) hx hb dX5_isPart_199 rfl ?_
                      refine o_bipush (k := 48) hx hb dX5_isPart_200 (by decide) ?_
                      refine o_isub (a := (10 * ((v 3 ((v 0 3) + 2)) - 48) + (v 3 ((v 0 3) + 3)))) (b := 48) (k := (10 * ((v 3 ((v 0 3) + 2)) - 48) + (v 3 ((v 0 3) + 3)) - 48)) hx hb dX5_isPart_202 (by omega) rfl ?_
                      refine o_iast (g := (va_up (va_up (v 4) (3 * (v 0 5)) (v 3 (v 0 3))) (3 * (v 0 5) + 1) ((v 3 ((v 0 3) + 1)) - 48))) hx hb hK hP hD hS 4 0 rfl rfl (by omega) (Nat.le_of_ble_eq_true rfl) dX5_isPart_203 (fun H locs hP hD hS => ?_)
                      have hP : va_P D vwCl (wM q cI (va_up (va_up v 0 (va_up (v 0) 3 ((v 0 3) + 4))) 4 (va_up (va_up (va_up (v 4) (3 * (v 0 5)) (v 3 (v 0 3))) (3 * (v 0 5) + 1) ((v 3 ((v 0 3) + 1)) - 48)) (3 * (v 0 5) + 2) (10 * ((v 3 ((v 0 3) + 2)) - 48) + (v 3 ((v 0 3) + 3)) - 48)))) H := hP
                      have hD : va_D A (wM q cI (va_up (va_up v 0 (va_up (v 0) 3 ((v 0 3) + 4))) 4 (va_up (va_up (va_up (v 4) (3 * (v 0 5)) (v 3 (v 0 3))) (3 * (v 0 5) + 1) ((v 3 ((v 0 3) + 1)) - 48)) (3 * (v 0 5) + 2) (10 * ((v 3 ((v 0 3) + 2)) - 48) + (v 3 ((v 0 3) + 3)) - 48)))) := hD
                      refine o_const (k := 1) hx hb dX5_isPart_204 (by decide) ?_
                      have w_379 : (wM q cI (va_up (va_up v 0 (va_up (va_up (v 0) 3 (m_pt (v 3) (v 0 1) (v 0 5) (v 0 3) (v 0 4) (v 4)).1) 4 (m_pt (v 3) (v 0 1) (v 0 5) (v 0 3) (v 0 4) (v 4)).2.1)) 4 (m_pt (v 3) (v 0 1) (v 0 5) (v 0 3) (v 0 4) (v 4)).2.2.1)) = (wM q cI (va_up (va_up v 0 (va_up (v 0) 3 ((v 0 3) + 4))) 4 (va_up (va_up (va_up (v 4) (3 * (v 0 5)) (v 3 (v 0 3))) (3 * (v 0 5) + 1) ((v 3 ((v 0 3) + 1)) - 48)) (3 * (v 0 5) + 2) (10 * ((v 3 ((v 0 3) + 2)) - 48) + (v 3 ((v 0 3) + 3)) - 48)))) := (by unfold m_pt; rw [if_pos (by omega), if_pos (by unfold m_hi; (repeat' split) <;> omega), if_pos (by omega), if_pos (by omega), if_pos (by omega)]; first | done | rfl)
                      rw [← w_379] at hP
                      exact W.zret (v := nI 1) hx hb hrt rfl (fun t ht hW => ⟨⟨_, (), rfl, (congrArg nI (by unfold m_pt; rw [if_pos (by omega), if_pos (by unfold m_hi; (repeat' split) <;> omega), if_pos (by omega), if_pos (by omega), if_pos (by omega)])), by show va_P D vwCl _ t.heap; rw [ht]; exact hP⟩, hS.F ht⟩) hS.2.2 dX5_isPart_205
                    · skip
                      rw [if_neg c_376] at hP hD
                      have hP : va_P D vwCl (wM q cI (va_up (va_up v 0 (va_up (va_up (v 0) 3 ((v 0 3) + 3)) 4 (bn (((v 0 3) + 3) < v 0 1)))) 4 (va_up (va_up (v 4) (3 * (v 0 5)) (v 3 (v 0 3))) (3 * (v 0 5) + 1) ((v 3 ((v 0 3) + 1)) - 48)))) H := hP
                      have hD : va_D A (wM q cI (va_up (va_up v 0 (va_up (va_up (v 0) 3 ((v 0 3) + 3)) 4 (bn (((v 0 3) + 3) < v 0 1)))) 4 (va_up (va_up (v 4) (3 * (v 0 5)) (v 3 (v 0 3))) (3 * (v 0 5) + 1) ((v 3 ((v 0 3) + 1)) - 48)))) := hD
                      refine o_const (k := 0) hx hb dX5_isPart_157 (by decide) ?_
                      have w_380 : (wM q cI (va_up (va_up v 0 (va_up (va_up (v 0) 3 (m_pt (v 3) (v 0 1) (v 0 5) (v 0 3) (v 0 4) (v 4)).1) 4 (m_pt (v 3) (v 0 1) (v 0 5) (v 0 3) (v 0 4) (v 4)).2.1)) 4 (m_pt (v 3) (v 0 1) (v 0 5) (v 0 3) (v 0 4) (v 4)).2.2.1)) = (wM q cI (va_up (va_up v 0 (va_up (va_up (v 0) 3 ((v 0 3) + 3)) 4 (bn (((v 0 3) + 3) < v 0 1)))) 4 (va_up (va_up (v 4) (3 * (v 0 5)) (v 3 (v 0 3))) (3 * (v 0 5) + 1) ((v 3 ((v 0 3) + 1)) - 48)))) := (by unfold m_pt; rw [if_pos (by omega), if_pos (by unfold m_hi; (repeat' split) <;> omega), if_pos (by omega), if_pos (by omega), if_neg (by omega)]; first | done | rfl)
                      rw [← w_380] at hP
                      exact W.zret (v := nI 0) hx hb hrt rfl (fun t ht hW => ⟨⟨_, (), rfl, (congrArg nI (by unfold m_pt; rw [if_pos (by omega), if_pos (by unfold m_hi; (repeat' split) <;> omega), if_pos (by omega), if_pos (by omega), if_neg (by omega)])), by show va_P D vwCl _ t.heap; rw [ht]; exact hP⟩, hS.F ht⟩) hS.2.2 dX5_isPart_158
              · skip
                rw [if_neg c_366] at hP hD
                have hP : va_P D vwCl (wM q cI (va_up v 0 (va_up (va_up (v 0) 3 ((v 0 3) + 1)) 4 (bn (((v 0 3) + 1) < v 0 1))))) H := hP
                have hD : va_D A (wM q cI (va_up v 0 (va_up (va_up (v 0) 3 ((v 0 3) + 1)) 4 (bn (((v 0 3) + 1) < v 0 1))))) := hD
                refine o_const (k := 0) hx hb dX5_isPart_92 (by decide) ?_
                have w_381 : (wM q cI (va_up (va_up v 0 (va_up (va_up (v 0) 3 (m_pt (v 3) (v 0 1) (v 0 5) (v 0 3) (v 0 4) (v 4)).1) 4 (m_pt (v 3) (v 0 1) (v 0 5) (v 0 3) (v 0 4) (v 4)).2.1)) 4 (m_pt (v 3) (v 0 1) (v 0 5) (v 0 3) (v 0 4) (v 4)).2.2.1)) = (wM q cI (va_up v 0 (va_up (va_up (v 0) 3 ((v 0 3) + 1)) 4 (bn (((v 0 3) + 1) < v 0 1))))) := (by unfold m_pt; rw [if_pos (by omega), if_neg (by unfold m_hi; (repeat' split) <;> omega)]; first | done | rfl)
                rw [← w_381] at hP
                exact W.zret (v := nI 0) hx hb hrt rfl (fun t ht hW => ⟨⟨_, (), rfl, (congrArg nI (by unfold m_pt; rw [if_pos (by omega), if_neg (by unfold m_hi; (repeat' split) <;> omega)])), by show va_P D vwCl _ t.heap; rw [ht]; exact hP⟩, hS.F ht⟩) hS.2.2 dX5_isPart_93
          · skip
            refine lv_aload_n hx hb dX5_isPart_40 rfl (lv_at hl 1 rfl) ?_
            refine o_wi (va_runV (As := []) (rest := []) ⟨hx, hb, hml, hown, hts⟩ (k_X5_stops l D cI cR cS cL s.heap.size q v (by show v 0 3 < 2 ^ 31; first | assumption | omega) (by show v 0 1 < 2 ^ 31; first | assumption | omega)) (cwV 0 hts gX5_isPart_X5_stops rfl rfl rfl (by decide +kernel) ⟨Nat.le_of_ble_eq_true rfl, Nat.le_of_ble_eq_true rfl⟩) (o_v (o_pB hK hN hP hD) (va_recv hK hP (ci := 5) (q0 := 0) rfl rfl)) rfl rfl hl.1 rfl (lv_room (Nat.le_of_ble_eq_true rfl)) dX5_isPart_41 ⟨Nat.zero_le _, Nat.zero_le _⟩) hP hD hS hA [0, 1, 2, 3, 4] (by decide) rfl (fun _ => rfl) (fun r_383 _ H locs e_382 hP hD hS => ?_)
            have e_382 : r_383 = nI 0 := e_382
            subst e_382
            have hP : va_P D vwCl (wM q cI (va_up v 0 (va_up (v 0) 4 (bn (v 0 3 < v 0 1))))) H := hP
            have hD : va_D A (wM q cI (va_up v 0 (va_up (v 0) 4 (bn (v 0 3 < v 0 1))))) := hD
            have w_384 : (wM q cI (va_up (va_up v 0 (va_up (va_up (v 0) 3 (m_pt (v 3) (v 0 1) (v 0 5) (v 0 3) (v 0 4) (v 4)).1) 4 (m_pt (v 3) (v 0 1) (v 0 5) (v 0 3) (v 0 4) (v 4)).2.1)) 4 (m_pt (v 3) (v 0 1) (v 0 5) (v 0 3) (v 0 4) (v 4)).2.2.1)) = (wM q cI (va_up v 0 (va_up (v 0) 4 (bn (v 0 3 < v 0 1))))) := (by unfold m_pt; rw [if_neg (by omega)]; first | done | rfl)
            rw [← w_384] at hP
            exact W.zret (v := nI 0) hx hb hrt rfl (fun t ht hW => ⟨⟨_, (), rfl, (congrArg nI (by unfold m_pt; rw [if_neg (by omega)])), by show va_P D vwCl _ t.heap; rw [ht]; exact hP⟩, hS.F ht⟩) hS.2.2 dX5_isPart_44
