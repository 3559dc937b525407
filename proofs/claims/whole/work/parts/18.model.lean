theorem inX5_come_X5 : ∀ w ∈ wsX50, w ∈ wsX5_come := by decide +kernel
set_option maxHeartbeats 4000000 in
set_option maxRecDepth 100000 in
theorem k_X5_come (l : Launch) (D : va_G) (cI cR cS cL : ClassId) (sz : Nat) (q : Nat → Nat) (v : Nat → Nat → Nat) (b : Nat) (c : Nat) (hI : m_I b (v 1)) (hb : b < 2 ^ 28) (hs : v 0 0 ≤ 6) (hc : c < 2 ^ 32) : Met l yX5_come wsX5_come ({ frames := 2, cells := 0, slots := 0, locals := 42 }) (va_Pc [.ref (q 0), .int (nI c)] (o_B D (o_T cI cR cS cL) (wM q cI v) sz)) (va_Qi (fun rz (_ : Unit) => rz = nI (if (mc_come (v 1) c) = 0 then m_comesr (v 1) else 0)) (fun (_ : Unit) t => va_P D vwCl (wM q cI (m_act v (mc_come (v 1) c) (m_comes (v 1) c))) t.heap) (va_A (wM q cI v) sz)) 0 0 (va_A (wM q cI v) sz) := by
  refine Met.ofW (cc := cX5_come) (maxL := 2) (ret := (some .int)) (by decide) rfl ?_
  intro p e s m args below meth cd s₁ B hml hv
  obtain ⟨rfl, hsz, hP, hK, hD0, hN⟩ := hv
  have hx := B.exec
  have hb := B.bytes
  have hrt := B.returns
  have hts := atoms_spec (ws := wsX5_come) B.pre
  have hown : s.vm.findClass RX5 = some m.cls := findClass_of_methodNamed B.named
  have hlocks := B.notSynchronized
  subst hsz
  have hD := hD0.self (sz := s.heap.size)
  generalize hAe : va_A (wM q cI v) s.heap.size = A at hD ⊢
  have hA : ∀ q : Nat, s.heap.size ≤ q → A q := fun q h => by rw [← hAe]; exact Or.inr h
  have hS : va_S A s.heap s.heap [] := va_S.rf
  have hl := lv_entry ([.ref (q 0), .int (nI c)]) (n := 2) (Nat.le_of_ble_eq_true rfl)
  rw [lg_entry_eq]
  generalize (lg_sl ([.ref (q 0), .int (nI c)]) ++ List.replicate (2 - (lg_sl ([.ref (q 0), .int (nI c)])).length) Slot.unset).toArray = ls at hl ⊢
  have hl : lv_has ls 2 [(0, .ref (q 0)), (1, .int (nI c))] := hl
  have hIc := hI
  obtain ⟨⟨i1, hw, i3, i4, i5⟩, ⟨i6, i7, i8, i9, i10⟩, i11⟩ := hI
  refine lv_aload_n hx hb dX5_come_0 rfl (lv_at hl 0 rfl) ?_
  refine o_const (k := 0) hx hb dX5_come_1 (by decide) ?_
  refine va_put (D := D) (ci := 5) (v := .int (nI 0)) (ty := .int) (C := RX5) (T := TX5) (N := 10) hx hb hts inX5_come_X5 tyX5 tyX5_ok nmX5 hown hK hP hD hS 0 rfl rfl 5 (by decide) (hts (.fieldLink RX5 22 "OddNoticeModel" "thrown" "I") (List.mem_of_getElem? (i := 1) (by decide +kernel))) (fun _ h9 => h9) rfl (by decide +kernel) rfl rfl (Nat.le_of_ble_eq_true rfl) dX5_come_2 (fun H locs hP hD hS => ?_)
  have hP : va_P D vwCl (wM q cI (va_up v 0 (va_up (v 0) 2 0))) H := hP
  have hD : va_D A (wM q cI (va_up v 0 (va_up (v 0) 2 0))) := hD
  refine lv_iload_n hx hb dX5_come_5 rfl (lv_at hl 1 rfl) ?_
  refine o_ri (va_runS (As := [.int (nI c)]) (rest := []) ⟨hx, hb, hml, hown, hts⟩ (k_X5_isClerk l D cI cR cS cL c (by show c < 2 ^ 32; first | assumption | omega)) (va_cwS 1 hts gX5_come_X5_isClerk rfl rfl rfl (by decide +kernel) ⟨Nat.le_of_ble_eq_true rfl, Nat.le_of_ble_eq_true rfl⟩) (o_pR hK hN (hP.sub (ws' := []) [] rfl)) rfl rfl hl.1 rfl (lv_room (Nat.le_of_ble_eq_true rfl)) dX5_come_6 ⟨Nat.zero_le _, Nat.zero_le _⟩) (fun r_2 e_1 => ?_)
  have e_1 : r_2 = nI (bn (c < 3)) := e_1
  subst e_1
  refine o_ifnz (tgt := 18) hx hb dX5_come_9 (by decide) (fun c_3 => ?_) (fun c_3 => ?_)
  · skip
    refine lv_aload_n hx hb dX5_come_18 rfl (lv_at hl 0 rfl) ?_
    refine lv_iload_n hx hb dX5_come_19 rfl (lv_at hl 1 rfl) ?_
    refine o_ri (va_runV (As := [.int (nI c)]) (rest := []) ⟨hx, hb, hml, hown, hts⟩ (k_X5_mode l D cI cR cS cL q (va_up v 0 (va_up (v 0) 2 0)) c (by show c < 3; first | assumption | omega) (by show ∀ k, v 1 k < 2 ^ 32; first | assumption | omega) (by show v 1 4 < 2 ^ 31; first | assumption | omega)) (cwV 1 hts gX5_come_X5_mode rfl rfl rfl (by decide +kernel) ⟨Nat.le_of_ble_eq_true rfl, Nat.le_of_ble_eq_true rfl⟩) (o_v (o_pR hK hN hP) (va_recv hK hP (ci := 5) (q0 := 0) rfl rfl)) rfl rfl hl.1 rfl (lv_room (Nat.le_of_ble_eq_true rfl)) dX5_come_20 ⟨Nat.zero_le _, Nat.zero_le _⟩) (fun r_5 e_4 => ?_)
    have e_4 : r_5 = nI (m_mode (v 1) c) := e_4
    subst e_4
    have gv_6 := m_mode_le (v 1) c
    refine o_if_le (tgt := 32) hx hb dX5_come_23 (by decide) (by omega) (fun c_7 => ?_) (fun c_7 => ?_)
    · skip
      have i13 := m_w4 hIc (show c < 3 by omega) (show m_mode (v 1) c = 0 by omega)
      refine lv_aload_n hx hb dX5_come_32 rfl (lv_at hl 0 rfl) ?_
      refine o_wv (va_runV (As := []) (rest := []) ⟨hx, hb, hml, hown, hts⟩ (k_X5_saves l D cI cR cS cL H.size q (va_up v 0 (va_up (v 0) 2 0)) (by show v 0 0 ≤ 6; first | assumption | omega)) (cwV 0 hts gX5_come_X5_saves rfl rfl rfl (by decide +kernel) ⟨Nat.le_of_ble_eq_true rfl, Nat.le_of_ble_eq_true rfl⟩) (o_v (o_pB hK hN hP hD) (va_recv hK hP (ci := 5) (q0 := 0) rfl rfl)) rfl rfl hl.1 rfl (lv_room (Nat.le_of_ble_eq_true rfl)) dX5_come_33 ⟨Nat.zero_le _, Nat.zero_le _⟩) hP hD hS hA [0, 1, 2, 3, 4] (by decide) rfl (fun _ => rfl) (fun _ H locs e_8 hP hD hS => ?_)
      have hP : va_P D vwCl (wM q cI (va_up (va_up v 0 (va_up (va_up (v 0) 0 (m_svs (v 0 0))) 2 0)) 2 (m_svp (v 0 0) (v 1) (v 2)))) H := hP
      have hD : va_D A (wM q cI (va_up (va_up v 0 (va_up (va_up (v 0) 0 (m_svs (v 0 0))) 2 0)) 2 (m_svp (v 0 0) (v 1) (v 2)))) := hD
      refine lv_aload_n hx hb dX5_come_36 rfl (lv_at hl 0 rfl) ?_
      refine lv_iload_n hx hb dX5_come_37 rfl (lv_at hl 1 rfl) ?_
      refine o_wi (va_runV (As := [.int (nI c)]) (rest := []) ⟨hx, hb, hml, hown, hts⟩ (k_X5_comes l D cI cR cS cL H.size q (va_up (va_up v 0 (va_up (va_up (v 0) 0 (m_svs (v 0 0))) 2 0)) 2 (m_svp (v 0 0) (v 1) (v 2))) c (by show v 1 0 < 2 ^ 31; first | assumption | omega) (by show v 1 4 < 2; first | assumption | omega)) (cwV 1 hts gX5_come_X5_comes rfl rfl rfl (by decide +kernel) ⟨Nat.le_of_ble_eq_true rfl, Nat.le_of_ble_eq_true rfl⟩) (o_v (o_pB hK hN hP hD) (va_recv hK hP (ci := 5) (q0 := 0) rfl rfl)) rfl rfl hl.1 rfl (lv_room (Nat.le_of_ble_eq_true rfl)) dX5_come_38 ⟨Nat.zero_le _, Nat.zero_le _⟩) hP hD hS hA [0, 1, 2, 3, 4] (by decide) rfl (fun _ => rfl) (fun r_10 _ H locs e_9 hP hD hS => ?_)
      have e_9 : r_10 = nI (m_comesr (v 1)) := e_9
      subst e_9
      have hP : va_P D vwCl (wM q cI (va_up (va_up (va_up v 0 (va_up (va_up (v 0) 0 (m_svs (v 0 0))) 2 0)) 1 (m_comes (v 1) c)) 2 (m_svp (v 0 0) (v 1) (v 2)))) H := hP
      have hD : va_D A (wM q cI (va_up (va_up (va_up v 0 (va_up (va_up (v 0) 0 (m_svs (v 0 0))) 2 0)) 1 (m_comes (v 1) c)) 2 (m_svp (v 0 0) (v 1) (v 2)))) := hD
      have w_11 : (wM q cI (m_act v (mc_come (v 1) c) (m_comes (v 1) c))) = (wM q cI (va_up (va_up (va_up v 0 (va_up (va_up (v 0) 0 (m_svs (v 0 0))) 2 0)) 1 (m_comes (v 1) c)) 2 (m_svp (v 0 0) (v 1) (v 2)))) := (by rw [show (mc_come (v 1) c) = 0 from by unfold mc_come; (repeat' split) <;> omega, m_act_0])
      rw [← w_11] at hP
      exact W.iret (v := nI (m_comesr (v 1))) hx hb hrt (fun t ht hW => ⟨⟨_, (), rfl, (congrArg nI (Eq.symm (if_pos (show (mc_come (v 1) c) = 0 by unfold mc_come; (repeat' split) <;> omega)))), by show va_P D vwCl _ t.heap; rw [ht]; exact hP⟩, hS.F ht⟩) hS.2.2 dX5_come_41
    · skip
      refine lv_aload_n hx hb dX5_come_26 rfl (lv_at hl 0 rfl) ?_
      refine o_const (k := 2) hx hb dX5_come_27 (by decide) ?_
      refine o_wi (va_runV (As := [.int (nI 2)]) (rest := []) ⟨hx, hb, hml, hown, hts⟩ (k_X5_fails l D cI cR cS cL H.size q (va_up v 0 (va_up (v 0) 2 0)) 2 ) (cwV 1 hts gX5_come_X5_fails rfl rfl rfl (by decide +kernel) ⟨Nat.le_of_ble_eq_true rfl, Nat.le_of_ble_eq_true rfl⟩) (o_v (o_pB hK hN hP hD) (va_recv hK hP (ci := 5) (q0 := 0) rfl rfl)) rfl rfl hl.1 rfl (lv_room (Nat.le_of_ble_eq_true rfl)) dX5_come_28 ⟨Nat.zero_le _, Nat.zero_le _⟩) hP hD hS hA [0, 1, 2, 3, 4] (by decide) rfl (fun _ => rfl) (fun r_13 _ H locs e_12 hP hD hS => ?_)
      have e_12 : r_13 = nI 0 := e_12
      subst e_12
      have hP : va_P D vwCl (wM q cI (va_up v 0 (va_up (v 0) 2 2))) H := hP
      have hD : va_D A (wM q cI (va_up v 0 (va_up (v 0) 2 2))) := hD
      have w_14 : (wM q cI (m_act v (mc_come (v 1) c) (m_comes (v 1) c))) = (wM q cI (va_up v 0 (va_up (v 0) 2 2))) := (by rw [show (mc_come (v 1) c) = 2 from by unfold mc_come; (repeat' split) <;> omega, m_act_f (by decide)])
      rw [← w_14] at hP
      exact W.iret (v := nI 0) hx hb hrt (fun t ht hW => ⟨⟨_, (), rfl, (congrArg nI (Eq.symm (if_neg (show ¬ (mc_come (v 1) c) = 0 by unfold mc_come; (repeat' split) <;> omega)))), by show va_P D vwCl _ t.heap; rw [ht]; exact hP⟩, hS.F ht⟩) hS.2.2 dX5_come_31
  · skip
    refine lv_aload_n hx hb dX5_come_12 rfl (lv_at hl 0 rfl) ?_
    refine o_const (k := 1) hx hb dX5_come_13 (by decide) ?_
    refine o_wi (va_runV (As := [.int (nI 1)]) (rest := []) ⟨hx, hb, hml, hown, hts⟩ (k_X5_fails l D cI cR cS cL H.size q (va_up v 0 (va_up (v 0) 2 0)) 1 ) (cwV 1 hts gX5_come_X5_fails rfl rfl rfl (by decide +kernel) ⟨Nat.le_of_ble_eq_true rfl, Nat.le_of_ble_eq_true rfl⟩) (o_v (o_pB hK hN hP hD) (va_recv hK hP (ci := 5) (q0 := 0) rfl rfl)) rfl rfl hl.1 rfl (lv_room (Nat.le_of_ble_eq_true rfl)) dX5_come_14 ⟨Nat.zero_le _, Nat.zero_le _⟩) hP hD hS hA [0, 1, 2, 3, 4] (by decide) rfl (fun _ => rfl) (fun r_16 _ H locs e_15 hP hD hS => ?_)
    have e_15 : r_16 = nI 0 := e_15
    subst e_15
    have hP : va_P D vwCl (wM q cI (va_up v 0 (va_up (v 0) 2 1))) H := hP
    have hD : va_D A (wM q cI (va_up v 0 (va_up (v 0) 2 1))) := hD
    have w_17 : (wM q cI (m_act v (mc_come (v 1) c) (m_comes (v 1) c))) = (wM q cI (va_up v 0 (va_up (v 0) 2 1))) := (by rw [show (mc_come (v 1) c) = 1 from by unfold mc_come; (repeat' split) <;> omega, m_act_f (by decide)])
    rw [← w_17] at hP
    exact W.iret (v := nI 0) hx hb hrt (fun t ht hW => ⟨⟨_, (), rfl, (congrArg nI (Eq.symm (if_neg (show ¬ (mc_come (v 1) c) = 0 by unfold mc_come; (repeat' split) <;> omega)))), by show va_P D vwCl _ t.heap; rw [ht]; exact hP⟩, hS.F ht⟩) hS.2.2 dX5_come_17
theorem inX5_chalk_X5 : ∀ w ∈ wsX50, w ∈ wsX5_chalk := by decide +kernel
set_option maxHeartbeats 4000000 in
set_option maxRecDepth 100000 in
theorem k_X5_chalk (l : Launch) (D : va_G) (cI cR cS cL : ClassId) (sz : Nat) (q : Nat → Nat) (v : Nat → Nat → Nat) (b : Nat) (f : Nat) (x : Nat) (hI : m_I b (v 1)) (hb : b < 2 ^ 28) (hs : v 0 0 ≤ 6) (hf : f < 2 ^ 32) (hx0 : x < 2 ^ 32) : Met l yX5_chalk wsX5_chalk ({ frames := 2, cells := 0, slots := 0, locals := 42 }) (va_Pc [.ref (q 0), .int (nI f), .int (nI x)] (o_B D (o_T cI cR cS cL) (wM q cI v) sz)) (va_Qi (fun rz (_ : Unit) => rz = nI (if (mc_chalk (v 1) f x) = 0 then v 1 (7 + f) else 0)) (fun (_ : Unit) t => va_P D vwCl (wM q cI (m_act v (mc_chalk (v 1) f x) (va_up (v 1) (7 + f) x))) t.heap) (va_A (wM q cI v) sz)) 0 0 (va_A (wM q cI v) sz) := by
  refine Met.ofW (cc := cX5_chalk) (maxL := 4) (ret := (some .int)) (by decide) rfl ?_
  intro p e s m args below meth cd s₁ B hml hv
  obtain ⟨rfl, hsz, hP, hK, hD0, hN⟩ := hv
  have hx := B.exec
  have hb := B.bytes
  have hrt := B.returns
  have hts := atoms_spec (ws := wsX5_chalk) B.pre
  have hown : s.vm.findClass RX5 = some m.cls := findClass_of_methodNamed B.named
  have hlocks := B.notSynchronized
  subst hsz
  have hD := hD0.self (sz := s.heap.size)
  generalize hAe : va_A (wM q cI v) s.heap.size = A at hD ⊢
  have hA : ∀ q : Nat, s.heap.size ≤ q → A q := fun q h => by rw [← hAe]; exact Or.inr h
  have hS : va_S A s.heap s.heap [] := va_S.rf
  have hl := lv_entry ([.ref (q 0), .int (nI f), .int (nI x)]) (n := 4) (Nat.le_of_ble_eq_true rfl)
  rw [lg_entry_eq]
  generalize (lg_sl ([.ref (q 0), .int (nI f), .int (nI x)]) ++ List.replicate (4 - (lg_sl ([.ref (q 0), .int (nI f), .int (nI x)])).length) Slot.unset).toArray = ls at hl ⊢
  have hl : lv_has ls 4 [(0, .ref (q 0)), (1, .int (nI f)), (2, .int (nI x))] := hl
  have hIc := hI
  obtain ⟨⟨i1, hw, i3, i4, i5⟩, ⟨i6, i7, i8, i9, i10⟩, i11⟩ := hI
  refine lv_aload_n hx hb dX5_chalk_0 rfl (lv_at hl 0 rfl) ?_
  refine o_const (k := 0) hx hb dX5_chalk_1 (by decide) ?_
  refine va_put (D := D) (ci := 5) (v := .int (nI 0)) (ty := .int) (C := RX5) (T := TX5) (N := 10) hx hb hts inX5_chalk_X5 tyX5 tyX5_ok nmX5 hown hK hP hD hS 0 rfl rfl 5 (by decide) (hts (.fieldLink RX5 22 "OddNoticeModel" "thrown" "I") (List.mem_of_getElem? (i := 1) (by decide +kernel))) (fun _ h9 => h9) rfl (by decide +kernel) rfl rfl (Nat.le_of_ble_eq_true rfl) dX5_chalk_2 (fun H locs hP hD hS => ?_)
  have hP : va_P D vwCl (wM q cI (va_up v 0 (va_up (v 0) 2 0))) H := hP
  have hD : va_D A (wM q cI (va_up v 0 (va_up (v 0) 2 0))) := hD
  refine lv_iload_n hx hb dX5_chalk_5 rfl (lv_at hl 1 rfl) ?_
  refine o_ri (va_runS (As := [.int (nI f)]) (rest := []) ⟨hx, hb, hml, hown, hts⟩ (k_X5_isField l D cI cR cS cL f (by show f < 2 ^ 32; first | assumption | omega)) (va_cwS 1 hts gX5_chalk_X5_isField rfl rfl rfl (by decide +kernel) ⟨Nat.le_of_ble_eq_true rfl, Nat.le_of_ble_eq_true rfl⟩) (o_pR hK hN (hP.sub (ws' := []) [] rfl)) rfl rfl hl.1 rfl (lv_room (Nat.le_of_ble_eq_true rfl)) dX5_chalk_6 ⟨Nat.zero_le _, Nat.zero_le _⟩) (fun r_2 e_1 => ?_)
  have e_1 : r_2 = nI (bn (f < 5)) := e_1
  subst e_1
  refine o_ifnz (tgt := 18) hx hb dX5_chalk_9 (by decide) (fun c_3 => ?_) (fun c_3 => ?_)
  · skip
    refine lv_iload_n hx hb dX5_chalk_18 rfl (lv_at hl 2 rfl) ?_
    refine o_const (k := 0) hx hb dX5_chalk_19 (by decide) ?_
    refine o_bipush (k := 99) hx hb dX5_chalk_20 (by decide) ?_
    refine o_ri (va_runS (As := [.int (nI x), .int (nI 0), .int (nI 99)]) (rest := []) ⟨hx, hb, hml, hown, hts⟩ (k_X5_in l D cI cR cS cL x 0 99 (by show x < 2 ^ 32; first | assumption | omega) (by show 0 < 2 ^ 31; first | assumption | omega) (by show 99 < 2 ^ 31; first | assumption | omega)) (va_cwS 3 hts gX5_chalk_X5_in rfl rfl rfl (by decide +kernel) ⟨Nat.le_of_ble_eq_true rfl, Nat.le_of_ble_eq_true rfl⟩) (o_pR hK hN (hP.sub (ws' := []) [] rfl)) rfl rfl hl.1 rfl (lv_room (Nat.le_of_ble_eq_true rfl)) dX5_chalk_22 ⟨Nat.zero_le _, Nat.zero_le _⟩) (fun r_5 e_4 => ?_)
    have e_4 : r_5 = nI (bn (0 ≤ x ∧ x ≤ 99)) := e_4
    subst e_4
    refine o_ifnz (tgt := 34) hx hb dX5_chalk_25 (by decide) (fun c_6 => ?_) (fun c_6 => ?_)
    · skip
      refine lv_aload_n hx hb dX5_chalk_34 rfl (lv_at hl 0 rfl) ?_
      refine va_get (D := D) (ci := 5) (v := .ref (q 1)) (C := RX5) (T := TX5) (N := 10) hx hb hts inX5_chalk_X5 hown hK hP 0 rfl rfl 0 (by decide) (hts (.fieldLink RX5 7 "OddNoticeModel" "now" "[I") (List.mem_of_getElem? (i := 2) (by decide +kernel))) (fun _ h9 => h9) rfl dX5_chalk_35 ?_
      refine o_const (k := 3) hx hb dX5_chalk_38 (by decide) ?_
      refine o_iald (v := nI (v 1 3)) hx hb hK hP 1 0 rfl rfl (Nat.le_of_ble_eq_true rfl) (Nat.le_of_ble_eq_true rfl) rfl dX5_chalk_39 ?_
      have f_7 := hw 3
      refine o_const (k := 4294967295) hx hb dX5_chalk_40 (by decide) ?_
      refine o_icmp_ne (tgt := 50) hx hb dX5_chalk_41 (by decide) (by omega) (Nat.le_of_ble_eq_true rfl) (fun c_8 => ?_) (fun c_8 => ?_)
      · skip
        refine lv_aload_n hx hb dX5_chalk_50 rfl (lv_at hl 0 rfl) ?_
        refine o_wv (va_runV (As := []) (rest := []) ⟨hx, hb, hml, hown, hts⟩ (k_X5_saves l D cI cR cS cL H.size q (va_up v 0 (va_up (v 0) 2 0)) (by show v 0 0 ≤ 6; first | assumption | omega)) (cwV 0 hts gX5_chalk_X5_saves rfl rfl rfl (by decide +kernel) ⟨Nat.le_of_ble_eq_true rfl, Nat.le_of_ble_eq_true rfl⟩) (o_v (o_pB hK hN hP hD) (va_recv hK hP (ci := 5) (q0 := 0) rfl rfl)) rfl rfl hl.1 rfl (lv_room (Nat.le_of_ble_eq_true rfl)) dX5_chalk_51 ⟨Nat.zero_le _, Nat.zero_le _⟩) hP hD hS hA [0, 1, 2, 3, 4] (by decide) rfl (fun _ => rfl) (fun _ H locs e_9 hP hD hS => ?_)
        have hP : va_P D vwCl (wM q cI (va_up (va_up v 0 (va_up (va_up (v 0) 0 (m_svs (v 0 0))) 2 0)) 2 (m_svp (v 0 0) (v 1) (v 2)))) H := hP
        have hD : va_D A (wM q cI (va_up (va_up v 0 (va_up (va_up (v 0) 0 (m_svs (v 0 0))) 2 0)) 2 (m_svp (v 0 0) (v 1) (v 2)))) := hD
        refine lv_aload_n hx hb dX5_chalk_54 rfl (lv_at hl 0 rfl) ?_
        refine va_get (D := D) (ci := 5) (v := .ref (q 1)) (C := RX5) (T := TX5) (N := 10) hx hb hts inX5_chalk_X5 hown hK hP 0 rfl rfl 0 (by decide) (hts (.fieldLink RX5 7 "OddNoticeModel" "now" "[I") (List.mem_of_getElem? (i := 2) (by decide +kernel))) (fun _ h9 => h9) rfl dX5_chalk_55 ?_
        refine o_bipush (k := 7) hx hb dX5_chalk_58 (by decide) ?_
        refine lv_iload_n hx hb dX5_chalk_60 rfl (lv_at hl 1 rfl) ?_
        refine o_iadd (a := 7) (b := f) (k := (7 + f)) hx hb dX5_chalk_61 rfl ?_
        refine o_iald (v := nI (v 1 (7 + f))) hx hb hK hP 1 0 rfl rfl (by omega) (Nat.le_of_ble_eq_true rfl) rfl dX5_chalk_62 ?_
        have f_10 := hw (7 + f)
        refine lv_istore_n (lv' := [(3, .int (nI (v 1 (7 + f)))), (0, .ref (q 0)), (1, .int (nI f)), (2, .int (nI x))]) hx hb dX5_chalk_63 rfl hl (by decide) rfl (fun ls hl => ?_)
        refine lv_aload_n hx hb dX5_chalk_64 rfl (lv_at hl 1 rfl) ?_
        refine va_get (D := D) (ci := 5) (v := .ref (q 1)) (C := RX5) (T := TX5) (N := 10) hx hb hts inX5_chalk_X5 hown hK hP 0 rfl rfl 0 (by decide) (hts (.fieldLink RX5 7 "OddNoticeModel" "now" "[I") (List.mem_of_getElem? (i := 2) (by decide +kernel))) (fun _ h9 => h9) rfl dX5_chalk_65 ?_
        refine o_bipush (k := 7) hx hb dX5_chalk_68 (by decide) ?_
        refine lv_iload_n hx hb dX5_chalk_70 rfl (lv_at hl 2 rfl) ?_
        refine o_iadd (a := 7) (b := f) (k := (7 + f)) hx hb dX5_chalk_71 rfl ?_
        refine lv_iload_n hx hb dX5_chalk_72 rfl (lv_at hl 3 rfl) ?_
        refine o_iast (g := (v 1)) hx hb hK hP hD hS 1 0 rfl rfl (by omega) (Nat.le_of_ble_eq_true rfl) dX5_chalk_73 (fun H locs hP hD hS => ?_)
        have hP : va_P D vwCl (wM q cI (va_up (va_up (va_up v 0 (va_up (va_up (v 0) 0 (m_svs (v 0 0))) 2 0)) 1 (va_up (v 1) (7 + f) x)) 2 (m_svp (v 0 0) (v 1) (v 2)))) H := hP
        have hD : va_D A (wM q cI (va_up (va_up (va_up v 0 (va_up (va_up (v 0) 0 (m_svs (v 0 0))) 2 0)) 1 (va_up (v 1) (7 + f) x)) 2 (m_svp (v 0 0) (v 1) (v 2)))) := hD
        refine lv_iload_n hx hb dX5_chalk_74 rfl (lv_at hl 0 rfl) ?_
        have w_11 : (wM q cI (m_act v (mc_chalk (v 1) f x) (va_up (v 1) (7 + f) x))) = (wM q cI (va_up (va_up (va_up v 0 (va_up (va_up (v 0) 0 (m_svs (v 0 0))) 2 0)) 1 (va_up (v 1) (7 + f) x)) 2 (m_svp (v 0 0) (v 1) (v 2)))) := (by rw [show (mc_chalk (v 1) f x) = 0 from by unfold mc_chalk; (repeat' split) <;> omega, m_act_0])
        rw [← w_11] at hP
        exact W.iret (v := nI (v 1 (7 + f))) hx hb hrt (fun t ht hW => ⟨⟨_, (), rfl, (congrArg nI (Eq.symm (if_pos (show (mc_chalk (v 1) f x) = 0 by unfold mc_chalk; (repeat' split) <;> omega)))), by show va_P D vwCl _ t.heap; rw [ht]; exact hP⟩, hS.F ht⟩) hS.2.2 dX5_chalk_75
      · skip
        refine lv_aload_n hx hb dX5_chalk_44 rfl (lv_at hl 0 rfl) ?_
        refine o_const (k := 3) hx hb dX5_chalk_45 (by decide) ?_
        refine o_wi (va_runV (As := [.int (nI 3)]) (rest := []) ⟨hx, hb, hml, hown, hts⟩ (k_X5_fails l D cI cR cS cL H.size q (va_up v 0 (va_up (v 0) 2 0)) 3 ) (cwV 1 hts gX5_chalk_X5_fails rfl rfl rfl (by decide +kernel) ⟨Nat.le_of_ble_eq_true rfl, Nat.le_of_ble_eq_true rfl⟩) (o_v (o_pB hK hN hP hD) (va_recv hK hP (ci := 5) (q0 := 0) rfl rfl)) rfl rfl hl.1 rfl (lv_room (Nat.le_of_ble_eq_true rfl)) dX5_chalk_46 ⟨Nat.zero_le _, Nat.zero_le _⟩) hP hD hS hA [0, 1, 2, 3, 4] (by decide) rfl (fun _ => rfl) (fun r_13 _ H locs e_12 hP hD hS => ?_)
        have e_12 : r_13 = nI 0 := e_12
        subst e_12
        have hP : va_P D vwCl (wM q cI (va_up v 0 (va_up (v 0) 2 3))) H := hP
        have hD : va_D A (wM q cI (va_up v 0 (va_up (v 0) 2 3))) := hD
        have w_14 : (wM q cI (m_act v (mc_chalk (v 1) f x) (va_up (v 1) (7 + f) x))) = (wM q cI (va_up v 0 (va_up (v 0) 2 3))) := (by rw [show (mc_chalk (v 1) f x) = 3 from by unfold mc_chalk; (repeat' split) <;> omega, m_act_f (by decide)])
        rw [← w_14] at hP
        exact W.iret (v := nI 0) hx hb hrt (fun t ht hW => ⟨⟨_, (), rfl, (congrArg nI (Eq.symm (if_neg (show ¬ (mc_chalk (v 1) f x) = 0 by unfold mc_chalk; (repeat' split) <;> omega)))), by show va_P D vwCl _ t.heap; rw [ht]; exact hP⟩, hS.F ht⟩) hS.2.2 dX5_chalk_49
    · skip
      refine lv_aload_n hx hb dX5_chalk_28 rfl (lv_at hl 0 rfl) ?_
      refine o_const (k := 2) hx hb dX5_chalk_29 (by decide) ?_
      refine o_wi (va_runV (As := [.int (nI 2)]) (rest := []) ⟨hx, hb, hml, hown, hts⟩ (k_X5_fails l D cI cR cS cL H.size q (va_up v 0 (va_up (v 0) 2 0)) 2 ) (cwV 1 hts gX5_chalk_X5_fails rfl rfl rfl (by decide +kernel) ⟨Nat.le_of_ble_eq_true rfl, Nat.le_of_ble_eq_true rfl⟩) (o_v (o_pB hK hN hP hD) (va_recv hK hP (ci := 5) (q0 := 0) rfl rfl)) rfl rfl hl.1 rfl (lv_room (Nat.le_of_ble_eq_true rfl)) dX5_chalk_30 ⟨Nat.zero_le _, Nat.zero_le _⟩) hP hD hS hA [0, 1, 2, 3, 4] (by decide) rfl (fun _ => rfl) (fun r_16 _ H locs e_15 hP hD hS => ?_)
      have e_15 : r_16 = nI 0 := e_15
      subst e_15
      have hP : va_P D vwCl (wM q cI (va_up v 0 (va_up (v 0) 2 2))) H := hP
      have hD : va_D A (wM q cI (va_up v 0 (va_up (v 0) 2 2))) := hD
      have w_17 : (wM q cI (m_act v (mc_chalk (v 1) f x) (va_up (v 1) (7 + f) x))) = (wM q cI (va_up v 0 (va_up (v 0) 2 2))) := (by rw [show (mc_chalk (v 1) f x) = 2 from by unfold mc_chalk; (repeat' split) <;> omega, m_act_f (by decide)])
      rw [← w_17] at hP
      exact W.iret (v := nI 0) hx hb hrt (fun t ht hW => ⟨⟨_, (), rfl, (congrArg nI (Eq.symm (if_neg (show ¬ (mc_chalk (v 1) f x) = 0 by unfold mc_chalk; (repeat' split) <;> omega)))), by show va_P D vwCl _ t.heap; rw [ht]; exact hP⟩, hS.F ht⟩) hS.2.2 dX5_chalk_33
  · skip
    refine lv_aload_n hx hb dX5_chalk_12 rfl (lv_at hl 0 rfl) ?_
    refine o_const (k := 1) hx hb dX5_chalk_13 (by decide) ?_
    refine o_wi (va_runV (As := [.int (nI 1)]) (rest := []) ⟨hx, hb, hml, hown, hts⟩ (k_X5_fails l D cI cR cS cL H.size q (va_up v 0 (va_up (v 0) 2 0)) 1 ) (cwV 1 hts gX5_chalk_X5_fails rfl rfl rfl (by decide +kernel) ⟨Nat.le_of_ble_eq_true rfl, Nat.le_of_ble_eq_true rfl⟩) (o_v (o_pB hK hN hP hD) (va_recv hK hP (ci := 5) (q0 := 0) rfl rfl)) rfl rfl hl.1 rfl (lv_room (Nat.le_of_ble_eq_true rfl)) dX5_chalk_14 ⟨Nat.zero_le _, Nat.zero_le _⟩) hP hD hS hA [0, 1, 2, 3, 4] (by decide) rfl (fun _ => rfl) (fun r_19 _ H locs e_18 hP hD hS => ?_)
    have e_18 : r_19 = nI 0 := e_18
    subst e_18
    have hP : va_P D vwCl (wM q cI (va_up v 0 (va_up (v 0) 2 1))) H := hP
    have hD : va_D A (wM q cI (va_up v 0 (va_up (v 0) 2 1))) := hD
    have w_20 : (wM q cI (m_act v (mc_chalk (v 1) f x) (va_up (v 1) (7 + f) x))) = (wM q cI (va_up v 0 (va_up (v 0) 2 1))) := (by rw [show (mc_chalk (v 1) f x) = 1 from by unfold mc_chalk; (repeat' split) <;> omega, m_act_f (by decide)])
    rw [← w_20] at hP
    exact W.iret (v := nI 0) hx hb hrt (fun t ht hW => ⟨⟨_, (), rfl, (congrArg nI (Eq.symm (if_neg (show ¬ (mc_chalk (v 1) f x) = 0 by unfold mc_chalk; (repeat' split) <;> omega)))), by show va_P D vwCl _ t.heap; rw [ht]; exact hP⟩, hS.F ht⟩) hS.2.2 dX5_chalk_17
theorem inX5_done_X5 : ∀ w ∈ wsX50, w ∈ wsX5_done := by decide +kernel
set_option maxHeartbeats 4000000 in
set_option maxRecDepth 100000 in
theorem k_X5_done (l : Launch) (D : va_G) (cI cR cS cL : ClassId) (sz : Nat) (q : Nat → Nat) (v : Nat → Nat → Nat) (b : Nat) (c : Nat) (hI : m_I b (v 1)) (hb : b < 2 ^ 28) (hs : v 0 0 ≤ 6) (hc : c < 2 ^ 32) : Met l yX5_done wsX5_done ({ frames := 2, cells := 0, slots := 0, locals := 42 }) (va_Pc [.ref (q 0), .int (nI c)] (o_B D (o_T cI cR cS cL) (wM q cI v) sz)) (va_Qi (fun rz (_ : Unit) => rz = nI (if (mc_done (v 1) c) = 0 then (v 1 0 + 1) / 2 else 0)) (fun (_ : Unit) t => va_P D vwCl (wM q cI (m_act v (mc_done (v 1) c) (m_ends (v 1) c))) t.heap) (va_A (wM q cI v) sz)) 0 0 (va_A (wM q cI v) sz) := by
  refine Met.ofW (cc := cX5_done) (maxL := 2) (ret := (some .int)) (by decide) rfl ?_
  intro p e s m args below meth cd s₁ B hml hv
  obtain ⟨rfl, hsz, hP, hK, hD0, hN⟩ := hv
  have hx := B.exec
  have hb := B.bytes
  have hrt := B.returns
  have hts := atoms_spec (ws := wsX5_done) B.pre
  have hown : s.vm.findClass RX5 = some m.cls := findClass_of_methodNamed B.named
  have hlocks := B.notSynchronized
  subst hsz
  have hD := hD0.self (sz := s.heap.size)
  generalize hAe : va_A (wM q cI v) s.heap.size = A at hD ⊢
  have hA : ∀ q : Nat, s.heap.size ≤ q → A q := fun q h => by rw [← hAe]; exact Or.inr h
  have hS : va_S A s.heap s.heap [] := va_S.rf
  have hl := lv_entry ([.ref (q 0), .int (nI c)]) (n := 2) (Nat.le_of_ble_eq_true rfl)
  rw [lg_entry_eq]
  generalize (lg_sl ([.ref (q 0), .int (nI c)]) ++ List.replicate (2 - (lg_sl ([.ref (q 0), .int (nI c)])).length) Slot.unset).toArray = ls at hl ⊢
  have hl : lv_has ls 2 [(0, .ref (q 0)), (1, .int (nI c))] := hl
  have hIc := hI
  obtain ⟨⟨i1, hw, i3, i4, i5⟩, ⟨i6, i7, i8, i9, i10⟩, i11⟩ := hI
  refine lv_aload_n hx hb dX5_done_0 rfl (lv_at hl 0 rfl) ?_
  refine o_const (k := 0) hx hb dX5_done_1 (by decide) ?_
  refine va_put (D := D) (ci := 5) (v := .int (nI 0)) (ty := .int) (C := RX5) (T := TX5) (N := 10) hx hb hts inX5_done_X5 tyX5 tyX5_ok nmX5 hown hK hP hD hS 0 rfl rfl 5 (by decide) (hts (.fieldLink RX5 22 "OddNoticeModel" "thrown" "I") (List.mem_of_getElem? (i := 1) (by decide +kernel))) (fun _ h9 => h9) rfl (by decide +kernel) rfl rfl (Nat.le_of_ble_eq_true rfl) dX5_done_2 (fun H locs hP hD hS => ?_)
  have hP : va_P D vwCl (wM q cI (va_up v 0 (va_up (v 0) 2 0))) H := hP
  have hD : va_D A (wM q cI (va_up v 0 (va_up (v 0) 2 0))) := hD
  refine lv_iload_n hx hb dX5_done_5 rfl (lv_at hl 1 rfl) ?_
  refine o_ri (va_runS (As := [.int (nI c)]) (rest := []) ⟨hx, hb, hml, hown, hts⟩ (k_X5_isClerk l D cI cR cS cL c (by show c < 2 ^ 32; first | assumption | omega)) (va_cwS 1 hts gX5_done_X5_isClerk rfl rfl rfl (by decide +kernel) ⟨Nat.le_of_ble_eq_true rfl, Nat.le_of_ble_eq_true rfl⟩) (o_pR hK hN (hP.sub (ws' := []) [] rfl)) rfl rfl hl.1 rfl (lv_room (Nat.le_of_ble_eq_true rfl)) dX5_done_6 ⟨Nat.zero_le _, Nat.zero_le _⟩) (fun r_2 e_1 => ?_)
  have e_1 : r_2 = nI (bn (c < 3)) := e_1
  subst e_1
  refine o_ifnz (tgt := 18) hx hb dX5_done_9 (by decide) (fun c_3 => ?_) (fun c_3 => ?_)
  · skip
    refine lv_aload_n hx hb dX5_done_18 rfl (lv_at hl 0 rfl) ?_
    refine lv_iload_n hx hb dX5_done_19 rfl (lv_at hl 1 rfl) ?_
    refine o_ri (va_runV (As := [.int (nI c)]) (rest := []) ⟨hx, hb, hml, hown, hts⟩ (k_X5_mode l D cI cR cS cL q (va_up v 0 (va_up (v 0) 2 0)) c (by show c < 3; first | assumption | omega) (by show ∀ k, v 1 k < 2 ^ 32; first | assumption | omega) (by show v 1 4 < 2 ^ 31; first | assumption | omega)) (cwV 1 hts gX5_done_X5_mode rfl rfl rfl (by decide +kernel) ⟨Nat.le_of_ble_eq_true rfl, Nat.le_of_ble_eq_true rfl⟩) (o_v (o_pR hK hN hP) (va_recv hK hP (ci := 5) (q0 := 0) rfl rfl)) rfl rfl hl.1 rfl (lv_room (Nat.le_of_ble_eq_true rfl)) dX5_done_20 ⟨Nat.zero_le _, Nat.zero_le _⟩) (fun r_5 e_4 => ?_)
    have e_4 : r_5 = nI (m_mode (v 1) c) := e_4
    subst e_4
    have gv_6 := m_mode_le (v 1) c
    refine o_const (k := 1) hx hb dX5_done_23 (by decide) ?_
    refine o_icmp_eq (tgt := 33) hx hb dX5_done_24 (by decide) (by omega) (Nat.le_of_ble_eq_true rfl) (fun c_7 => ?_) (fun c_7 => ?_)
    · skip
      refine lv_aload_n hx hb dX5_done_33 rfl (lv_at hl 0 rfl) ?_
      refine o_wv (va_runV (As := []) (rest := []) ⟨hx, hb, hml, hown, hts⟩ (k_X5_saves l D cI cR cS cL H.size q (va_up v 0 (va_up (v 0) 2 0)) (by show v 0 0 ≤ 6; first | assumption | omega)) (cwV 0 hts gX5_done_X5_saves rfl rfl rfl (by decide +kernel) ⟨Nat.le_of_ble_eq_true rfl, Nat.le_of_ble_eq_true rfl⟩) (o_v (o_pB hK hN hP hD) (va_recv hK hP (ci := 5) (q0 := 0) rfl rfl)) rfl rfl hl.1 rfl (lv_room (Nat.le_of_ble_eq_true rfl)) dX5_done_34 ⟨Nat.zero_le _, Nat.zero_le _⟩) hP hD hS hA [0, 1, 2, 3, 4] (by decide) rfl (fun _ => rfl) (fun _ H locs e_8 hP hD hS => ?_)
      have hP : va_P D vwCl (wM q cI (va_up (va_up v 0 (va_up (va_up (v 0) 0 (m_svs (v 0 0))) 2 0)) 2 (m_svp (v 0 0) (v 1) (v 2)))) H := hP
      have hD : va_D A (wM q cI (va_up (va_up v 0 (va_up (va_up (v 0) 0 (m_svs (v 0 0))) 2 0)) 2 (m_svp (v 0 0) (v 1) (v 2)))) := hD
      refine lv_aload_n hx hb dX5_done_37 rfl (lv_at hl 0 rfl) ?_
      refine lv_iload_n hx hb dX5_done_38 rfl (lv_at hl 1 rfl) ?_
      refine o_wi (va_runV (As := [.int (nI c)]) (rest := []) ⟨hx, hb, hml, hown, hts⟩ (k_X5_ends l D cI cR cS cL H.size q (va_up (va_up v 0 (va_up (va_up (v 0) 0 (m_svs (v 0 0))) 2 0)) 2 (m_svp (v 0 0) (v 1) (v 2))) c (by show c < 3; first | assumption | omega) (by show v 1 0 < 2 ^ 30; first | assumption | omega) (by show v 1 4 < 2 ^ 31; first | assumption | omega)) (cwV 1 hts gX5_done_X5_ends rfl rfl rfl (by decide +kernel) ⟨Nat.le_of_ble_eq_true rfl, Nat.le_of_ble_eq_true rfl⟩) (o_v (o_pB hK hN hP hD) (va_recv hK hP (ci := 5) (q0 := 0) rfl rfl)) rfl rfl hl.1 rfl (lv_room (Nat.le_of_ble_eq_true rfl)) dX5_done_39 ⟨Nat.zero_le _, Nat.zero_le _⟩) hP hD hS hA [0, 1, 2, 3, 4] (by decide) rfl (fun _ => rfl) (fun r_10 _ H locs e_9 hP hD hS => ?_)
      have e_9 : r_10 = nI ((v 1 0 + 1) / 2) := e_9
      subst e_9
      have hP : va_P D vwCl (wM q cI (va_up (va_up (va_up v 0 (va_up (va_up (v 0) 0 (m_svs (v 0 0))) 2 0)) 1 (m_ends (v 1) c)) 2 (m_svp (v 0 0) (v 1) (v 2)))) H := hP
      have hD : va_D A (wM q cI (va_up (va_up (va_up v 0 (va_up (va_up (v 0) 0 (m_svs (v 0 0))) 2 0)) 1 (m_ends (v 1) c)) 2 (m_svp (v 0 0) (v 1) (v 2)))) := hD
      have w_11 : (wM q cI (m_act v (mc_done (v 1) c) (m_ends (v 1) c))) = (wM q cI (va_up (va_up (va_up v 0 (va_up (va_up (v 0) 0 (m_svs (v 0 0))) 2 0)) 1 (m_ends (v 1) c)) 2 (m_svp (v 0 0) (v 1) (v 2)))) := (by rw [show (mc_done (v 1) c) = 0 from by unfold mc_done; (repeat' split) <;> omega, m_act_0])
      rw [← w_11] at hP
      exact W.iret (v := nI ((v 1 0 + 1) / 2)) hx hb hrt (fun t ht hW => ⟨⟨_, (), rfl, (congrArg nI (Eq.symm (if_pos (show (mc_done (v 1) c) = 0 by unfold mc_done; (repeat' split) <;> omega)))), by show va_P D vwCl _ t.heap; rw [ht]; exact hP⟩, hS.F ht⟩) hS.2.2 dX5_done_42
    · skip
      refine lv_aload_n hx hb dX5_done_27 rfl (lv_at hl 0 rfl) ?_
      refine o_const (k := 2) hx hb dX5_done_28 (by decide) ?_
      refine o_wi (va_runV (As := [.int (nI 2)]) (rest := []) ⟨hx, hb, hml, hown, hts⟩ (k_X5_fails l D cI cR cS cL H.size q (va_up v 0 (va_up (v 0) 2 0)) 2 ) (cwV 1 hts gX5_done_X5_fails rfl rfl rfl (by decide +kernel) ⟨Nat.le_of_ble_eq_true rfl, Nat.le_of_ble_eq_true rfl⟩) (o_v (o_pB hK hN hP hD) (va_recv hK hP (ci := 5) (q0 := 0) rfl rfl)) rfl rfl hl.1 rfl (lv_room (Nat.le_of_ble_eq_true rfl)) dX5_done_29 ⟨Nat.zero_le _, Nat.zero_le _⟩) hP hD hS hA [0, 1, 2, 3, 4] (by decide) rfl (fun _ => rfl) (fun r_13 _ H locs e_12 hP hD hS => ?_)
      have e_12 : r_13 = nI 0 := e_12
      subst e_12
      have hP : va_P D vwCl (wM q cI (va_up v 0 (va_up (v 0) 2 2))) H := hP
      have hD : va_D A (wM q cI (va_up v 0 (va_up (v 0) 2 2))) := hD
      have w_14 : (wM q cI (m_act v (mc_done (v 1) c) (m_ends (v 1) c))) = (wM q cI (va_up v 0 (va_up (v 0) 2 2))) := (by rw [show (mc_done (v 1) c) = 2 from by unfold mc_done; (repeat' split) <;> omega, m_act_f (by decide)])
      rw [← w_14] at hP
      exact W.iret (v := nI 0) hx hb hrt (fun t ht hW => ⟨⟨_, (), rfl, (congrArg nI (Eq.symm (if_neg (show ¬ (mc_done (v 1) c) = 0 by unfold mc_done; (repeat' split) <;> omega)))), by show va_P D vwCl _ t.heap; rw [ht]; exact hP⟩, hS.F ht⟩) hS.2.2 dX5_done_32
  · skip
    refine lv_aload_n hx hb dX5_done_12 rfl (lv_at hl 0 rfl) ?_
    refine o_const (k := 1) hx hb dX5_done_13 (by decide) ?_
    refine o_wi (va_runV (As := [.int (nI 1)]) (rest := []) ⟨hx, hb, hml, hown, hts⟩ (k_X5_fails l D cI cR cS cL H.size q (va_up v 0 (va_up (v 0) 2 0)) 1 ) (cwV 1 hts gX5_done_X5_fails rfl rfl rfl (by decide +kernel) ⟨Nat.le_of_ble_eq_true rfl, Nat.le_of_ble_eq_true rfl⟩) (o_v (o_pB hK hN hP hD) (va_recv hK hP (ci := 5) (q0 := 0) rfl rfl)) rfl rfl hl.1 rfl (lv_room (Nat.le_of_ble_eq_true rfl)) dX5_done_14 ⟨Nat.zero_le _, Nat.zero_le _⟩) hP hD hS hA [0, 1, 2, 3, 4] (by decide) rfl (fun _ => rfl) (fun r_16 _ H locs e_15 hP hD hS => ?_)
    have e_15 : r_16 = nI 0 := e_15
    subst e_15
    have hP : va_P D vwCl (wM q cI (va_up v 0 (va_up (v 0) 2 1))) H := hP
    have hD : va_D A (wM q cI (va_up v 0 (va_up (v 0) 2 1))) := hD
    have w_17 : (wM q cI (m_act v (mc_done (v 1) c) (m_ends (v 1) c))) = (wM q cI (va_up v 0 (va_up (v 0) 2 1))) := (by rw [show (mc_done (v 1) c) = 1 from by unfold mc_done; (repeat' split) <;> omega, m_act_f (by decide)])
    rw [← w_17] at hP
    exact W.iret (v := nI 0) hx hb hrt (fun t ht hW => ⟨⟨_, (), rfl, (congrArg nI (Eq.symm (if_neg (show ¬ (mc_done (v 1) c) = 0 by unfold mc_done; (repeat' split) <;> omega)))), by show va_P D vwCl _ t.heap; rw [ht]; exact hP⟩, hS.F ht⟩) hS.2.2 dX5_done_17
theorem inX5_reader_X5 : ∀ w ∈ wsX50, w ∈ wsX5_reader := by decide +kernel
set_option maxHeartbeats 4000000 in
set_option maxRecDepth 100000 in
theorem k_X5_reader (l : Launch) (D : va_G) (cI cR cS cL : ClassId) (sz : Nat) (q : Nat → Nat) (v : Nat → Nat → Nat) (b : Nat) (r : Nat) (h : Nat) (hI : m_I b (v 1)) (hb : b < 2 ^ 28) (hs : v 0 0 ≤ 6) (hr : r < 2 ^ 32) (hh : h ≤ 1) : Met l yX5_reader wsX5_reader ({ frames := 2, cells := 0, slots := 0, locals := 42 }) (va_Pc [.ref (q 0), .int (nI r), .int (nI h)] (o_B D (o_T cI cR cS cL) (wM q cI v) sz)) (va_Qi (fun rz (_ : Unit) => rz = nI (if (mc_reader r) = 0 then v 1 (15 + 17 * r) else 0)) (fun (_ : Unit) t => va_P D vwCl (wM q cI (m_act v (mc_reader r) (m_anew (v 1) r h))) t.heap) (va_A (wM q cI v) sz)) 0 0 (va_A (wM q cI v) sz) := by
  refine Met.ofW (cc := cX5_reader) (maxL := 5) (ret := (some .int)) (by decide) rfl ?_
  intro p e s m args below meth cd s₁ B hml hv
  obtain ⟨rfl, hsz, hP, hK, hD0, hN⟩ := hv
  have hx := B.exec
  have hb := B.bytes
  have hrt := B.returns
  have hts := atoms_spec (ws := wsX5_reader) B.pre
  have hown : s.vm.findClass RX5 = some m.cls := findClass_of_methodNamed B.named
  have hlocks := B.notSynchronized
  subst hsz
  have hD := hD0.self (sz := s.heap.size)
  generalize hAe : va_A (wM q cI v) s.heap.size = A at hD ⊢
  have hA : ∀ q : Nat, s.heap.size ≤ q → A q := fun q h => by rw [← hAe]; exact Or.inr h
  have hS : va_S A s.heap s.heap [] := va_S.rf
  have hl := lv_entry ([.ref (q 0), .int (nI r), .int (nI h)]) (n := 5) (Nat.le_of_ble_eq_true rfl)
  rw [lg_entry_eq]
  generalize (lg_sl ([.ref (q 0), .int (nI r), .int (nI h)]) ++ List.replicate (5 - (lg_sl ([.ref (q 0), .int (nI r), .int (nI h)])).length) Slot.unset).toArray = ls at hl ⊢
  have hl : lv_has ls 5 [(0, .ref (q 0)), (1, .int (nI r)), (2, .int (nI h))] := hl
  have hIc := hI
  obtain ⟨⟨i1, hw, i3, i4, i5⟩, ⟨i6, i7, i8, i9, i10⟩, i11⟩ := hI
  refine lv_aload_n hx hb dX5_reader_0 rfl (lv_at hl 0 rfl) ?_
  refine o_const (k := 0) hx hb dX5_reader_1 (by decide) ?_
  refine va_put (D := D) (ci := 5) (v := .int (nI 0)) (ty := .int) (C := RX5) (T := TX5) (N := 10) hx hb hts inX5_reader_X5 tyX5 tyX5_ok nmX5 hown hK hP hD hS 0 rfl rfl 5 (by decide) (hts (.fieldLink RX5 22 "OddNoticeModel" "thrown" "I") (List.mem_of_getElem? (i := 1) (by decide +kernel))) (fun _ h9 => h9) rfl (by decide +kernel) rfl rfl (Nat.le_of_ble_eq_true rfl) dX5_reader_2 (fun H locs hP hD hS => ?_)
  have hP : va_P D vwCl (wM q cI (va_up v 0 (va_up (v 0) 2 0))) H := hP
  have hD : va_D A (wM q cI (va_up v 0 (va_up (v 0) 2 0))) := hD
  refine lv_iload_n hx hb dX5_reader_5 rfl (lv_at hl 1 rfl) ?_
  refine o_ri (va_runS (As := [.int (nI r)]) (rest := []) ⟨hx, hb, hml, hown, hts⟩ (k_X5_isReader l D cI cR cS cL r (by show r < 2 ^ 32; first | assumption | omega)) (va_cwS 1 hts gX5_reader_X5_isReader rfl rfl rfl (by decide +kernel) ⟨Nat.le_of_ble_eq_true rfl, Nat.le_of_ble_eq_true rfl⟩) (o_pR hK hN (hP.sub (ws' := []) [] rfl)) rfl rfl hl.1 rfl (lv_room (Nat.le_of_ble_eq_true rfl)) dX5_reader_6 ⟨Nat.zero_le _, Nat.zero_le _⟩) (fun r_2 e_1 => ?_)
  have e_1 : r_2 = nI (bn (r < 4)) := e_1
  subst e_1
  refine o_ifnz (tgt := 18) hx hb dX5_reader_9 (by decide) (fun c_3 => ?_) (fun c_3 => ?_)
  · skip
    refine lv_aload_n hx hb dX5_reader_18 rfl (lv_at hl 0 rfl) ?_
    refine o_wv (va_runV (As := []) (rest := []) ⟨hx, hb, hml, hown, hts⟩ (k_X5_saves l D cI cR cS cL H.size q (va_up v 0 (va_up (v 0) 2 0)) (by show v 0 0 ≤ 6; first | assumption | omega)) (cwV 0 hts gX5_reader_X5_saves rfl rfl rfl (by decide +kernel) ⟨Nat.le_of_ble_eq_true rfl, Nat.le_of_ble_eq_true rfl⟩) (o_v (o_pB hK hN hP hD) (va_recv hK hP (ci := 5) (q0 := 0) rfl rfl)) rfl rfl hl.1 rfl (lv_room (Nat.le_of_ble_eq_true rfl)) dX5_reader_19 ⟨Nat.zero_le _, Nat.zero_le _⟩) hP hD hS hA [0, 1, 2, 3, 4] (by decide) rfl (fun _ => rfl) (fun _ H locs e_4 hP hD hS => ?_)
    have hP : va_P D vwCl (wM q cI (va_up (va_up v 0 (va_up (va_up (v 0) 0 (m_svs (v 0 0))) 2 0)) 2 (m_svp (v 0 0) (v 1) (v 2)))) H := hP
    have hD : va_D A (wM q cI (va_up (va_up v 0 (va_up (va_up (v 0) 0 (m_svs (v 0 0))) 2 0)) 2 (m_svp (v 0 0) (v 1) (v 2)))) := hD
    refine o_bipush (k := 15) hx hb dX5_reader_22 (by decide) ?_
    refine o_bipush (k := 17) hx hb dX5_reader_24 (by decide) ?_
    refine lv_iload_n hx hb dX5_reader_26 rfl (lv_at hl 1 rfl) ?_
    refine o_imul (a := 17) (b := r) (k := (17 * r)) hx hb dX5_reader_27 rfl ?_
    refine o_iadd (a := 15) (b := (17 * r)) (k := (15 + 17 * r)) hx hb dX5_reader_28 rfl ?_
    refine lv_istore_n (lv' := [(3, .int (nI (15 + 17 * r))), (0, .ref (q 0)), (1, .int (nI r)), (2, .int (nI h))]) hx hb dX5_reader_29 rfl hl (by decide) rfl (fun ls hl => ?_)
    refine lv_aload_n hx hb dX5_reader_30 rfl (lv_at hl 1 rfl) ?_
    refine va_get (D := D) (ci := 5) (v := .ref (q 1)) (C := RX5) (T := TX5) (N := 10) hx hb hts inX5_reader_X5 hown hK hP 0 rfl rfl 0 (by decide) (hts (.fieldLink RX5 7 "OddNoticeModel" "now" "[I") (List.mem_of_getElem? (i := 2) (by decide +kernel))) (fun _ h9 => h9) rfl dX5_reader_31 ?_
    refine lv_iload_n hx hb dX5_reader_34 rfl (lv_at hl 0 rfl) ?_
    refine o_iald (v := nI (v 1 (15 + 17 * r))) hx hb hK hP 1 0 rfl rfl (by omega) (Nat.le_of_ble_eq_true rfl) rfl dX5_reader_35 ?_
    refine lv_istore (lv' := [(4, .int (nI (v 1 (15 + 17 * r)))), (3, .int (nI (15 + 17 * r))), (0, .ref (q 0)), (1, .int (nI r)), (2, .int (nI h))]) hx hb dX5_reader_36 hl (by decide) rfl (fun ls hl => ?_)
    refine lv_aload_n hx hb dX5_reader_38 rfl (lv_at hl 2 rfl) ?_
    refine va_get (D := D) (ci := 5) (v := .ref (q 1)) (C := RX5) (T := TX5) (N := 10) hx hb hts inX5_reader_X5 hown hK hP 0 rfl rfl 0 (by decide) (hts (.fieldLink RX5 7 "OddNoticeModel" "now" "[I") (List.mem_of_getElem? (i := 2) (by decide +kernel))) (fun _ h9 => h9) rfl dX5_reader_39 ?_
    refine lv_iload_n hx hb dX5_reader_42 rfl (lv_at hl 1 rfl) ?_
    refine lv_iload_n hx hb dX5_reader_43 rfl (lv_at hl 4 rfl) ?_
    refine o_if_eq (tgt := 51) hx hb dX5_reader_44 (by decide) (by omega) (fun c_5 => ?_) (fun c_5 => ?_)
    · skip
      refine o_const (k := 0) hx hb dX5_reader_51 (by decide) ?_
      refine o_iast (g := (v 1)) hx hb hK hP hD hS 1 0 rfl rfl (by omega) (Nat.le_of_ble_eq_true rfl) dX5_reader_52 (fun H locs hP hD hS => ?_)
      have hP : va_P D vwCl (wM q cI (va_up (va_up (va_up v 0 (va_up (va_up (v 0) 0 (m_svs (v 0 0))) 2 0)) 1 (va_up (v 1) (15 + 17 * r) 0)) 2 (m_svp (v 0 0) (v 1) (v 2)))) H := hP
      have hD : va_D A (wM q cI (va_up (va_up (va_up v 0 (va_up (va_up (v 0) 0 (m_svs (v 0 0))) 2 0)) 1 (va_up (v 1) (15 + 17 * r) 0)) 2 (m_svp (v 0 0) (v 1) (v 2)))) := hD
      refine lv_aload_n hx hb dX5_reader_53 rfl (lv_at hl 2 rfl) ?_
      refine va_get (D := D) (ci := 5) (v := .ref (q 1)) (C := RX5) (T := TX5) (N := 10) hx hb hts inX5_reader_X5 hown hK hP 0 rfl rfl 0 (by decide) (hts (.fieldLink RX5 7 "OddNoticeModel" "now" "[I") (List.mem_of_getElem? (i := 2) (by decide +kernel))) (fun _ h9 => h9) rfl dX5_reader_54 ?_
      refine lv_iload_n hx hb dX5_reader_57 rfl (lv_at hl 1 rfl) ?_
      refine o_const (k := 1) hx hb dX5_reader_58 (by decide) ?_
      refine o_iadd (a := (15 + 17 * r)) (b := 1) (k := (15 + 17 * r + 1)) hx hb dX5_reader_59 rfl ?_
      refine o_const (k := 4294967295) hx hb dX5_reader_60 (by decide) ?_
      refine o_iast (g := (va_up (v 1) (15 + 17 * r) 0)) hx hb hK hP hD hS 1 0 rfl rfl (by omega) (Nat.le_of_ble_eq_true rfl) dX5_reader_61 (fun H locs hP hD hS => ?_)
      have hP : va_P D vwCl (wM q cI (va_up (va_up (va_up v 0 (va_up (va_up (v 0) 0 (m_svs (v 0 0))) 2 0)) 1 (va_up (va_up (v 1) (15 + 17 * r) 0) (15 + 17 * r + 1) 4294967295)) 2 (m_svp (v 0 0) (v 1) (v 2)))) H := hP
      have hD : va_D A (wM q cI (va_up (va_up (va_up v 0 (va_up (va_up (v 0) 0 (m_svs (v 0 0))) 2 0)) 1 (va_up (va_up (v 1) (15 + 17 * r) 0) (15 + 17 * r + 1) 4294967295)) 2 (m_svp (v 0 0) (v 1) (v 2)))) := hD
      refine lv_aload_n hx hb dX5_reader_62 rfl (lv_at hl 2 rfl) ?_
      refine va_get (D := D) (ci := 5) (v := .ref (q 1)) (C := RX5) (T := TX5) (N := 10) hx hb hts inX5_reader_X5 hown hK hP 0 rfl rfl 0 (by decide) (hts (.fieldLink RX5 7 "OddNoticeModel" "now" "[I") (List.mem_of_getElem? (i := 2) (by decide +kernel))) (fun _ h9 => h9) rfl dX5_reader_63 ?_
      refine lv_iload_n hx hb dX5_reader_66 rfl (lv_at hl 1 rfl) ?_
      refine o_const (k := 2) hx hb dX5_reader_67 (by decide) ?_
      refine o_iadd (a := (15 + 17 * r)) (b := 2) (k := (15 + 17 * r + 2)) hx hb dX5_reader_68 rfl ?_
      refine o_const (k := 0) hx hb dX5_reader_69 (by decide) ?_
      refine o_iast (g := (va_up (va_up (v 1) (15 + 17 * r) 0) (15 + 17 * r + 1) 4294967295)) hx hb hK hP hD hS 1 0 rfl rfl (by omega) (Nat.le_of_ble_eq_true rfl) dX5_reader_70 (fun H locs hP hD hS => ?_)
      have hP : va_P D vwCl (wM q cI (va_up (va_up (va_up v 0 (va_up (va_up (v 0) 0 (m_svs (v 0 0))) 2 0)) 1 (va_up (va_up (va_up (v 1) (15 + 17 * r) 0) (15 + 17 * r + 1) 4294967295) (15 + 17 * r + 2) 0)) 2 (m_svp (v 0 0) (v 1) (v 2)))) H := hP
      have hD : va_D A (wM q cI (va_up (va_up (va_up v 0 (va_up (va_up (v 0) 0 (m_svs (v 0 0))) 2 0)) 1 (va_up (va_up (va_up (v 1) (15 + 17 * r) 0) (15 + 17 * r + 1) 4294967295) (15 + 17 * r + 2) 0)) 2 (m_svp (v 0 0) (v 1) (v 2)))) := hD
      refine lv_aload_n hx hb dX5_reader_71 rfl (lv_at hl 2 rfl) ?_
      refine va_get (D := D) (ci := 5) (v := .ref (q 1)) (C := RX5) (T := TX5) (N := 10) hx hb hts inX5_reader_X5 hown hK hP 0 rfl rfl 0 (by decide) (hts (.fieldLink RX5 7 "OddNoticeModel" "now" "[I") (List.mem_of_getElem? (i := 2) (by decide +kernel))) (fun _ h9 => h9) rfl dX5_reader_72 ?_
      refine lv_iload_n hx hb dX5_reader_75 rfl (lv_at hl 1 rfl) ?_
      refine o_const (k := 3) hx hb dX5_reader_76 (by decide) ?_
      refine o_iadd (a := (15 + 17 * r)) (b := 3) (k := (15 + 17 * r + 3)) hx hb dX5_reader_77 rfl ?_
      refine o_const (k := 0) hx hb dX5_reader_78 (by decide) ?_
      refine o_iast (g := (va_up (va_up (va_up (v 1) (15 + 17 * r) 0) (15 + 17 * r + 1) 4294967295) (15 + 17 * r + 2) 0)) hx hb hK hP hD hS 1 0 rfl rfl (by omega) (Nat.le_of_ble_eq_true rfl) dX5_reader_79 (fun H locs hP hD hS => ?_)
      have hP : va_P D vwCl (wM q cI (va_up (va_up (va_up v 0 (va_up (va_up (v 0) 0 (m_svs (v 0 0))) 2 0)) 1 (va_up (va_up (va_up (va_up (v 1) (15 + 17 * r) 0) (15 + 17 * r + 1) 4294967295) (15 + 17 * r + 2) 0) (15 + 17 * r + 3) 0)) 2 (m_svp (v 0 0) (v 1) (v 2)))) H := hP
      have hD : va_D A (wM q cI (va_up (va_up (va_up v 0 (va_up (va_up (v 0) 0 (m_svs (v 0 0))) 2 0)) 1 (va_up (va_up (va_up (va_up (v 1) (15 + 17 * r) 0) (15 + 17 * r + 1) 4294967295) (15 + 17 * r + 2) 0) (15 + 17 * r + 3) 0)) 2 (m_svp (v 0 0) (v 1) (v 2)))) := hD
      refine lv_aload_n hx hb dX5_reader_80 rfl (lv_at hl 2 rfl) ?_
      refine va_get (D := D) (ci := 5) (v := .ref (q 1)) (C := RX5) (T := TX5) (N := 10) hx hb hts inX5_reader_X5 hown hK hP 0 rfl rfl 0 (by decide) (hts (.fieldLink RX5 7 "OddNoticeModel" "now" "[I") (List.mem_of_getElem? (i := 2) (by decide +kernel))) (fun _ h9 => h9) rfl dX5_reader_81 ?_
      refine lv_iload_n hx hb dX5_reader_84 rfl (lv_at hl 1 rfl) ?_
      refine o_bipush (k := 6) hx hb dX5_reader_85 (by decide) ?_
      refine o_iadd (a := (15 + 17 * r)) (b := 6) (k := (15 + 17 * r + 6)) hx hb dX5_reader_87 rfl ?_
      refine o_const (k := 0) hx hb dX5_reader_88 (by decide) ?_
      refine o_iast (g := (va_up (va_up (va_up (va_up (v 1) (15 + 17 * r) 0) (15 + 17 * r + 1) 4294967295) (15 + 17 * r + 2) 0) (15 + 17 * r + 3) 0)) hx hb hK hP hD hS 1 0 rfl rfl (by omega) (Nat.le_of_ble_eq_true rfl) dX5_reader_89 (fun H locs hP hD hS => ?_)
      have hP : va_P D vwCl (wM q cI (va_up (va_up (va_up v 0 (va_up (va_up (v 0) 0 (m_svs (v 0 0))) 2 0)) 1 (va_up (va_up (va_up (va_up (va_up (v 1) (15 + 17 * r) 0) (15 + 17 * r + 1) 4294967295) (15 + 17 * r + 2) 0) (15 + 17 * r + 3) 0) (15 + 17 * r + 6) 0)) 2 (m_svp (v 0 0) (v 1) (v 2)))) H := hP
      have hD : va_D A (wM q cI (va_up (va_up (va_up v 0 (va_up (va_up (v 0) 0 (m_svs (v 0 0))) 2 0)) 1 (va_up (va_up (va_up (va_up (va_up (v 1) (15 + 17 * r) 0) (15 + 17 * r + 1) 4294967295) (15 + 17 * r + 2) 0) (15 + 17 * r + 3) 0) (15 + 17 * r + 6) 0)) 2 (m_svp (v 0 0) (v 1) (v 2)))) := hD
      refine lv_iload hx hb dX5_reader_90 (lv_at hl 0 rfl) ?_
      have w_6 : (wM q cI (m_act v (mc_reader r) (m_anew (v 1) r h))) = (wM q cI (va_up (va_up (va_up v 0 (va_up (va_up (v 0) 0 (m_svs (v 0 0))) 2 0)) 1 (va_up (va_up (va_up (va_up (va_up (v 1) (15 + 17 * r) 0) (15 + 17 * r + 1) 4294967295) (15 + 17 * r + 2) 0) (15 + 17 * r + 3) 0) (15 + 17 * r + 6) 0)) 2 (m_svp (v 0 0) (v 1) (v 2)))) := (by rw [show (mc_reader r) = 0 from by unfold mc_reader; (repeat' split) <;> omega, m_act_0]; unfold m_anew; rw [show h = 0 by omega])
      rw [← w_6] at hP
      exact W.iret (v := nI (v 1 (15 + 17 * r))) hx hb hrt (fun t ht hW => ⟨⟨_, (), rfl, (congrArg nI (Eq.symm (if_pos (show (mc_reader r) = 0 by unfold mc_reader; (repeat' split) <;> omega)))), by show va_P D vwCl _ t.heap; rw [ht]; exact hP⟩, hS.F ht⟩) hS.2.2 dX5_reader_92
    · skip
      refine o_const (k := 1) hx hb dX5_reader_47 (by decide) ?_
      refine lv_goto (tgt := 52) hx hb dX5_reader_48 (by decide) ?_
      refine o_iast (g := (v 1)) hx hb hK hP hD hS 1 0 rfl rfl (by omega) (Nat.le_of_ble_eq_true rfl) dX5_reader_52 (fun H locs hP hD hS => ?_)
      have hP : va_P D vwCl (wM q cI (va_up (va_up (va_up v 0 (va_up (va_up (v 0) 0 (m_svs (v 0 0))) 2 0)) 1 (va_up (v 1) (15 + 17 * r) 1)) 2 (m_svp (v 0 0) (v 1) (v 2)))) H := hP
      have hD : va_D A (wM q cI (va_up (va_up (va_up v 0 (va_up (va_up (v 0) 0 (m_svs (v 0 0))) 2 0)) 1 (va_up (v 1) (15 + 17 * r) 1)) 2 (m_svp (v 0 0) (v 1) (v 2)))) := hD
      refine lv_aload_n hx hb dX5_reader_53 rfl (lv_at hl 2 rfl) ?_
      refine va_get (D := D) (ci := 5) (v := .ref (q 1)) (C := RX5) (T := TX5) (N := 10) hx hb hts inX5_reader_X5 hown hK hP 0 rfl rfl 0 (by decide) (hts (.fieldLink RX5 7 "OddNoticeModel" "now" "[I") (List.mem_of_getElem? (i := 2) (by decide +kernel))) (fun _ h9 => h9) rfl dX5_reader_54 ?_
      refine lv_iload_n hx hb dX5_reader_57 rfl (lv_at hl 1 rfl) ?_
      refine o_const (k := 1) hx hb dX5_reader_58 (by decide) ?_
      refine o_iadd (a := (15 + 17 * r)) (b := 1) (k := (15 + 17 * r + 1)) hx hb dX5_reader_59 rfl ?_
      refine o_const (k := 4294967295) hx hb dX5_reader_60 (by decide) ?_
      refine o_iast (g := (va_up (v 1) (15 + 17 * r) 1)) hx hb hK hP hD hS 1 0 rfl rfl (by omega) (Nat.le_of_ble_eq_true rfl) dX5_reader_61 (fun H locs hP hD hS => ?_)
      have hP : va_P D vwCl (wM q cI (va_up (va_up (va_up v 0 (va_up (va_up (v 0) 0 (m_svs (v 0 0))) 2 0)) 1 (va_up (va_up (v 1) (15 + 17 * r) 1) (15 + 17 * r + 1) 4294967295)) 2 (m_svp (v 0 0) (v 1) (v 2)))) H := hP
      have hD : va_D A (wM q cI (va_up (va_up (va_up v 0 (va_up (va_up (v 0) 0 (m_svs (v 0 0))) 2 0)) 1 (va_up (va_up (v 1) (15 + 17 * r) 1) (15 + 17 * r + 1) 4294967295)) 2 (m_svp (v 0 0) (v 1) (v 2)))) := hD
      refine lv_aload_n hx hb dX5_reader_62 rfl (lv_at hl 2 rfl) ?_
      refine va_get (D := D) (ci := 5) (v := .ref (q 1)) (C := RX5) (T := TX5) (N := 10) hx hb hts inX5_reader_X5 hown hK hP 0 rfl rfl 0 (by decide) (hts (.fieldLink RX5 7 "OddNoticeModel" "now" "[I") (List.mem_of_getElem? (i := 2) (by decide +kernel))) (fun _ h9 => h9) rfl dX5_reader_63 ?_
      refine lv_iload_n hx hb dX5_reader_66 rfl (lv_at hl 1 rfl) ?_
      refine o_const (k := 2) hx hb dX5_reader_67 (by decide) ?_
      refine o_iadd (a := (15 + 17 * r)) (b := 2) (k := (15 + 17 * r + 2)) hx hb dX5_reader_68 rfl ?_
      refine o_const (k := 0) hx hb dX5_reader_69 (by decide) ?_
      refine o_iast (g := (va_up (va_up (v 1) (15 + 17 * r) 1) (15 + 17 * r + 1) 4294967295)) hx hb hK hP hD hS 1 0 rfl rfl (by omega) (Nat.le_of_ble_eq_true rfl) dX5_reader_70 (fun H locs hP hD hS => ?_)
      have hP : va_P D vwCl (wM q cI (va_up (va_up (va_up v 0 (va_up (va_up (v 0) 0 (m_svs (v 0 0))) 2 0)) 1 (va_up (va_up (va_up (v 1) (15 + 17 * r) 1) (15 + 17 * r + 1) 4294967295) (15 + 17 * r + 2) 0)) 2 (m_svp (v 0 0) (v 1) (v 2)))) H := hP
      have hD : va_D A (wM q cI (va_up (va_up (va_up v 0 (va_up (va_up (v 0) 0 (m_svs (v 0 0))) 2 0)) 1 (va_up (va_up (va_up (v 1) (15 + 17 * r) 1) (15 + 17 * r + 1) 4294967295) (15 + 17 * r + 2) 0)) 2 (m_svp (v 0 0) (v 1) (v 2)))) := hD
      refine lv_aload_n hx hb dX5_reader_71 rfl (lv_at hl 2 rfl) ?_
      refine va_get (D := D) (ci := 5) (v := .ref (q 1)) (C := RX5) (T := TX5) (N := 10) hx hb hts inX5_reader_X5 hown hK hP 0 rfl rfl 0 (by decide) (hts (.fieldLink RX5 7 "OddNoticeModel" "now" "[I") (List.mem_of_getElem? (i := 2) (by decide +kernel))) (fun _ h9 => h9) rfl dX5_reader_72 ?_
      refine lv_iload_n hx hb dX5_reader_75 rfl (lv_at hl 1 rfl) ?_
      refine o_const (k := 3) hx hb dX5_reader_76 (by decide) ?_
      refine o_iadd (a := (15 + 17 * r)) (b := 3) (k := (15 + 17 * r + 3)) hx hb dX5_reader_77 rfl ?_
      refine o_const (k := 0) hx hb dX5_reader_78 (by decide) ?_
      refine o_iast (g := (va_up (va_up (va_up (v 1) (15 + 17 * r) 1) (15 + 17 * r + 1) 4294967295) (15 + 17 * r + 2) 0)) hx hb hK hP hD hS 1 0 rfl rfl (by omega) (Nat.le_of_ble_eq_true rfl) dX5_reader_79 (fun H locs hP hD hS => ?_)
      have hP : va_P D vwCl (wM q cI (va_up (va_up (va_up v 0 (va_up (va_up (v 0) 0 (m_svs (v 0 0))) 2 0)) 1 (va_up (va_up (va_up (va_up (v 1) (15 + 17 * r) 1) (15 + 17 * r + 1) 4294967295) (15 + 17 * r + 2) 0) (15 + 17 * r + 3) 0)) 2 (m_svp (v 0 0) (v 1) (v 2)))) H := hP
      have hD : va_D A (wM q cI (va_up (va_up (va_up v 0 (va_up (va_up (v 0) 0 (m_svs (v 0 0))) 2 0)) 1 (va_up (va_up (va_up (va_up (v 1) (15 + 17 * r) 1) (15 + 17 * r + 1) 4294967295) (15 + 17 * r + 2) 0) (15 + 17 * r + 3) 0)) 2 (m_svp (v 0 0) (v 1) (v 2)))) := hD
      refine lv_aload_n hx hb dX5_reader_80 rfl (lv_at hl 2 rfl) ?_
      refine va_get (D := D) (ci := 5) (v := .ref (q 1)) (C := RX5) (T := TX5) (N := 10) hx hb hts inX5_reader_X5 hown hK hP 0 rfl rfl 0 (by decide) (hts (.fieldLink RX5 7 "OddNoticeModel" "now" "[I") (List.mem_of_getElem? (i := 2) (by decide +kernel))) (fun _ h9 => h9) rfl dX5_reader_81 ?_
      refine lv_iload_n hx hb dX5_reader_84 rfl (lv_at hl 1 rfl) ?_
      refine o_bipush (k := 6) hx hb dX5_reader_85 (by decide) ?_
      refine o_iadd (a := (15 + 17 * r)) (b := 6) (k := (15 + 17 * r + 6)) hx hb dX5_reader_87 rfl ?_
      refine o_const (k := 0) hx hb dX5_reader_88 (by decide) ?_
      refine o_iast (g := (va_up (va_up (va_up (va_up (v 1) (15 + 17 * r) 1) (15 + 17 * r + 1) 4294967295) (15 + 17 * r + 2) 0) (15 + 17 * r + 3) 0)) hx hb hK hP hD hS 1 0 rfl rfl (by omega) (Nat.le_of_ble_eq_true rfl) dX5_reader_89 (fun H locs hP hD hS => ?_)
      have hP : va_P D vwCl (wM q cI (va_up (va_up (va_up v 0 (va_up (va_up (v 0) 0 (m_svs (v 0 0))) 2 0)) 1 (va_up (va_up (va_up (va_up (va_up (v 1) (15 + 17 * r) 1) (15 + 17 * r + 1) 4294967295) (15 + 17 * r + 2) 0) (15 + 17 * r + 3) 0) (15 + 17 * r + 6) 0)) 2 (m_svp (v 0 0) (v 1) (v 2)))) H := hP
      have hD : va_D A (wM q cI (va_up (va_up (va_up v 0 (va_up (va_up (v 0) 0 (m_svs (v 0 0))) 2 0)) 1 (va_up (va_up (va_up (va_up (va_up (v 1) (15 + 17 * r) 1) (15 + 17 * r + 1) 4294967295) (15 + 17 * r + 2) 0) (15 + 17 * r + 3) 0) (15 + 17 * r + 6) 0)) 2 (m_svp (v 0 0) (v 1) (v 2)))) := hD
      refine lv_iload hx hb dX5_reader_90 (lv_at hl 0 rfl) ?_
      have w_7 : (wM q cI (m_act v (mc_reader r) (m_anew (v 1) r h))) = (wM q cI (va_up (va_up (va_up v 0 (va_up (va_up (v 0) 0 (m_svs (v 0 0))) 2 0)) 1 (va_up (va_up (va_up (va_up (va_up (v 1) (15 + 17 * r) 1) (15 + 17 * r + 1) 4294967295) (15 + 17 * r + 2) 0) (15 + 17 * r + 3) 0) (15 + 17 * r + 6) 0)) 2 (m_svp (v 0 0) (v 1) (v 2)))) := (by rw [show (mc_reader r) = 0 from by unfold mc_reader; (repeat' split) <;> omega, m_act_0]; unfold m_anew; rw [show h = 1 by omega])
      rw [← w_7] at hP
      exact W.iret (v := nI (v 1 (15 + 17 * r))) hx hb hrt (fun t ht hW => ⟨⟨_, (), rfl, (congrArg nI (Eq.symm (if_pos (show (mc_reader r) = 0 by unfold mc_reader; (repeat' split) <;> omega)))), by show va_P D vwCl _ t.heap; rw [ht]; exact hP⟩, hS.F ht⟩) hS.2.2 dX5_reader_92
  · skip
    refine lv_aload_n hx hb dX5_reader_12 rfl (lv_at hl 0 rfl) ?_
    refine o_const (k := 1) hx hb dX5_reader_13 (by decide) ?_
    refine o_wi (va_runV (As := [.int (nI 1)]) (rest := []) ⟨hx, hb, hml, hown, hts⟩ (k_X5_fails l D cI cR cS cL H.size q (va_up v 0 (va_up (v 0) 2 0)) 1 ) (cwV 1 hts gX5_reader_X5_fails rfl rfl rfl (by decide +kernel) ⟨Nat.le_of_ble_eq_true rfl, Nat.le_of_ble_eq_true rfl⟩) (o_v (o_pB hK hN hP hD) (va_recv hK hP (ci := 5) (q0 := 0) rfl rfl)) rfl rfl hl.1 rfl (lv_room (Nat.le_of_ble_eq_true rfl)) dX5_reader_14 ⟨Nat.zero_le _, Nat.zero_le _⟩) hP hD hS hA [0, 1, 2, 3, 4] (by decide) rfl (fun _ => rfl) (fun r_9 _ H locs e_8 hP hD hS => ?_)
    have e_8 : r_9 = nI 0 := e_8
    subst e_8
    have hP : va_P D vwCl (wM q cI (va_up v 0 (va_up (v 0) 2 1))) H := hP
    have hD : va_D A (wM q cI (va_up v 0 (va_up (v 0) 2 1))) := hD
    have w_10 : (wM q cI (m_act v (mc_reader r) (m_anew (v 1) r h))) = (wM q cI (va_up v 0 (va_up (v 0) 2 1))) := (by rw [show (mc_reader r) = 1 from by unfold mc_reader; (repeat' split) <;> omega, m_act_f (by decide)])
    rw [← w_10] at hP
    exact W.iret (v := nI 0) hx hb hrt (fun t ht hW => ⟨⟨_, (), rfl, (congrArg nI (Eq.symm (if_neg (show ¬ (mc_reader r) = 0 by unfold mc_reader; (repeat' split) <;> omega)))), by show va_P D vwCl _ t.heap; rw [ht]; exact hP⟩, hS.F ht⟩) hS.2.2 dX5_reader_17
theorem inX5_begin_X5 : ∀ w ∈ wsX50, w ∈ wsX5_begin := by decide +kernel
set_option maxHeartbeats 4000000 in
set_option maxRecDepth 100000 in
theorem k_X5_begin (l : Launch) (D : va_G) (cI cR cS cL : ClassId) (sz : Nat) (q : Nat → Nat) (v : Nat → Nat → Nat) (b : Nat) (r : Nat) (hI : m_I b (v 1)) (hb : b < 2 ^ 28) (hs : v 0 0 ≤ 6) (hr : r < 2 ^ 32) : Met l yX5_begin wsX5_begin ({ frames := 2, cells := 0, slots := 0, locals := 43 }) (va_Pc [.ref (q 0), .int (nI r)] (o_B D (o_T cI cR cS cL) (wM q cI v) sz)) (va_Qi (fun rz (_ : Unit) => rz = nI (if (mc_begin (v 1) r) = 0 then m_beginsr (v 1) r else 0)) (fun (_ : Unit) t => va_P D vwCl (wM q cI (m_act v (mc_begin (v 1) r) (m_begins (v 1) r))) t.heap) (va_A (wM q cI v) sz)) 0 0 (va_A (wM q cI v) sz) := by
  refine Met.ofW (cc := cX5_begin) (maxL := 2) (ret := (some .int)) (by decide) rfl ?_
  intro p e s m args below meth cd s₁ B hml hv
  obtain ⟨rfl, hsz, hP, hK, hD0, hN⟩ := hv
  have hx := B.exec
  have hb := B.bytes
  have hrt := B.returns
  have hts := atoms_spec (ws := wsX5_begin) B.pre
  have hown : s.vm.findClass RX5 = some m.cls := findClass_of_methodNamed B.named
  have hlocks := B.notSynchronized
  subst hsz
  have hD := hD0.self (sz := s.heap.size)
  generalize hAe : va_A (wM q cI v) s.heap.size = A at hD ⊢
  have hA : ∀ q : Nat, s.heap.size ≤ q → A q := fun q h => by rw [← hAe]; exact Or.inr h
  have hS : va_S A s.heap s.heap [] := va_S.rf
  have hl := lv_entry ([.ref (q 0), .int (nI r)]) (n := 2) (Nat.le_of_ble_eq_true rfl)
  rw [lg_entry_eq]
  generalize (lg_sl ([.ref (q 0), .int (nI r)]) ++ List.replicate (2 - (lg_sl ([.ref (q 0), .int (nI r)])).length) Slot.unset).toArray = ls at hl ⊢
  have hl : lv_has ls 2 [(0, .ref (q 0)), (1, .int (nI r))] := hl
  have hIc := hI
  obtain ⟨⟨i1, hw, i3, i4, i5⟩, ⟨i6, i7, i8, i9, i10⟩, i11⟩ := hI
  refine lv_aload_n hx hb dX5_begin_0 rfl (lv_at hl 0 rfl) ?_
  refine o_const (k := 0) hx hb dX5_begin_1 (by decide) ?_
  refine va_put (D := D) (ci := 5) (v := .int (nI 0)) (ty := .int) (C := RX5) (T := TX5) (N := 10) hx hb hts inX5_begin_X5 tyX5 tyX5_ok nmX5 hown hK hP hD hS 0 rfl rfl 5 (by decide) (hts (.fieldLink RX5 22 "OddNoticeModel" "thrown" "I") (List.mem_of_getElem? (i := 1) (by decide +kernel))) (fun _ h9 => h9) rfl (by decide +kernel) rfl rfl (Nat.le_of_ble_eq_true rfl) dX5_begin_2 (fun H locs hP hD hS => ?_)
  have hP : va_P D vwCl (wM q cI (va_up v 0 (va_up (v 0) 2 0))) H := hP
  have hD : va_D A (wM q cI (va_up v 0 (va_up (v 0) 2 0))) := hD
  refine lv_iload_n hx hb dX5_begin_5 rfl (lv_at hl 1 rfl) ?_
  refine o_ri (va_runS (As := [.int (nI r)]) (rest := []) ⟨hx, hb, hml, hown, hts⟩ (k_X5_isReader l D cI cR cS cL r (by show r < 2 ^ 32; first | assumption | omega)) (va_cwS 1 hts gX5_begin_X5_isReader rfl rfl rfl (by decide +kernel) ⟨Nat.le_of_ble_eq_true rfl, Nat.le_of_ble_eq_true rfl⟩) (o_pR hK hN (hP.sub (ws' := []) [] rfl)) rfl rfl hl.1 rfl (lv_room (Nat.le_of_ble_eq_true rfl)) dX5_begin_6 ⟨Nat.zero_le _, Nat.zero_le _⟩) (fun r_2 e_1 => ?_)
  have e_1 : r_2 = nI (bn (r < 4)) := e_1
  subst e_1
  refine o_ifnz (tgt := 18) hx hb dX5_begin_9 (by decide) (fun c_3 => ?_) (fun c_3 => ?_)
  · skip
    have i12 := i11 r (by omega)
    refine lv_aload_n hx hb dX5_begin_18 rfl (lv_at hl 0 rfl) ?_
    refine lv_iload_n hx hb dX5_begin_19 rfl (lv_at hl 1 rfl) ?_
    refine o_ri (va_runV (As := [.int (nI r)]) (rest := []) ⟨hx, hb, hml, hown, hts⟩ (k_X5_ofReading l D cI cR cS cL q (va_up v 0 (va_up (v 0) 2 0)) r (by show r < 4; first | assumption | omega) (by show ∀ k, v 1 k < 2 ^ 32; first | assumption | omega) (by show v 1 1 < 2 ^ 31; first | assumption | omega) (by show v 1 (15 + 17 * r + 3) < 2 ^ 31; first | assumption | omega)) (cwV 1 hts gX5_begin_X5_ofReading rfl rfl rfl (by decide +kernel) ⟨Nat.le_of_ble_eq_true rfl, Nat.le_of_ble_eq_true rfl⟩) (o_v (o_pR hK hN hP) (va_recv hK hP (ci := 5) (q0 := 0) rfl rfl)) rfl rfl hl.1 rfl (lv_room (Nat.le_of_ble_eq_true rfl)) dX5_begin_20 ⟨Nat.zero_le _, Nat.zero_le _⟩) (fun r_5 e_4 => ?_)
    have e_4 : r_5 = nI (m_ofr (v 1) r) := e_4
    subst e_4
    have gv_6 := m_ofr_le (v 1) r
    refine o_if_eq (tgt := 32) hx hb dX5_begin_23 (by decide) (by omega) (fun c_7 => ?_) (fun c_7 => ?_)
    · skip
      refine lv_aload_n hx hb dX5_begin_32 rfl (lv_at hl 0 rfl) ?_
      refine o_wv (va_runV (As := []) (rest := []) ⟨hx, hb, hml, hown, hts⟩ (k_X5_saves l D cI cR cS cL H.size q (va_up v 0 (va_up (v 0) 2 0)) (by show v 0 0 ≤ 6; first | assumption | omega)) (cwV 0 hts gX5_begin_X5_saves rfl rfl rfl (by decide +kernel) ⟨Nat.le_of_ble_eq_true rfl, Nat.le_of_ble_eq_true rfl⟩) (o_v (o_pB hK hN hP hD) (va_recv hK hP (ci := 5) (q0 := 0) rfl rfl)) rfl rfl hl.1 rfl (lv_room (Nat.le_of_ble_eq_true rfl)) dX5_begin_33 ⟨Nat.zero_le _, Nat.zero_le _⟩) hP hD hS hA [0, 1, 2, 3, 4] (by decide) rfl (fun _ => rfl) (fun _ H locs e_8 hP hD hS => ?_)
      have hP : va_P D vwCl (wM q cI (va_up (va_up v 0 (va_up (va_up (v 0) 0 (m_svs (v 0 0))) 2 0)) 2 (m_svp (v 0 0) (v 1) (v 2)))) H := hP
      have hD : va_D A (wM q cI (va_up (va_up v 0 (va_up (va_up (v 0) 0 (m_svs (v 0 0))) 2 0)) 2 (m_svp (v 0 0) (v 1) (v 2)))) := hD
      refine lv_aload_n hx hb dX5_begin_36 rfl (lv_at hl 0 rfl) ?_
      refine lv_iload_n hx hb dX5_begin_37 rfl (lv_at hl 1 rfl) ?_
      refine o_wi (va_runV (As := [.int (nI r)]) (rest := []) ⟨hx, hb, hml, hown, hts⟩ (k_X5_begins l D cI cR cS cL H.size q (va_up (va_up v 0 (va_up (va_up (v 0) 0 (m_svs (v 0 0))) 2 0)) 2 (m_svp (v 0 0) (v 1) (v 2))) r (by show r < 4; first | assumption | omega) (by show ∀ k, v 1 k < 2 ^ 32; first | assumption | omega) (by show v 1 0 < 2 ^ 31; first | assumption | omega)) (cwV 1 hts gX5_begin_X5_begins rfl rfl rfl (by decide +kernel) ⟨Nat.le_of_ble_eq_true rfl, Nat.le_of_ble_eq_true rfl⟩) (o_v (o_pB hK hN hP hD) (va_recv hK hP (ci := 5) (q0 := 0) rfl rfl)) rfl rfl hl.1 rfl (lv_room (Nat.le_of_ble_eq_true rfl)) dX5_begin_38 ⟨Nat.zero_le _, Nat.zero_le _⟩) hP hD hS hA [0, 1, 2, 3, 4] (by decide) rfl (fun _ => rfl) (fun r_10 _ H locs e_9 hP hD hS => ?_)
      have e_9 : r_10 = nI (m_beginsr (v 1) r) := e_9
      subst e_9
      have hP : va_P D vwCl (wM q cI (va_up (va_up (va_up v 0 (va_up (va_up (v 0) 0 (m_svs (v 0 0))) 2 0)) 1 (m_begins (v 1) r)) 2 (m_svp (v 0 0) (v 1) (v 2)))) H := hP
      have hD : va_D A (wM q cI (va_up (va_up (va_up v 0 (va_up (va_up (v 0) 0 (m_svs (v 0 0))) 2 0)) 1 (m_begins (v 1) r)) 2 (m_svp (v 0 0) (v 1) (v 2)))) := hD
      have w_11 : (wM q cI (m_act v (mc_begin (v 1) r) (m_begins (v 1) r))) = (wM q cI (va_up (va_up (va_up v 0 (va_up (va_up (v 0) 0 (m_svs (v 0 0))) 2 0)) 1 (m_begins (v 1) r)) 2 (m_svp (v 0 0) (v 1) (v 2)))) := (by rw [show (mc_begin (v 1) r) = 0 from by unfold mc_begin; (repeat' split) <;> omega, m_act_0])
      rw [← w_11] at hP
      exact W.iret (v := nI (m_beginsr (v 1) r)) hx hb hrt (fun t ht hW => ⟨⟨_, (), rfl, (congrArg nI (Eq.symm (if_pos (show (mc_begin (v 1) r) = 0 by unfold mc_begin; (repeat' split) <;> omega)))), by show va_P D vwCl _ t.heap; rw [ht]; exact hP⟩, hS.F ht⟩) hS.2.2 dX5_begin_41
    · skip
      refine lv_aload_n hx hb dX5_begin_26 rfl (lv_at hl 0 rfl) ?_
      refine o_const (k := 2) hx hb dX5_begin_27 (by decide) ?_
      refine o_wi (va_runV (As := [.int (nI 2)]) (rest := []) ⟨hx, hb, hml, hown, hts⟩ (k_X5_fails l D cI cR cS cL H.size q (va_up v 0 (va_up (v 0) 2 0)) 2 ) (cwV 1 hts gX5_begin_X5_fails rfl rfl rfl (by decide +kernel) ⟨Nat.le_of_ble_eq_true rfl, Nat.le_of_ble_eq_true rfl⟩) (o_v (o_pB hK hN hP hD) (va_recv hK hP (ci := 5) (q0 := 0) rfl rfl)) rfl rfl hl.1 rfl (lv_room (Nat.le_of_ble_eq_true rfl)) dX5_begin_28 ⟨Nat.zero_le _, Nat.zero_le _⟩) hP hD hS hA [0, 1, 2, 3, 4] (by decide) rfl (fun _ => rfl) (fun r_13 _ H locs e_12 hP hD hS => ?_)
      have e_12 : r_13 = nI 0 := e_12
      subst e_12
      have hP : va_P D vwCl (wM q cI (va_up v 0 (va_up (v 0) 2 2))) H := hP
      have hD : va_D A (wM q cI (va_up v 0 (va_up (v 0) 2 2))) := hD
      have w_14 : (wM q cI (m_act v (mc_begin (v 1) r) (m_begins (v 1) r))) = (wM q cI (va_up v 0 (va_up (v 0) 2 2))) := (by rw [show (mc_begin (v 1) r) = 2 from by unfold mc_begin; (repeat' split) <;> omega, m_act_f (by decide)])
      rw [← w_14] at hP
      exact W.iret (v := nI 0) hx hb hrt (fun t ht hW => ⟨⟨_, (), rfl, (congrArg nI (Eq.symm (if_neg (show ¬ (mc_begin (v 1) r) = 0 by unfold mc_begin; (repeat' split) <;> omega)))), by show va_P D vwCl _ t.heap; rw [ht]; exact hP⟩, hS.F ht⟩) hS.2.2 dX5_begin_31
  · skip
    refine lv_aload_n hx hb dX5_begin_12 rfl (lv_at hl 0 rfl) ?_
    refine o_const (k := 1) hx hb dX5_begin_13 (by decide) ?_
    refine o_wi (va_runV (As := [.int (nI 1)]) (rest := []) ⟨hx, hb, hml, hown, hts⟩ (k_X5_fails l D cI cR cS cL H.size q (va_up v 0 (va_up (v 0) 2 0)) 1 ) (cwV 1 hts gX5_begin_X5_fails rfl rfl rfl (by decide +kernel) ⟨Nat.le_of_ble_eq_true rfl, Nat.le_of_ble_eq_true rfl⟩) (o_v (o_pB hK hN hP hD) (va_recv hK hP (ci := 5) (q0 := 0) rfl rfl)) rfl rfl hl.1 rfl (lv_room (Nat.le_of_ble_eq_true rfl)) dX5_begin_14 ⟨Nat.zero_le _, Nat.zero_le _⟩) hP hD hS hA [0, 1, 2, 3, 4] (by decide) rfl (fun _ => rfl) (fun r_16 _ H locs e_15 hP hD hS => ?_)
    have e_15 : r_16 = nI 0 := e_15
    subst e_15
    have hP : va_P D vwCl (wM q cI (va_up v 0 (va_up (v 0) 2 1))) H := hP
    have hD : va_D A (wM q cI (va_up v 0 (va_up (v 0) 2 1))) := hD
    have w_17 : (wM q cI (m_act v (mc_begin (v 1) r) (m_begins (v 1) r))) = (wM q cI (va_up v 0 (va_up (v 0) 2 1))) := (by rw [show (mc_begin (v 1) r) = 1 from by unfold mc_begin; (repeat' split) <;> omega, m_act_f (by decide)])
    rw [← w_17] at hP
    exact W.iret (v := nI 0) hx hb hrt (fun t ht hW => ⟨⟨_, (), rfl, (congrArg nI (Eq.symm (if_neg (show ¬ (mc_begin (v 1) r) = 0 by unfold mc_begin; (repeat' split) <;> omega)))), by show va_P D vwCl _ t.heap; rw [ht]; exact hP⟩, hS.F ht⟩) hS.2.2 dX5_begin_17
theorem inX5_look_X5 : ∀ w ∈ wsX50, w ∈ wsX5_look := by decide +kernel
set_option maxHeartbeats 4000000 in
set_option maxRecDepth 100000 in
theorem k_X5_look (l : Launch) (D : va_G) (cI cR cS cL : ClassId) (sz : Nat) (q : Nat → Nat) (v : Nat → Nat → Nat) (b : Nat) (r : Nat) (hI : m_I b (v 1)) (hb : b < 2 ^ 28) (hs : v 0 0 ≤ 6) (hr : r < 2 ^ 32) : Met l yX5_look wsX5_look ({ frames := 4, cells := 0, slots := 0, locals := 93 }) (va_Pc [.ref (q 0), .int (nI r)] (o_B D (o_T cI cR cS cL) (wM q cI v) sz)) (va_Qi (fun rz (_ : Unit) => rz = nI (if (mc_look (v 1) r) = 0 then m_looksr (v 1) r else 0)) (fun (_ : Unit) t => va_P D vwCl (wM q cI (m_act v (mc_look (v 1) r) (m_looks (v 1) r))) t.heap) (va_A (wM q cI v) sz)) 0 0 (va_A (wM q cI v) sz) := by
  refine Met.ofW (cc := cX5_look) (maxL := 2) (ret := (some .int)) (by decide) rfl ?_
  intro p e s m args below meth cd s₁ B hml hv
  obtain ⟨rfl, hsz, hP, hK, hD0, hN⟩ := hv
  have hx := B.exec
  have hb := B.bytes
  have hrt := B.returns
  have hts := atoms_spec (ws := wsX5_look) B.pre
  have hown : s.vm.findClass RX5 = some m.cls := findClass_of_methodNamed B.named
  have hlocks := B.notSynchronized
  subst hsz
  have hD := hD0.self (sz := s.heap.size)
  generalize hAe : va_A (wM q cI v) s.heap.size = A at hD ⊢
  have hA : ∀ q : Nat, s.heap.size ≤ q → A q := fun q h => by rw [← hAe]; exact Or.inr h
  have hS : va_S A s.heap s.heap [] := va_S.rf
  have hl := lv_entry ([.ref (q 0), .int (nI r)]) (n := 2) (Nat.le_of_ble_eq_true rfl)
  rw [lg_entry_eq]
  generalize (lg_sl ([.ref (q 0), .int (nI r)]) ++ List.replicate (2 - (lg_sl ([.ref (q 0), .int (nI r)])).length) Slot.unset).toArray = ls at hl ⊢
  have hl : lv_has ls 2 [(0, .ref (q 0)), (1, .int (nI r))] := hl
  have hIc := hI
  obtain ⟨⟨i1, hw, i3, i4, i5⟩, ⟨i6, i7, i8, i9, i10⟩, i11⟩ := hI
  refine lv_aload_n hx hb dX5_look_0 rfl (lv_at hl 0 rfl) ?_
  refine o_const (k := 0) hx hb dX5_look_1 (by decide) ?_
  refine va_put (D := D) (ci := 5) (v := .int (nI 0)) (ty := .int) (C := RX5) (T := TX5) (N := 10) hx hb hts inX5_look_X5 tyX5 tyX5_ok nmX5 hown hK hP hD hS 0 rfl rfl 5 (by decide) (hts (.fieldLink RX5 22 "OddNoticeModel" "thrown" "I") (List.mem_of_getElem? (i := 1) (by decide +kernel))) (fun _ h9 => h9) rfl (by decide +kernel) rfl rfl (Nat.le_of_ble_eq_true rfl) dX5_look_2 (fun H locs hP hD hS => ?_)
  have hP : va_P D vwCl (wM q cI (va_up v 0 (va_up (v 0) 2 0))) H := hP
  have hD : va_D A (wM q cI (va_up v 0 (va_up (v 0) 2 0))) := hD
  refine lv_iload_n hx hb dX5_look_5 rfl (lv_at hl 1 rfl) ?_
  refine o_ri (va_runS (As := [.int (nI r)]) (rest := []) ⟨hx, hb, hml, hown, hts⟩ (k_X5_isReader l D cI cR cS cL r (by show r < 2 ^ 32; first | assumption | omega)) (va_cwS 1 hts gX5_look_X5_isReader rfl rfl rfl (by decide +kernel) ⟨Nat.le_of_ble_eq_true rfl, Nat.le_of_ble_eq_true rfl⟩) (o_pR hK hN (hP.sub (ws' := []) [] rfl)) rfl rfl hl.1 rfl (lv_room (Nat.le_of_ble_eq_true rfl)) dX5_look_6 ⟨Nat.zero_le _, Nat.zero_le _⟩) (fun r_2 e_1 => ?_)
  have e_1 : r_2 = nI (bn (r < 4)) := e_1
  subst e_1
  refine o_ifnz (tgt := 18) hx hb dX5_look_9 (by decide) (fun c_3 => ?_) (fun c_3 => ?_)
  · skip
    have i12 := i11 r (by omega)
    refine lv_aload_n hx hb dX5_look_18 rfl (lv_at hl 0 rfl) ?_
    refine lv_iload_n hx hb dX5_look_19 rfl (lv_at hl 1 rfl) ?_
    refine o_ri (va_runV (As := [.int (nI r)]) (rest := []) ⟨hx, hb, hml, hown, hts⟩ (k_X5_ofReading l D cI cR cS cL q (va_up v 0 (va_up (v 0) 2 0)) r (by show r < 4; first | assumption | omega) (by show ∀ k, v 1 k < 2 ^ 32; first | assumption | omega) (by show v 1 1 < 2 ^ 31; first | assumption | omega) (by show v 1 (15 + 17 * r + 3) < 2 ^ 31; first | assumption | omega)) (cwV 1 hts gX5_look_X5_ofReading rfl rfl rfl (by decide +kernel) ⟨Nat.le_of_ble_eq_true rfl, Nat.le_of_ble_eq_true rfl⟩) (o_v (o_pR hK hN hP) (va_recv hK hP (ci := 5) (q0 := 0) rfl rfl)) rfl rfl hl.1 rfl (lv_room (Nat.le_of_ble_eq_true rfl)) dX5_look_20 ⟨Nat.zero_le _, Nat.zero_le _⟩) (fun r_5 e_4 => ?_)
    have e_4 : r_5 = nI (m_ofr (v 1) r) := e_4
    subst e_4
    have gv_6 := m_ofr_le (v 1) r
    refine o_const (k := 1) hx hb dX5_look_23 (by decide) ?_
    refine o_icmp_eq (tgt := 33) hx hb dX5_look_24 (by decide) (by omega) (Nat.le_of_ble_eq_true rfl) (fun c_7 => ?_) (fun c_7 => ?_)
    · skip
      refine lv_aload_n hx hb dX5_look_33 rfl (lv_at hl 0 rfl) ?_
      refine o_wv (va_runV (As := []) (rest := []) ⟨hx, hb, hml, hown, hts⟩ (k_X5_saves l D cI cR cS cL H.size q (va_up v 0 (va_up (v 0) 2 0)) (by show v 0 0 ≤ 6; first | assumption | omega)) (cwV 0 hts gX5_look_X5_saves rfl rfl rfl (by decide +kernel) ⟨Nat.le_of_ble_eq_true rfl, Nat.le_of_ble_eq_true rfl⟩) (o_v (o_pB hK hN hP hD) (va_recv hK hP (ci := 5) (q0 := 0) rfl rfl)) rfl rfl hl.1 rfl (lv_room (Nat.le_of_ble_eq_true rfl)) dX5_look_34 ⟨Nat.zero_le _, Nat.zero_le _⟩) hP hD hS hA [0, 1, 2, 3, 4] (by decide) rfl (fun _ => rfl) (fun _ H locs e_8 hP hD hS => ?_)
      have hP : va_P D vwCl (wM q cI (va_up (va_up v 0 (va_up (va_up (v 0) 0 (m_svs (v 0 0))) 2 0)) 2 (m_svp (v 0 0) (v 1) (v 2)))) H := hP
      have hD : va_D A (wM q cI (va_up (va_up v 0 (va_up (va_up (v 0) 0 (m_svs (v 0 0))) 2 0)) 2 (m_svp (v 0 0) (v 1) (v 2)))) := hD
      refine lv_aload_n hx hb dX5_look_37 rfl (lv_at hl 0 rfl) ?_
      refine lv_iload_n hx hb dX5_look_38 rfl (lv_at hl 1 rfl) ?_
      refine o_wi (va_runV (As := [.int (nI r)]) (rest := []) ⟨hx, hb, hml, hown, hts⟩ (k_X5_looks l D cI cR cS cL H.size q (va_up (va_up v 0 (va_up (va_up (v 0) 0 (m_svs (v 0 0))) 2 0)) 2 (m_svp (v 0 0) (v 1) (v 2))) r (by show r < 4; first | assumption | omega) (by show ∀ k, v 1 k < 2 ^ 32; first | assumption | omega) (by show v 1 0 < 2 ^ 30; first | assumption | omega) (by show v 1 (15 + 17 * r + 5) < 2 ^ 31; first | assumption | omega) (by show v 1 (15 + 17 * r + 2) ≤ 5; first | assumption | omega)) (cwV 1 hts gX5_look_X5_looks rfl rfl rfl (by decide +kernel) ⟨Nat.le_of_ble_eq_true rfl, Nat.le_of_ble_eq_true rfl⟩) (o_v (o_pB hK hN hP hD) (va_recv hK hP (ci := 5) (q0 := 0) rfl rfl)) rfl rfl hl.1 rfl (lv_room (Nat.le_of_ble_eq_true rfl)) dX5_look_39 ⟨Nat.zero_le _, Nat.zero_le _⟩) hP hD hS hA [0, 1, 2, 3, 4] (by decide) rfl (fun _ => rfl) (fun r_10 _ H locs e_9 hP hD hS => ?_)
      have e_9 : r_10 = nI (m_looksr (v 1) r) := e_9
      subst e_9
      have hP : va_P D vwCl (wM q cI (va_up (va_up (va_up v 0 (va_up (va_up (v 0) 0 (m_svs (v 0 0))) 2 0)) 1 (m_looks (v 1) r)) 2 (m_svp (v 0 0) (v 1) (v 2)))) H := hP
      have hD : va_D A (wM q cI (va_up (va_up (va_up v 0 (va_up (va_up (v 0) 0 (m_svs (v 0 0))) 2 0)) 1 (m_looks (v 1) r)) 2 (m_svp (v 0 0) (v 1) (v 2)))) := hD
      have w_11 : (wM q cI (m_act v (mc_look (v 1) r) (m_looks (v 1) r))) = (wM q cI (va_up (va_up (va_up v 0 (va_up (va_up (v 0) 0 (m_svs (v 0 0))) 2 0)) 1 (m_looks (v 1) r)) 2 (m_svp (v 0 0) (v 1) (v 2)))) := (by rw [show (mc_look (v 1) r) = 0 from by unfold mc_look; (repeat' split) <;> omega, m_act_0])
      rw [← w_11] at hP
      exact W.iret (v := nI (m_looksr (v 1) r)) hx hb hrt (fun t ht hW => ⟨⟨_, (), rfl, (congrArg nI (Eq.symm (if_pos (show (mc_look (v 1) r) = 0 by unfold mc_look; (repeat' split) <;> omega)))), by show va_P D vwCl _ t.heap; rw [ht]; exact hP⟩, hS.F ht⟩) hS.2.2 dX5_look_42
    · skip
      refine lv_aload_n hx hb dX5_look_27 rfl (lv_at hl 0 rfl) ?_
      refine o_const (k := 2) hx hb dX5_look_28 (by decide) ?_
      refine o_wi (va_runV (As := [.int (nI 2)]) (rest := []) ⟨hx, hb, hml, hown, hts⟩ (k_X5_fails l D cI cR cS cL H.size q (va_up v 0 (va_up (v 0) 2 0)) 2 ) (cwV 1 hts gX5_look_X5_fails rfl rfl rfl (by decide +kernel) ⟨Nat.le_of_ble_eq_true rfl, Nat.le_of_ble_eq_true rfl⟩) (o_v (o_pB hK hN hP hD) (va_recv hK hP (ci := 5) (q0 := 0) rfl rfl)) rfl rfl hl.1 rfl (lv_room (Nat.le_of_ble_eq_true rfl)) dX5_look_29 ⟨Nat.zero_le _, Nat.zero_le _⟩) hP hD hS hA [0, 1, 2, 3, 4] (by decide) rfl (fun _ => rfl) (fun r_13 _ H locs e_12 hP hD hS => ?_)
      have e_12 : r_13 = nI 0 := e_12
      subst e_12
      have hP : va_P D vwCl (wM q cI (va_up v 0 (va_up (v 0) 2 2))) H := hP
      have hD : va_D A (wM q cI (va_up v 0 (va_up (v 0) 2 2))) := hD
      have w_14 : (wM q cI (m_act v (mc_look (v 1) r) (m_looks (v 1) r))) = (wM q cI (va_up v 0 (va_up (v 0) 2 2))) := (by rw [show (mc_look (v 1) r) = 2 from by unfold mc_look; (repeat' split) <;> omega, m_act_f (by decide)])
      rw [← w_14] at hP
      exact W.iret (v := nI 0) hx hb hrt (fun t ht hW => ⟨⟨_, (), rfl, (congrArg nI (Eq.symm (if_neg (show ¬ (mc_look (v 1) r) = 0 by unfold mc_look; (repeat' split) <;> omega)))), by show va_P D vwCl _ t.heap; rw [ht]; exact hP⟩, hS.F ht⟩) hS.2.2 dX5_look_32
  · skip
    refine lv_aload_n hx hb dX5_look_12 rfl (lv_at hl 0 rfl) ?_
    refine o_const (k := 1) hx hb dX5_look_13 (by decide) ?_
    refine o_wi (va_runV (As := [.int (nI 1)]) (rest := []) ⟨hx, hb, hml, hown, hts⟩ (k_X5_fails l D cI cR cS cL H.size q (va_up v 0 (va_up (v 0) 2 0)) 1 ) (cwV 1 hts gX5_look_X5_fails rfl rfl rfl (by decide +kernel) ⟨Nat.le_of_ble_eq_true rfl, Nat.le_of_ble_eq_true rfl⟩) (o_v (o_pB hK hN hP hD) (va_recv hK hP (ci := 5) (q0 := 0) rfl rfl)) rfl rfl hl.1 rfl (lv_room (Nat.le_of_ble_eq_true rfl)) dX5_look_14 ⟨Nat.zero_le _, Nat.zero_le _⟩) hP hD hS hA [0, 1, 2, 3, 4] (by decide) rfl (fun _ => rfl) (fun r_16 _ H locs e_15 hP hD hS => ?_)
    have e_15 : r_16 = nI 0 := e_15
    subst e_15
    have hP : va_P D vwCl (wM q cI (va_up v 0 (va_up (v 0) 2 1))) H := hP
    have hD : va_D A (wM q cI (va_up v 0 (va_up (v 0) 2 1))) := hD
    have w_17 : (wM q cI (m_act v (mc_look (v 1) r) (m_looks (v 1) r))) = (wM q cI (va_up v 0 (va_up (v 0) 2 1))) := (by rw [show (mc_look (v 1) r) = 1 from by unfold mc_look; (repeat' split) <;> omega, m_act_f (by decide)])
    rw [← w_17] at hP
    exact W.iret (v := nI 0) hx hb hrt (fun t ht hW => ⟨⟨_, (), rfl, (congrArg nI (Eq.symm (if_neg (show ¬ (mc_look (v 1) r) = 0 by unfold mc_look; (repeat' split) <;> omega)))), by show va_P D vwCl _ t.heap; rw [ht]; exact hP⟩, hS.F ht⟩) hS.2.2 dX5_look_17
theorem inX5_set_X5 : ∀ w ∈ wsX50, w ∈ wsX5_set := by decide +kernel
set_option maxHeartbeats 4000000 in
set_option maxRecDepth 100000 in
theorem k_X5_set (l : Launch) (D : va_G) (cI cR cS cL : ClassId) (sz : Nat) (q : Nat → Nat) (v : Nat → Nat → Nat) (b : Nat) (x : Nat) (hI : m_I b (v 1)) (hb : b < 2 ^ 28) (hs : v 0 0 ≤ 6) (hx0 : x < 2 ^ 32) : Met l yX5_set wsX5_set ({ frames := 1, cells := 0, slots := 0, locals := 22 }) (va_Pc [.ref (q 0), .int (nI x)] (o_B D (o_T cI cR cS cL) (wM q cI v) sz)) (va_Qi (fun rz (_ : Unit) => rz = nI (if (mc_set x) = 0 then v 1 1 else 0)) (fun (_ : Unit) t => va_P D vwCl (wM q cI (m_act v (mc_set x) (va_up (v 1) 1 x))) t.heap) (va_A (wM q cI v) sz)) 0 0 (va_A (wM q cI v) sz) := by
  refine Met.ofW (cc := cX5_set) (maxL := 3) (ret := (some .int)) (by decide) rfl ?_
  intro p e s m args below meth cd s₁ B hml hv
  obtain ⟨rfl, hsz, hP, hK, hD0, hN⟩ := hv
  have hx := B.exec
  have hb := B.bytes
  have hrt := B.returns
  have hts := atoms_spec (ws := wsX5_set) B.pre
  have hown : s.vm.findClass RX5 = some m.cls := findClass_of_methodNamed B.named
  have hlocks := B.notSynchronized
  subst hsz
  have hD := hD0.self (sz := s.heap.size)
  generalize hAe : va_A (wM q cI v) s.heap.size = A at hD ⊢
  have hA : ∀ q : Nat, s.heap.size ≤ q → A q := fun q h => by rw [← hAe]; exact Or.inr h
  have hS : va_S A s.heap s.heap [] := va_S.rf
  have hl := lv_entry ([.ref (q 0), .int (nI x)]) (n := 3) (Nat.le_of_ble_eq_true rfl)
  rw [lg_entry_eq]
  generalize (lg_sl ([.ref (q 0), .int (nI x)]) ++ List.replicate (3 - (lg_sl ([.ref (q 0), .int (nI x)])).length) Slot.unset).toArray = ls at hl ⊢
  have hl : lv_has ls 3 [(0, .ref (q 0)), (1, .int (nI x))] := hl
  have hIc := hI
  obtain ⟨⟨i1, hw, i3, i4, i5⟩, ⟨i6, i7, i8, i9, i10⟩, i11⟩ := hI
  refine lv_aload_n hx hb dX5_set_0 rfl (lv_at hl 0 rfl) ?_
  refine o_const (k := 0) hx hb dX5_set_1 (by decide) ?_
  refine va_put (D := D) (ci := 5) (v := .int (nI 0)) (ty := .int) (C := RX5) (T := TX5) (N := 10) hx hb hts inX5_set_X5 tyX5 tyX5_ok nmX5 hown hK hP hD hS 0 rfl rfl 5 (by decide) (hts (.fieldLink RX5 22 "OddNoticeModel" "thrown" "I") (List.mem_of_getElem? (i := 1) (by decide +kernel))) (fun _ h9 => h9) rfl (by decide +kernel) rfl rfl (Nat.le_of_ble_eq_true rfl) dX5_set_2 (fun H locs hP hD hS => ?_)
  have hP : va_P D vwCl (wM q cI (va_up v 0 (va_up (v 0) 2 0))) H := hP
  have hD : va_D A (wM q cI (va_up v 0 (va_up (v 0) 2 0))) := hD
  refine lv_iload_n hx hb dX5_set_5 rfl (lv_at hl 1 rfl) ?_
  refine o_const (k := 1) hx hb dX5_set_6 (by decide) ?_
  refine o_bipush (k := 20) hx hb dX5_set_7 (by decide) ?_
  refine o_ri (va_runS (As := [.int (nI x), .int (nI 1), .int (nI 20)]) (rest := []) ⟨hx, hb, hml, hown, hts⟩ (k_X5_in l D cI cR cS cL x 1 20 (by show x < 2 ^ 32; first | assumption | omega) (by show 1 < 2 ^ 31; first | assumption | omega) (by show 20 < 2 ^ 31; first | assumption | omega)) (va_cwS 3 hts gX5_set_X5_in rfl rfl rfl (by decide +kernel) ⟨Nat.le_of_ble_eq_true rfl, Nat.le_of_ble_eq_true rfl⟩) (o_pR hK hN (hP.sub (ws' := []) [] rfl)) rfl rfl hl.1 rfl (lv_room (Nat.le_of_ble_eq_true rfl)) dX5_set_9 ⟨Nat.zero_le _, Nat.zero_le _⟩) (fun r_2 e_1 => ?_)
  have e_1 : r_2 = nI (bn (1 ≤ x ∧ x ≤ 20)) := e_1
  subst e_1
  refine o_ifnz (tgt := 21) hx hb dX5_set_12 (by decide) (fun c_3 => ?_) (fun c_3 => ?_)
  · skip
    refine lv_aload_n hx hb dX5_set_21 rfl (lv_at hl 0 rfl) ?_
    refine o_wv (va_runV (As := []) (rest := []) ⟨hx, hb, hml, hown, hts⟩ (k_X5_saves l D cI cR cS cL H.size q (va_up v 0 (va_up (v 0) 2 0)) (by show v 0 0 ≤ 6; first | assumption | omega)) (cwV 0 hts gX5_set_X5_saves rfl rfl rfl (by decide +kernel) ⟨Nat.le_of_ble_eq_true rfl, Nat.le_of_ble_eq_true rfl⟩) (o_v (o_pB hK hN hP hD) (va_recv hK hP (ci := 5) (q0 := 0) rfl rfl)) rfl rfl hl.1 rfl (lv_room (Nat.le_of_ble_eq_true rfl)) dX5_set_22 ⟨Nat.zero_le _, Nat.zero_le _⟩) hP hD hS hA [0, 1, 2, 3, 4] (by decide) rfl (fun _ => rfl) (fun _ H locs e_4 hP hD hS => ?_)
    have hP : va_P D vwCl (wM q cI (va_up (va_up v 0 (va_up (va_up (v 0) 0 (m_svs (v 0 0))) 2 0)) 2 (m_svp (v 0 0) (v 1) (v 2)))) H := hP
    have hD : va_D A (wM q cI (va_up (va_up v 0 (va_up (va_up (v 0) 0 (m_svs (v 0 0))) 2 0)) 2 (m_svp (v 0 0) (v 1) (v 2)))) := hD
    refine lv_aload_n hx hb dX5_set_25 rfl (lv_at hl 0 rfl) ?_
    refine va_get (D := D) (ci := 5) (v := .ref (q 1)) (C := RX5) (T := TX5) (N := 10) hx hb hts inX5_set_X5 hown hK hP 0 rfl rfl 0 (by decide) (hts (.fieldLink RX5 7 "OddNoticeModel" "now" "[I") (List.mem_of_getElem? (i := 2) (by decide +kernel))) (fun _ h9 => h9) rfl dX5_set_26 ?_
    refine o_const (k := 1) hx hb dX5_set_29 (by decide) ?_
    refine o_iald (v := nI (v 1 1)) hx hb hK hP 1 0 rfl rfl (Nat.le_of_ble_eq_true rfl) (Nat.le_of_ble_eq_true rfl) rfl dX5_set_30 ?_
    refine lv_istore_n (lv' := [(2, .int (nI (v 1 1))), (0, .ref (q 0)), (1, .int (nI x))]) hx hb dX5_set_31 rfl hl (by decide) rfl (fun ls hl => ?_)
    refine lv_aload_n hx hb dX5_set_32 rfl (lv_at hl 1 rfl) ?_
    refine va_get (D := D) (ci := 5) (v := .ref (q 1)) (C := RX5) (T := TX5) (N := 10) hx hb hts inX5_set_X5 hown hK hP 0 rfl rfl 0 (by decide) (hts (.fieldLink RX5 7 "OddNoticeModel" "now" "[I") (List.mem_of_getElem? (i := 2) (by decide +kernel))) (fun _ h9 => h9) rfl dX5_set_33 ?_
    refine o_const (k := 1) hx hb dX5_set_36 (by decide) ?_
    refine lv_iload_n hx hb dX5_set_37 rfl (lv_at hl 2 rfl) ?_
    refine o_iast (g := (v 1)) hx hb hK hP hD hS 1 0 rfl rfl (Nat.le_of_ble_eq_true rfl) (Nat.le_of_ble_eq_true rfl) dX5_set_38 (fun H locs hP hD hS => ?_)
    have hP : va_P D vwCl (wM q cI (va_up (va_up (va_up v 0 (va_up (va_up (v 0) 0 (m_svs (v 0 0))) 2 0)) 1 (va_up (v 1) 1 x)) 2 (m_svp (v 0 0) (v 1) (v 2)))) H := hP
    have hD : va_D A (wM q cI (va_up (va_up (va_up v 0 (va_up (va_up (v 0) 0 (m_svs (v 0 0))) 2 0)) 1 (va_up (v 1) 1 x)) 2 (m_svp (v 0 0) (v 1) (v 2)))) := hD
    refine lv_iload_n hx hb dX5_set_39 rfl (lv_at hl 0 rfl) ?_
    have w_5 : (wM q cI (m_act v (mc_set x) (va_up (v 1) 1 x))) = (wM q cI (va_up (va_up (va_up v 0 (va_up (va_up (v 0) 0 (m_svs (v 0 0))) 2 0)) 1 (va_up (v 1) 1 x)) 2 (m_svp (v 0 0) (v 1) (v 2)))) := (by rw [show (mc_set x) = 0 from by unfold mc_set; (repeat' split) <;> omega, m_act_0])
    rw [← w_5] at hP
    exact W.iret (v := nI (v 1 1)) hx hb hrt (fun t ht hW => ⟨⟨_, (), rfl, (congrArg nI (Eq.symm (if_pos (show (mc_set x) = 0 by unfold mc_set; (repeat' split) <;> omega)))), by show va_P D vwCl _ t.heap; rw [ht]; exact hP⟩, hS.F ht⟩) hS.2.2 dX5_set_40
  · skip
    refine lv_aload_n hx hb dX5_set_15 rfl (lv_at hl 0 rfl) ?_
    refine o_const (k := 1) hx hb dX5_set_16 (by decide) ?_
    refine o_wi (va_runV (As := [.int (nI 1)]) (rest := []) ⟨hx, hb, hml, hown, hts⟩ (k_X5_fails l D cI cR cS cL H.size q (va_up v 0 (va_up (v 0) 2 0)) 1 ) (cwV 1 hts gX5_set_X5_fails rfl rfl rfl (by decide +kernel) ⟨Nat.le_of_ble_eq_true rfl, Nat.le_of_ble_eq_true rfl⟩) (o_v (o_pB hK hN hP hD) (va_recv hK hP (ci := 5) (q0 := 0) rfl rfl)) rfl rfl hl.1 rfl (lv_room (Nat.le_of_ble_eq_true rfl)) dX5_set_17 ⟨Nat.zero_le _, Nat.zero_le _⟩) hP hD hS hA [0, 1, 2, 3, 4] (by decide) rfl (fun _ => rfl) (fun r_7 _ H locs e_6 hP hD hS => ?_)
    have e_6 : r_7 = nI 0 := e_6
    subst e_6
    have hP : va_P D vwCl (wM q cI (va_up v 0 (va_up (v 0) 2 1))) H := hP
    have hD : va_D A (wM q cI (va_up v 0 (va_up (v 0) 2 1))) := hD
    have w_8 : (wM q cI (m_act v (mc_set x) (va_up (v 1) 1 x))) = (wM q cI (va_up v 0 (va_up (v 0) 2 1))) := (by rw [show (mc_set x) = 1 from by unfold mc_set; (repeat' split) <;> omega, m_act_f (by decide)])
    rw [← w_8] at hP
    exact W.iret (v := nI 0) hx hb hrt (fun t ht hW => ⟨⟨_, (), rfl, (congrArg nI (Eq.symm (if_neg (show ¬ (mc_set x) = 0 by unfold mc_set; (repeat' split) <;> omega)))), by show va_P D vwCl _ t.heap; rw [ht]; exact hP⟩, hS.F ht⟩) hS.2.2 dX5_set_20
theorem inX5_append_X5 : ∀ w ∈ wsX50, w ∈ wsX5_append := by decide +kernel
set_option maxHeartbeats 4000000 in
set_option maxRecDepth 100000 in
theorem k_X5_append (l : Launch) (D : va_G) (cI cR cS cL : ClassId) (sz : Nat) (q : Nat → Nat) (v : Nat → Nat → Nat) (c : Nat) (h2 : v 0 1 ≤ 60) (hc : c < 2 ^ 32) : Met l yX5_append wsX5_append ({ frames := 1, cells := 0, slots := 0, locals := 22 }) (va_Pc [.ref (q 0), .int (nI c)] (o_B D (o_T cI cR cS cL) (wM q cI v) sz)) (va_Qi (fun rz (_ : Unit) => rz = nI (if mc_app (v 0 1) c = 0 then v 0 1 + 1 else 0)) (fun (_ : Unit) t => va_P D vwCl (wM q cI (m_app v c)) t.heap) (va_A (wM q cI v) sz)) 0 0 (va_A (wM q cI v) sz) := by
  refine Met.ofW (cc := cX5_append) (maxL := 2) (ret := (some .int)) (by decide) rfl ?_
  intro p e s m args below meth cd s₁ B hml hv
  obtain ⟨rfl, hsz, hP, hK, hD0, hN⟩ := hv
  have hx := B.exec
  have hb := B.bytes
  have hrt := B.returns
  have hts := atoms_spec (ws := wsX5_append) B.pre
  have hown : s.vm.findClass RX5 = some m.cls := findClass_of_methodNamed B.named
  have hlocks := B.notSynchronized
  subst hsz
  have hD := hD0.self (sz := s.heap.size)
  generalize hAe : va_A (wM q cI v) s.heap.size = A at hD ⊢
  have hA : ∀ q : Nat, s.heap.size ≤ q → A q := fun q h => by rw [← hAe]; exact Or.inr h
  have hS : va_S A s.heap s.heap [] := va_S.rf
  have hl := lv_entry ([.ref (q 0), .int (nI c)]) (n := 2) (Nat.le_of_ble_eq_true rfl)
  rw [lg_entry_eq]
  generalize (lg_sl ([.ref (q 0), .int (nI c)]) ++ List.replicate (2 - (lg_sl ([.ref (q 0), .int (nI c)])).length) Slot.unset).toArray = ls at hl ⊢
  have hl : lv_has ls 2 [(0, .ref (q 0)), (1, .int (nI c))] := hl
  refine lv_aload_n hx hb dX5_append_0 rfl (lv_at hl 0 rfl) ?_
  refine o_const (k := 0) hx hb dX5_append_1 (by decide) ?_
  refine va_put (D := D) (ci := 5) (v := .int (nI 0)) (ty := .int) (C := RX5) (T := TX5) (N := 10) hx hb hts inX5_append_X5 tyX5 tyX5_ok nmX5 hown hK hP hD hS 0 rfl rfl 5 (by decide) (hts (.fieldLink RX5 22 "OddNoticeModel" "thrown" "I") (List.mem_of_getElem? (i := 1) (by decide +kernel))) (fun _ h9 => h9) rfl (by decide +kernel) rfl rfl (Nat.le_of_ble_eq_true rfl) dX5_append_2 (fun H locs hP hD hS => ?_)
  have hP : va_P D vwCl (wM q cI (va_up v 0 (va_up (v 0) 2 0))) H := hP
  have hD : va_D A (wM q cI (va_up v 0 (va_up (v 0) 2 0))) := hD
  refine lv_iload_n hx hb dX5_append_5 rfl (lv_at hl 1 rfl) ?_
  refine o_bipush (k := 33) hx hb dX5_append_6 (by decide) ?_
  refine o_bipush (k := 126) hx hb dX5_append_8 (by decide) ?_
  refine o_ri (va_runS (As := [.int (nI c), .int (nI 33), .int (nI 126)]) (rest := []) ⟨hx, hb, hml, hown, hts⟩ (k_X5_in l D cI cR cS cL c 33 126 (by show c < 2 ^ 32; first | assumption | omega) (by show 33 < 2 ^ 31; first | assumption | omega) (by show 126 < 2 ^ 31; first | assumption | omega)) (va_cwS 3 hts gX5_append_X5_in rfl rfl rfl (by decide +kernel) ⟨Nat.le_of_ble_eq_true rfl, Nat.le_of_ble_eq_true rfl⟩) (o_pR hK hN (hP.sub (ws' := []) [] rfl)) rfl rfl hl.1 rfl (lv_room (Nat.le_of_ble_eq_true rfl)) dX5_append_10 ⟨Nat.zero_le _, Nat.zero_le _⟩) (fun r_2 e_1 => ?_)
  have e_1 : r_2 = nI (bn (33 ≤ c ∧ c ≤ 126)) := e_1
  subst e_1
  refine o_ifnz (tgt := 22) hx hb dX5_append_13 (by decide) (fun c_3 => ?_) (fun c_3 => ?_)
  · skip
    refine lv_aload_n hx hb dX5_append_22 rfl (lv_at hl 0 rfl) ?_
    refine va_get (D := D) (ci := 5) (v := .int (nI (v 0 1))) (C := RX5) (T := TX5) (N := 10) hx hb hts inX5_append_X5 hown hK hP 0 rfl rfl 4 (by decide) (hts (.fieldLink RX5 86 "OddNoticeModel" "typed" "I") (List.mem_of_getElem? (i := 2) (by decide +kernel))) (fun _ h9 => h9) rfl dX5_append_23 ?_
    refine o_bipush (k := 60) hx hb dX5_append_26 (by decide) ?_
    refine o_icmp_ne (tgt := 37) hx hb dX5_append_28 (by decide) (by omega) (Nat.le_of_ble_eq_true rfl) (fun c_4 => ?_) (fun c_4 => ?_)
    · skip
      refine lv_aload_n hx hb dX5_append_37 rfl (lv_at hl 0 rfl) ?_
      refine va_get (D := D) (ci := 5) (v := .ref (q 3)) (C := RX5) (T := TX5) (N := 10) hx hb hts inX5_append_X5 hown hK hP 0 rfl rfl 3 (by decide) (hts (.fieldLink RX5 16 "OddNoticeModel" "text" "[I") (List.mem_of_getElem? (i := 3) (by decide +kernel))) (fun _ h9 => h9) rfl dX5_append_38 ?_
      refine lv_aload_n hx hb dX5_append_41 rfl (lv_at hl 0 rfl) ?_
      refine va_get (D := D) (ci := 5) (v := .int (nI (v 0 1))) (C := RX5) (T := TX5) (N := 10) hx hb hts inX5_append_X5 hown hK hP 0 rfl rfl 4 (by decide) (hts (.fieldLink RX5 86 "OddNoticeModel" "typed" "I") (List.mem_of_getElem? (i := 2) (by decide +kernel))) (fun _ h9 => h9) rfl dX5_append_42 ?_
      refine lv_iload_n hx hb dX5_append_45 rfl (lv_at hl 1 rfl) ?_
      refine o_iast (g := (v 3)) hx hb hK hP hD hS 3 0 rfl rfl (by omega) (Nat.le_of_ble_eq_true rfl) dX5_append_46 (fun H locs hP hD hS => ?_)
      have hP : va_P D vwCl (wM q cI (va_up (va_up v 0 (va_up (v 0) 2 0)) 3 (va_up (v 3) (v 0 1) c))) H := hP
      have hD : va_D A (wM q cI (va_up (va_up v 0 (va_up (v 0) 2 0)) 3 (va_up (v 3) (v 0 1) c))) := hD
      refine lv_aload_n hx hb dX5_append_47 rfl (lv_at hl 0 rfl) ?_
      refine lv_dup hx hb dX5_append_48 rfl ?_
      refine va_get (D := D) (ci := 5) (v := .int (nI (v 0 1))) (C := RX5) (T := TX5) (N := 10) hx hb hts inX5_append_X5 hown hK hP 0 rfl rfl 4 (by decide) (hts (.fieldLink RX5 86 "OddNoticeModel" "typed" "I") (List.mem_of_getElem? (i := 2) (by decide +kernel))) (fun _ h9 => h9) rfl dX5_append_49 ?_
      refine o_const (k := 1) hx hb dX5_append_52 (by decide) ?_
      refine o_iadd (a := (v 0 1)) (b := 1) (k := ((v 0 1) + 1)) hx hb dX5_append_53 rfl ?_
      refine va_put (D := D) (ci := 5) (v := .int (nI ((v 0 1) + 1))) (ty := .int) (C := RX5) (T := TX5) (N := 10) hx hb hts inX5_append_X5 tyX5 tyX5_ok nmX5 hown hK hP hD hS 0 rfl rfl 4 (by decide) (hts (.fieldLink RX5 86 "OddNoticeModel" "typed" "I") (List.mem_of_getElem? (i := 2) (by decide +kernel))) (fun _ h9 => h9) rfl (by decide +kernel) rfl rfl (Nat.le_of_ble_eq_true rfl) dX5_append_54 (fun H locs hP hD hS => ?_)
      have hP : va_P D vwCl (wM q cI (va_up (va_up v 0 (va_up (va_up (v 0) 1 ((v 0 1) + 1)) 2 0)) 3 (va_up (v 3) (v 0 1) c))) H := hP
      have hD : va_D A (wM q cI (va_up (va_up v 0 (va_up (va_up (v 0) 1 ((v 0 1) + 1)) 2 0)) 3 (va_up (v 3) (v 0 1) c))) := hD
      refine lv_aload_n hx hb dX5_append_57 rfl (lv_at hl 0 rfl) ?_
      refine va_get (D := D) (ci := 5) (v := .int (nI ((v 0 1) + 1))) (C := RX5) (T := TX5) (N := 10) hx hb hts inX5_append_X5 hown hK hP 0 rfl rfl 4 (by decide) (hts (.fieldLink RX5 86 "OddNoticeModel" "typed" "I") (List.mem_of_getElem? (i := 2) (by decide +kernel))) (fun _ h9 => h9) rfl dX5_append_58 ?_
      have w_5 : (wM q cI (m_app v c)) = (wM q cI (va_up (va_up v 0 (va_up (va_up (v 0) 1 ((v 0 1) + 1)) 2 0)) 3 (va_up (v 3) (v 0 1) c))) := (by unfold m_app; rw [show mc_app (v 0 1) c = 0 from by unfold mc_app; (repeat' split) <;> omega]; rfl)
      rw [← w_5] at hP
      exact W.iret (v := nI ((v 0 1) + 1)) hx hb hrt (fun t ht hW => ⟨⟨_, (), rfl, (congrArg nI (Eq.symm (if_pos (show mc_app (v 0 1) c = 0 by unfold mc_app; (repeat' split) <;> omega)))), by show va_P D vwCl _ t.heap; rw [ht]; exact hP⟩, hS.F ht⟩) hS.2.2 dX5_append_61
    · skip
      refine lv_aload_n hx hb dX5_append_31 rfl (lv_at hl 0 rfl) ?_
      refine o_const (k := 2) hx hb dX5_append_32 (by decide) ?_
      refine o_wi (va_runV (As := [.int (nI 2)]) (rest := []) ⟨hx, hb, hml, hown, hts⟩ (k_X5_fails l D cI cR cS cL H.size q (va_up v 0 (va_up (v 0) 2 0)) 2 ) (cwV 1 hts gX5_append_X5_fails rfl rfl rfl (by decide +kernel) ⟨Nat.le_of_ble_eq_true rfl, Nat.le_of_ble_eq_true rfl⟩) (o_v (o_pB hK hN hP hD) (va_recv hK hP (ci := 5) (q0 := 0) rfl rfl)) rfl rfl hl.1 rfl (lv_room (Nat.le_of_ble_eq_true rfl)) dX5_append_33 ⟨Nat.zero_le _, Nat.zero_le _⟩) hP hD hS hA [0, 1, 2, 3, 4] (by decide) rfl (fun _ => rfl) (fun r_7 _ H locs e_6 hP hD hS => ?_)
      have e_6 : r_7 = nI 0 := e_6
      subst e_6
      have hP : va_P D vwCl (wM q cI (va_up v 0 (va_up (v 0) 2 2))) H := hP
      have hD : va_D A (wM q cI (va_up v 0 (va_up (v 0) 2 2))) := hD
      have w_8 : (wM q cI (m_app v c)) = (wM q cI (va_up v 0 (va_up (v 0) 2 2))) := (by unfold m_app; rw [show mc_app (v 0 1) c = 2 from by unfold mc_app; (repeat' split) <;> omega]; rfl)
      rw [← w_8] at hP
      exact W.iret (v := nI 0) hx hb hrt (fun t ht hW => ⟨⟨_, (), rfl, (congrArg nI (Eq.symm (if_neg (show ¬ mc_app (v 0 1) c = 0 by unfold mc_app; (repeat' split) <;> omega)))), by show va_P D vwCl _ t.heap; rw [ht]; exact hP⟩, hS.F ht⟩) hS.2.2 dX5_append_36
  · skip
    refine lv_aload_n hx hb dX5_append_16 rfl (lv_at hl 0 rfl) ?_
    refine o_const (k := 1) hx hb dX5_append_17 (by decide) ?_
    refine o_wi (va_runV (As := [.int (nI 1)]) (rest := []) ⟨hx, hb, hml, hown, hts⟩ (k_X5_fails l D cI cR cS cL H.size q (va_up v 0 (va_up (v 0) 2 0)) 1 ) (cwV 1 hts gX5_append_X5_fails rfl rfl rfl (by decide +kernel) ⟨Nat.le_of_ble_eq_true rfl, Nat.le_of_ble_eq_true rfl⟩) (o_v (o_pB hK hN hP hD) (va_recv hK hP (ci := 5) (q0 := 0) rfl rfl)) rfl rfl hl.1 rfl (lv_room (Nat.le_of_ble_eq_true rfl)) dX5_append_18 ⟨Nat.zero_le _, Nat.zero_le _⟩) hP hD hS hA [0, 1, 2, 3, 4] (by decide) rfl (fun _ => rfl) (fun r_10 _ H locs e_9 hP hD hS => ?_)
    have e_9 : r_10 = nI 0 := e_9
    subst e_9
    have hP : va_P D vwCl (wM q cI (va_up v 0 (va_up (v 0) 2 1))) H := hP
    have hD : va_D A (wM q cI (va_up v 0 (va_up (v 0) 2 1))) := hD
    have w_11 : (wM q cI (m_app v c)) = (wM q cI (va_up v 0 (va_up (v 0) 2 1))) := (by unfold m_app; rw [show mc_app (v 0 1) c = 1 from by unfold mc_app; (repeat' split) <;> omega]; rfl)
    rw [← w_11] at hP
    exact W.iret (v := nI 0) hx hb hrt (fun t ht hW => ⟨⟨_, (), rfl, (congrArg nI (Eq.symm (if_neg (show ¬ mc_app (v 0 1) c = 0 by unfold mc_app; (repeat' split) <;> omega)))), by show va_P D vwCl _ t.heap; rw [ht]; exact hP⟩, hS.F ht⟩) hS.2.2 dX5_append_21
theorem inX5_clearBuffer_X5 : ∀ w ∈ wsX50, w ∈ wsX5_clearBuffer := by decide +kernel
set_option maxHeartbeats 4000000 in
set_option maxRecDepth 100000 in
theorem k_X5_clearBuffer (l : Launch) (D : va_G) (cI cR cS cL : ClassId) (sz : Nat) (q : Nat → Nat) (v : Nat → Nat → Nat) : Met l yX5_clearBuffer wsX5_clearBuffer ({ frames := 0, cells := 0, slots := 0, locals := 0 }) (va_Pc [.ref (q 0)] (o_B D (o_T cI cR cS cL) (wM q cI v) sz)) (va_Qi (fun rz (_ : Unit) => rz = nI (v 0 1)) (fun (_ : Unit) t => va_P D vwCl (wM q cI (va_up v 0 (va_up (va_up (v 0) 1 0) 2 0))) t.heap) (va_A (wM q cI v) sz)) 0 0 (va_A (wM q cI v) sz) := by
  refine Met.ofW (cc := cX5_clearBuffer) (maxL := 2) (ret := (some .int)) (by decide) rfl ?_
  intro p e s m args below meth cd s₁ B hml hv
  obtain ⟨rfl, hsz, hP, hK, hD0, hN⟩ := hv
  have hx := B.exec
  have hb := B.bytes
  have hrt := B.returns
  have hts := atoms_spec (ws := wsX5_clearBuffer) B.pre
  have hown : s.vm.findClass RX5 = some m.cls := findClass_of_methodNamed B.named
  have hlocks := B.notSynchronized
  subst hsz
  have hD := hD0.self (sz := s.heap.size)
  generalize hAe : va_A (wM q cI v) s.heap.size = A at hD ⊢
  have hA : ∀ q : Nat, s.heap.size ≤ q → A q := fun q h => by rw [← hAe]; exact Or.inr h
  have hS : va_S A s.heap s.heap [] := va_S.rf
  have hl := lv_entry ([.ref (q 0)]) (n := 2) (Nat.le_of_ble_eq_true rfl)
  rw [lg_entry_eq]
  generalize (lg_sl ([.ref (q 0)]) ++ List.replicate (2 - (lg_sl ([.ref (q 0)])).length) Slot.unset).toArray = ls at hl ⊢
  have hl : lv_has ls 2 [(0, .ref (q 0))] := hl
  refine lv_aload_n hx hb dX5_clearBuffer_0 rfl (lv_at hl 0 rfl) ?_
  refine o_const (k := 0) hx hb dX5_clearBuffer_1 (by decide) ?_
  refine va_put (D := D) (ci := 5) (v := .int (nI 0)) (ty := .int) (C := RX5) (T := TX5) (N := 10) hx hb hts inX5_clearBuffer_X5 tyX5 tyX5_ok nmX5 hown hK hP hD hS 0 rfl rfl 5 (by decide) (hts (.fieldLink RX5 22 "OddNoticeModel" "thrown" "I") (List.mem_of_getElem? (i := 1) (by decide +kernel))) (fun _ h9 => h9) rfl (by decide +kernel) rfl rfl (Nat.le_of_ble_eq_true rfl) dX5_clearBuffer_2 (fun H locs hP hD hS => ?_)
  have hP : va_P D vwCl (wM q cI (va_up v 0 (va_up (v 0) 2 0))) H := hP
  have hD : va_D A (wM q cI (va_up v 0 (va_up (v 0) 2 0))) := hD
  refine lv_aload_n hx hb dX5_clearBuffer_5 rfl (lv_at hl 0 rfl) ?_
  refine va_get (D := D) (ci := 5) (v := .int (nI (v 0 1))) (C := RX5) (T := TX5) (N := 10) hx hb hts inX5_clearBuffer_X5 hown hK hP 0 rfl rfl 4 (by decide) (hts (.fieldLink RX5 86 "OddNoticeModel" "typed" "I") (List.mem_of_getElem? (i := 2) (by decide +kernel))) (fun _ h9 => h9) rfl dX5_clearBuffer_6 ?_
  refine lv_istore_n (lv' := [(1, .int (nI (v 0 1))), (0, .ref (q 0))]) hx hb dX5_clearBuffer_9 rfl hl (by decide) rfl (fun ls hl => ?_)
  refine lv_aload_n hx hb dX5_clearBuffer_10 rfl (lv_at hl 1 rfl) ?_
  refine o_const (k := 0) hx hb dX5_clearBuffer_11 (by decide) ?_
  refine va_put (D := D) (ci := 5) (v := .int (nI 0)) (ty := .int) (C := RX5) (T := TX5) (N := 10) hx hb hts inX5_clearBuffer_X5 tyX5 tyX5_ok nmX5 hown hK hP hD hS 0 rfl rfl 4 (by decide) (hts (.fieldLink RX5 86 "OddNoticeModel" "typed" "I") (List.mem_of_getElem? (i := 2) (by decide +kernel))) (fun _ h9 => h9) rfl (by decide +kernel) rfl rfl (Nat.le_of_ble_eq_true rfl) dX5_clearBuffer_12 (fun H locs hP hD hS => ?_)
  have hP : va_P D vwCl (wM q cI (va_up v 0 (va_up (va_up (v 0) 1 0) 2 0))) H := hP
  have hD : va_D A (wM q cI (va_up v 0 (va_up (va_up (v 0) 1 0) 2 0))) := hD
  refine lv_iload_n hx hb dX5_clearBuffer_15 rfl (lv_at hl 0 rfl) ?_
  exact W.iret (v := nI (v 0 1)) hx hb hrt (fun t ht hW => ⟨⟨_, (), rfl, rfl, by show va_P D vwCl _ t.heap; rw [ht]; exact hP⟩, hS.F ht⟩) hS.2.2 dX5_clearBuffer_16
theorem inX5_undo_X5 : ∀ w ∈ wsX50, w ∈ wsX5_undo := by decide +kernel
set_option maxHeartbeats 4000000 in
set_option maxRecDepth 100000 in
theorem k_X5_undo (l : Launch) (D : va_G) (cI cR cS cL : ClassId) (sz : Nat) (q : Nat → Nat) (v : Nat → Nat → Nat) (hs : v 0 0 ≤ 6) : Met l yX5_undo wsX5_undo ({ frames := 1, cells := 0, slots := 0, locals := 21 }) (va_Pc [.ref (q 0)] (o_B D (o_T cI cR cS cL) (wM q cI v) sz)) (va_Qi (fun rz (_ : Unit) => rz = nI (if v 0 0 = 0 then 0 else v 0 0 - 1)) (fun (_ : Unit) t => va_P D vwCl (wM q cI (m_undo v)) t.heap) (va_A (wM q cI v) sz)) 0 0 (va_A (wM q cI v) sz) := by
  refine Met.ofW (cc := cX5_undo) (maxL := 2) (ret := (some .int)) (by decide) rfl ?_
  intro p e s m args below meth cd s₁ B hml hv
  obtain ⟨rfl, hsz, hP, hK, hD0, hN⟩ := hv
  have hx := B.exec
  have hb := B.bytes
  have hrt := B.returns
  have hts := atoms_spec (ws := wsX5_undo) B.pre
  have hown : s.vm.findClass RX5 = some m.cls := findClass_of_methodNamed B.named
  have hlocks := B.notSynchronized
  subst hsz
  have hD := hD0.self (sz := s.heap.size)
  generalize hAe : va_A (wM q cI v) s.heap.size = A at hD ⊢
  have hA : ∀ q : Nat, s.heap.size ≤ q → A q := fun q h => by rw [← hAe]; exact Or.inr h
  have hS : va_S A s.heap s.heap [] := va_S.rf
  have hl := lv_entry ([.ref (q 0)]) (n := 2) (Nat.le_of_ble_eq_true rfl)
  rw [lg_entry_eq]
  generalize (lg_sl ([.ref (q 0)]) ++ List.replicate (2 - (lg_sl ([.ref (q 0)])).length) Slot.unset).toArray = ls at hl ⊢
  have hl : lv_has ls 2 [(0, .ref (q 0))] := hl
  refine lv_aload_n hx hb dX5_undo_0 rfl (lv_at hl 0 rfl) ?_
  refine o_const (k := 0) hx hb dX5_undo_1 (by decide) ?_
  refine va_put (D := D) (ci := 5) (v := .int (nI 0)) (ty := .int) (C := RX5) (T := TX5) (N := 10) hx hb hts inX5_undo_X5 tyX5 tyX5_ok nmX5 hown hK hP hD hS 0 rfl rfl 5 (by decide) (hts (.fieldLink RX5 22 "OddNoticeModel" "thrown" "I") (List.mem_of_getElem? (i := 1) (by decide +kernel))) (fun _ h9 => h9) rfl (by decide +kernel) rfl rfl (Nat.le_of_ble_eq_true rfl) dX5_undo_2 (fun H locs hP hD hS => ?_)
  have hP : va_P D vwCl (wM q cI (va_up v 0 (va_up (v 0) 2 0))) H := hP
  have hD : va_D A (wM q cI (va_up v 0 (va_up (v 0) 2 0))) := hD
  refine lv_aload_n hx hb dX5_undo_5 rfl (lv_at hl 0 rfl) ?_
  refine va_get (D := D) (ci := 5) (v := .int (nI (v 0 0))) (C := RX5) (T := TX5) (N := 10) hx hb hts inX5_undo_X5 hown hK hP 0 rfl rfl 2 (by decide) (hts (.fieldLink RX5 30 "OddNoticeModel" "states" "I") (List.mem_of_getElem? (i := 2) (by decide +kernel))) (fun _ h9 => h9) rfl dX5_undo_6 ?_
  refine o_if_ne (tgt := 18) hx hb dX5_undo_9 (by decide) (by omega) (fun c_1 => ?_) (fun c_1 => ?_)
  · skip
    refine lv_aload_n hx hb dX5_undo_18 rfl (lv_at hl 0 rfl) ?_
    refine lv_dup hx hb dX5_undo_19 rfl ?_
    refine va_get (D := D) (ci := 5) (v := .int (nI (v 0 0))) (C := RX5) (T := TX5) (N := 10) hx hb hts inX5_undo_X5 hown hK hP 0 rfl rfl 2 (by decide) (hts (.fieldLink RX5 30 "OddNoticeModel" "states" "I") (List.mem_of_getElem? (i := 2) (by decide +kernel))) (fun _ h9 => h9) rfl dX5_undo_20 ?_
    refine o_const (k := 1) hx hb dX5_undo_23 (by decide) ?_
    refine o_isub (a := (v 0 0)) (b := 1) (k := ((v 0 0) - 1)) hx hb dX5_undo_24 (by omega) rfl ?_
    refine va_put (D := D) (ci := 5) (v := .int (nI ((v 0 0) - 1))) (ty := .int) (C := RX5) (T := TX5) (N := 10) hx hb hts inX5_undo_X5 tyX5 tyX5_ok nmX5 hown hK hP hD hS 0 rfl rfl 2 (by decide) (hts (.fieldLink RX5 30 "OddNoticeModel" "states" "I") (List.mem_of_getElem? (i := 2) (by decide +kernel))) (fun _ h9 => h9) rfl (by decide +kernel) rfl rfl (Nat.le_of_ble_eq_true rfl) dX5_undo_25 (fun H locs hP hD hS => ?_)
    have hP : va_P D vwCl (wM q cI (va_up v 0 (va_up (va_up (v 0) 0 ((v 0 0) - 1)) 2 0))) H := hP
    have hD : va_D A (wM q cI (va_up v 0 (va_up (va_up (v 0) 0 ((v 0 0) - 1)) 2 0))) := hD
    refine o_const (k := 0) hx hb dX5_undo_28 (by decide) ?_
    refine lv_istore_n (lv' := [(1, .int (nI 0)), (0, .ref (q 0))]) hx hb dX5_undo_29 rfl hl (by decide) rfl (fun ls hl => ?_)
    have lp_1 : ∀ (fu : Nat) (i : Nat), i ≤ 163 → 163 - i < fu → ∀ (H : Heap) (locs : List Loc) (hP : va_P D vwCl (wM q cI (va_up (va_up v 0 (va_up (va_up (v 0) 0 ((v 0 0) - 1)) 2 0)) 1 (m_get (v 1) (v 2) (v 0 0 - 1) i))) H) (hD : va_D A (wM q cI (va_up (va_up v 0 (va_up (va_up (v 0) 0 ((v 0 0) - 1)) 2 0)) 1 (m_get (v 1) (v 2) (v 0 0 - 1) i)))) (hS : va_S A s.heap H locs) (ls : Array Slot) (hl : lv_has ls 2 [(1, .int (nI i)), (0, .ref (q 0))]), W p l e (headSpec wsX5_undo ({ frames := 1, cells := 0, slots := 0, locals := 21 })).room s m ([.ref (q 0)] : List Value).toArray below meth cd H locs 0 0 (MQ below (va_Qi (fun rz (_ : Unit) => rz = nI (if v 0 0 = 0 then 0 else v 0 0 - 1)) (fun (_ : Unit) t => va_P D vwCl (wM q cI (m_undo v)) t.heap) A) ([.ref (q 0)] : List Value).toArray s 0 0 A) (F0 m 30 ls []) := by
      intro fu
      induction fu with
      | zero => intro i hi hm; exact absurd hm (Nat.not_lt_zero _)
      | succ fu ih_1 =>
        intro i hi hm_1 H locs hP hD hS ls hl
        refine lv_iload_n hx hb dX5_undo_30 rfl (lv_at hl 0 rfl) ?_
        refine o_sipush (k := 163) hx hb dX5_undo_31 (by decide) ?_
        refine o_icmp_ge (tgt := 64) hx hb dX5_undo_34 (by decide) (by omega) (Nat.le_of_ble_eq_true rfl) (fun c_2 => ?_) (fun c_2 => ?_)
        · skip
          refine lv_aload_n hx hb dX5_undo_64 rfl (lv_at hl 1 rfl) ?_
          refine va_get (D := D) (ci := 5) (v := .int (nI ((v 0 0) - 1))) (C := RX5) (T := TX5) (N := 10) hx hb hts inX5_undo_X5 hown hK hP 0 rfl rfl 2 (by decide) (hts (.fieldLink RX5 30 "OddNoticeModel" "states" "I") (List.mem_of_getElem? (i := 2) (by decide +kernel))) (fun _ h9 => h9) rfl dX5_undo_65 ?_
          have w_3 : (wM q cI (m_undo v)) = (wM q cI (va_up (va_up v 0 (va_up (va_up (v 0) 0 ((v 0 0) - 1)) 2 0)) 1 (m_get (v 1) (v 2) (v 0 0 - 1) i))) := (by unfold m_undo; rw [if_neg (by omega), show 163 = i by omega])
          rw [← w_3] at hP
          exact W.iret (v := nI ((v 0 0) - 1)) hx hb hrt (fun t ht hW => ⟨⟨_, (), rfl, (congrArg nI (Eq.symm (if_neg (by omega)))), by show va_P D vwCl _ t.heap; rw [ht]; exact hP⟩, hS.F ht⟩) hS.2.2 dX5_undo_68
        · skip
          refine lv_aload_n hx hb dX5_undo_37 rfl (lv_at hl 1 rfl) ?_
          refine va_get (D := D) (ci := 5) (v := .ref (q 1)) (C := RX5) (T := TX5) (N := 10) hx hb hts inX5_undo_X5 hown hK hP 0 rfl rfl 0 (by decide) (hts (.fieldLink RX5 7 "OddNoticeModel" "now" "[I") (List.mem_of_getElem? (i := 3) (by decide +kernel))) (fun _ h9 => h9) rfl dX5_undo_38 ?_
          refine lv_iload_n hx hb dX5_undo_41 rfl (lv_at hl 0 rfl) ?_
          refine lv_aload_n hx hb dX5_undo_42 rfl (lv_at hl 1 rfl) ?_
          refine va_get (D := D) (ci := 5) (v := .ref (q 2)) (C := RX5) (T := TX5) (N := 10) hx hb hts inX5_undo_X5 hown hK hP 0 rfl rfl 1 (by decide) (hts (.fieldLink RX5 13 "OddNoticeModel" "past" "[I") (List.mem_of_getElem? (i := 4) (by decide +kernel))) (fun _ h9 => h9) rfl dX5_undo_43 ?_
          refine o_sipush (k := 163) hx hb dX5_undo_46 (by decide) ?_
          refine lv_aload_n hx hb dX5_undo_49 rfl (lv_at hl 1 rfl) ?_
          refine va_get (D := D) (ci := 5) (v := .int (nI ((v 0 0) - 1))) (C := RX5) (T := TX5) (N := 10) hx hb hts inX5_undo_X5 hown hK hP 0 rfl rfl 2 (by decide) (hts (.fieldLink RX5 30 "OddNoticeModel" "states" "I") (List.mem_of_getElem? (i := 2) (by decide +kernel))) (fun _ h9 => h9) rfl dX5_undo_50 ?_
          refine o_imul (a := 163) (b := ((v 0 0) - 1)) (k := (163 * ((v 0 0) - 1))) hx hb dX5_undo_53 rfl ?_
          refine lv_iload_n hx hb dX5_undo_54 rfl (lv_at hl 0 rfl) ?_
          refine o_iadd (a := (163 * ((v 0 0) - 1))) (b := i) (k := (163 * ((v 0 0) - 1) + i)) hx hb dX5_undo_55 rfl ?_
          refine o_iald (v := nI (v 2 (163 * ((v 0 0) - 1) + i))) hx hb hK hP 2 0 rfl rfl (by omega) (Nat.le_of_ble_eq_true rfl) rfl dX5_undo_56 ?_
          refine o_iast (g := (m_get (v 1) (v 2) (v 0 0 - 1) i)) hx hb hK hP hD hS 1 0 rfl rfl (by omega) (Nat.le_of_ble_eq_true rfl) dX5_undo_57 (fun H locs hP hD hS => ?_)
          have hP : va_P D vwCl (wM q cI (va_up (va_up v 0 (va_up (va_up (v 0) 0 ((v 0 0) - 1)) 2 0)) 1 (va_up (m_get (v 1) (v 2) (v 0 0 - 1) i) i (v 2 (163 * ((v 0 0) - 1) + i))))) H := hP
          have hD : va_D A (wM q cI (va_up (va_up v 0 (va_up (va_up (v 0) 0 ((v 0 0) - 1)) 2 0)) 1 (va_up (m_get (v 1) (v 2) (v 0 0 - 1) i) i (v 2 (163 * ((v 0 0) - 1) + i))))) := hD
          refine lv_iinc (v := nI (i + 1)) (lv' := [(1, .int (nI (i + 1))), (0, .ref (q 0))]) hx hb dX5_undo_58 hl (k := 0) rfl (o_inc1 _) (by decide) rfl (fun ls hl => ?_)
          refine lv_goto (tgt := 30) hx hb dX5_undo_61 (by decide) ?_
          have w_4 : (wM q cI (va_up (va_up v 0 (va_up (va_up (v 0) 0 ((v 0 0) - 1)) 2 0)) 1 (va_up (m_get (v 1) (v 2) (v 0 0 - 1) i) i (v 2 (163 * ((v 0 0) - 1) + i))))) = (wM q cI (va_up (va_up v 0 (va_up (va_up (v 0) 0 ((v 0 0) - 1)) 2 0)) 1 (m_get (v 1) (v 2) (v 0 0 - 1) (i + 1)))) := by rw [m_get_s]
          rw [w_4] at hP hD
          exact ih_1  (i + 1) (by omega) (by omega) _ _ hP hD hS ls (lv_sub hl [0, 1] rfl)
    have w_5 : (wM q cI (va_up v 0 (va_up (va_up (v 0) 0 ((v 0 0) - 1)) 2 0))) = (wM q cI (va_up (va_up v 0 (va_up (va_up (v 0) 0 ((v 0 0) - 1)) 2 0)) 1 (m_get (v 1) (v 2) (v 0 0 - 1) 0))) := by rw [m_get_0]; first | done | rfl
    rw [w_5] at hP hD
    exact lp_1 _ 0 (by omega) (Nat.lt_succ_self _) _ _ hP hD hS ls (lv_sub hl [0, 1] rfl)
  · skip
    refine lv_aload_n hx hb dX5_undo_12 rfl (lv_at hl 0 rfl) ?_
    refine o_const (k := 1) hx hb dX5_undo_13 (by decide) ?_
    refine o_wi (va_runV (As := [.int (nI 1)]) (rest := []) ⟨hx, hb, hml, hown, hts⟩ (k_X5_fails l D cI cR cS cL H.size q (va_up v 0 (va_up (v 0) 2 0)) 1 ) (cwV 1 hts gX5_undo_X5_fails rfl rfl rfl (by decide +kernel) ⟨Nat.le_of_ble_eq_true rfl, Nat.le_of_ble_eq_true rfl⟩) (o_v (o_pB hK hN hP hD) (va_recv hK hP (ci := 5) (q0 := 0) rfl rfl)) rfl rfl hl.1 rfl (lv_room (Nat.le_of_ble_eq_true rfl)) dX5_undo_14 ⟨Nat.zero_le _, Nat.zero_le _⟩) hP hD hS hA [0, 1, 2, 3, 4] (by decide) rfl (fun _ => rfl) (fun r_7 _ H locs e_6 hP hD hS => ?_)
    have e_6 : r_7 = nI 0 := e_6
    subst e_6
    have hP : va_P D vwCl (wM q cI (va_up v 0 (va_up (v 0) 2 1))) H := hP
    have hD : va_D A (wM q cI (va_up v 0 (va_up (v 0) 2 1))) := hD
    have w_8 : (wM q cI (m_undo v)) = (wM q cI (va_up v 0 (va_up (v 0) 2 1))) := (by unfold m_undo; rw [if_pos (by omega)])
    rw [← w_8] at hP
    exact W.iret (v := nI 0) hx hb hrt (fun t ht hW => ⟨⟨_, (), rfl, (congrArg nI (Eq.symm (if_pos (by omega)))), by show va_P D vwCl _ t.heap; rw [ht]; exact hP⟩, hS.F ht⟩) hS.2.2 dX5_undo_17
