theorem inX5_field_X5 : ∀ w ∈ wsX50, w ∈ wsX5_field := by decide +kernel
set_option maxHeartbeats 4000000 in
set_option maxRecDepth 100000 in
theorem k_X5_field (l : Launch) (D : va_G) (cI cR cS cL : ClassId) (sz : Nat) (q : Nat → Nat) (v : Nat → Nat → Nat) (b : Nat) (f : Nat) (hI : m_I b (v 1)) (hb : b < 2 ^ 28) (hf : f < 2 ^ 32) : Met l yX5_field wsX5_field ({ frames := 2, cells := 0, slots := 0, locals := 42 }) (va_Pc [.ref (q 0), .int (nI f)] (o_B D (o_T cI cR cS cL) (wM q cI v) sz)) (va_Qi (fun rz (_ : Unit) => rz = nI (if f < 5 then v 1 (7 + f) else 0)) (fun (_ : Unit) t => va_P D vwCl (wM q cI (va_up v 0 (va_up (v 0) 2 (if f < 5 then 0 else 1)))) t.heap) (va_A (wM q cI v) sz)) 0 0 (va_A (wM q cI v) sz) := by
  refine Met.ofW (cc := cX5_field) (maxL := 2) (ret := (some .int)) (by decide) rfl ?_
  intro p e s m args below meth cd s₁ B hml hv
  obtain ⟨rfl, hsz, hP, hK, hD0, hN⟩ := hv
  have hx := B.exec
  have hb := B.bytes
  have hrt := B.returns
  have hts := atoms_spec (ws := wsX5_field) B.pre
  have hown : s.vm.findClass RX5 = some m.cls := findClass_of_methodNamed B.named
  have hlocks := B.notSynchronized
  subst hsz
  have hD := hD0.self (sz := s.heap.size)
  generalize hAe : va_A (wM q cI v) s.heap.size = A at hD ⊢
  have hA : ∀ q : Nat, s.heap.size ≤ q → A q := fun q h => by rw [← hAe]; exact Or.inr h
  have hS : va_S A s.heap s.heap [] := va_S.rf
  have hl := lv_entry ([.ref (q 0), .int (nI f)]) (n := 2) (Nat.le_of_ble_eq_true rfl)
  rw [lg_entry_eq]
  generalize (lg_sl ([.ref (q 0), .int (nI f)]) ++ List.replicate (2 - (lg_sl ([.ref (q 0), .int (nI f)])).length) Slot.unset).toArray = ls at hl ⊢
  have hl : lv_has ls 2 [(0, .ref (q 0)), (1, .int (nI f))] := hl
  have hIc := hI
  obtain ⟨⟨i1, hw, i3, i4, i5⟩, ⟨i6, i7, i8, i9, i10⟩, i11⟩ := hI
  refine lv_aload_n hx hb dX5_field_0 rfl (lv_at hl 0 rfl) ?_
  refine o_const (k := 0) hx hb dX5_field_1 (by decide) ?_
  refine va_put (D := D) (ci := 5) (v := .int (nI 0)) (ty := .int) (C := RX5) (T := TX5) (N := 10) hx hb hts inX5_field_X5 tyX5 tyX5_ok nmX5 hown hK hP hD hS 0 rfl rfl 5 (by decide) (hts (.fieldLink RX5 22 "OddNoticeModel" "thrown" "I") (List.mem_of_getElem? (i := 1) (by decide +kernel))) (fun _ h9 => h9) rfl (by decide +kernel) rfl rfl (Nat.le_of_ble_eq_true rfl) dX5_field_2 (fun H locs hP hD hS => ?_)
  have hP : va_P D vwCl (wM q cI (va_up v 0 (va_up (v 0) 2 0))) H := hP
  have hD : va_D A (wM q cI (va_up v 0 (va_up (v 0) 2 0))) := hD
  refine lv_iload_n hx hb dX5_field_5 rfl (lv_at hl 1 rfl) ?_
  refine o_ri (va_runS (As := [.int (nI f)]) (rest := []) ⟨hx, hb, hml, hown, hts⟩ (k_X5_isField l D cI cR cS cL f (by show f < 2 ^ 32; first | assumption | omega)) (va_cwS 1 hts gX5_field_X5_isField rfl rfl rfl (by decide +kernel) ⟨Nat.le_of_ble_eq_true rfl, Nat.le_of_ble_eq_true rfl⟩) (o_pR hK hN (hP.sub (ws' := []) [] rfl)) rfl rfl hl.1 rfl (lv_room (Nat.le_of_ble_eq_true rfl)) dX5_field_6 ⟨Nat.zero_le _, Nat.zero_le _⟩) (fun r_2 e_1 => ?_)
  have e_1 : r_2 = nI (bn (f < 5)) := e_1
  subst e_1
  refine o_ifz (tgt := 24) hx hb dX5_field_9 (by decide) (fun c_3 => ?_) (fun c_3 => ?_)
  · skip
    refine lv_aload_n hx hb dX5_field_24 rfl (lv_at hl 0 rfl) ?_
    refine o_const (k := 1) hx hb dX5_field_25 (by decide) ?_
    refine o_wi (va_runV (As := [.int (nI 1)]) (rest := []) ⟨hx, hb, hml, hown, hts⟩ (k_X5_fails l D cI cR cS cL H.size q (va_up v 0 (va_up (v 0) 2 0)) 1 ) (cwV 1 hts gX5_field_X5_fails rfl rfl rfl (by decide +kernel) ⟨Nat.le_of_ble_eq_true rfl, Nat.le_of_ble_eq_true rfl⟩) (o_v (o_pB hK hN hP hD) (va_recv hK hP (ci := 5) (q0 := 0) rfl rfl)) rfl rfl hl.1 rfl (lv_room (Nat.le_of_ble_eq_true rfl)) dX5_field_26 ⟨Nat.zero_le _, Nat.zero_le _⟩) hP hD hS hA [0, 1, 2, 3, 4] (by decide) rfl (fun _ => rfl) (fun r_5 _ H locs e_4 hP hD hS => ?_)
    have e_4 : r_5 = nI 0 := e_4
    subst e_4
    have hP : va_P D vwCl (wM q cI (va_up v 0 (va_up (v 0) 2 1))) H := hP
    have hD : va_D A (wM q cI (va_up v 0 (va_up (v 0) 2 1))) := hD
    have w_6 : (wM q cI (va_up v 0 (va_up (v 0) 2 (if f < 5 then 0 else 1)))) = (wM q cI (va_up v 0 (va_up (v 0) 2 1))) := (by rw [show (if f < 5 then 0 else 1) = 1 from by (repeat' split) <;> omega])
    rw [← w_6] at hP
    exact W.iret (v := nI 0) hx hb hrt (fun t ht hW => ⟨⟨_, (), rfl, (congrArg nI (by (repeat' split) <;> first | rfl | omega)), by show va_P D vwCl _ t.heap; rw [ht]; exact hP⟩, hS.F ht⟩) hS.2.2 dX5_field_29
  · skip
    refine lv_aload_n hx hb dX5_field_12 rfl (lv_at hl 0 rfl) ?_
    refine va_get (D := D) (ci := 5) (v := .ref (q 1)) (C := RX5) (T := TX5) (N := 10) hx hb hts inX5_field_X5 hown hK hP 0 rfl rfl 0 (by decide) (hts (.fieldLink RX5 7 "OddNoticeModel" "now" "[I") (List.mem_of_getElem? (i := 2) (by decide +kernel))) (fun _ h9 => h9) rfl dX5_field_13 ?_
    refine o_bipush (k := 7) hx hb dX5_field_16 (by decide) ?_
    refine lv_iload_n hx hb dX5_field_18 rfl (lv_at hl 1 rfl) ?_
    refine o_iadd (a := 7) (b := f) (k := (7 + f)) hx hb dX5_field_19 rfl ?_
    refine o_iald (v := nI (v 1 (7 + f))) hx hb hK hP 1 0 rfl rfl (by omega) (Nat.le_of_ble_eq_true rfl) rfl dX5_field_20 ?_
    refine lv_goto (tgt := 29) hx hb dX5_field_21 (by decide) ?_
    have w_7 : (wM q cI (va_up v 0 (va_up (v 0) 2 (if f < 5 then 0 else 1)))) = (wM q cI (va_up v 0 (va_up (v 0) 2 0))) := (by rw [show (if f < 5 then 0 else 1) = 0 from by (repeat' split) <;> omega])
    rw [← w_7] at hP
    exact W.iret (v := nI (v 1 (7 + f))) hx hb hrt (fun t ht hW => ⟨⟨_, (), rfl, (congrArg nI (by (repeat' split) <;> first | rfl | omega)), by show va_P D vwCl _ t.heap; rw [ht]; exact hP⟩, hS.F ht⟩) hS.2.2 dX5_field_29
theorem inX5_notice_X5 : ∀ w ∈ wsX50, w ∈ wsX5_notice := by decide +kernel
set_option maxHeartbeats 4000000 in
set_option maxRecDepth 100000 in
theorem k_X5_notice (l : Launch) (D : va_G) (cI cR cS cL : ClassId) (sz : Nat) (q : Nat → Nat) (v : Nat → Nat → Nat) (b : Nat) (n : Nat) (f : Nat) (hI : m_I b (v 1)) (hb : b < 2 ^ 28) (hn : n < 2 ^ 32) (hf : f < 2 ^ 32) : Met l yX5_notice wsX5_notice ({ frames := 2, cells := 0, slots := 0, locals := 43 }) (va_Pc [.ref (q 0), .int (nI n), .int (nI f)] (o_B D (o_T cI cR cS cL) (wM q cI v) sz)) (va_Qi (fun rz (_ : Unit) => rz = nI (if f < 5 then if n < 2147483648 then if n ≤ v 1 0 / 2 ∧ v 1 0 / 2 - n < 16 then v 1 (83 + 5 * (n % 16) + f) else 4294967295 else 0 else 0)) (fun (_ : Unit) t => va_P D vwCl (wM q cI (va_up v 0 (va_up (v 0) 2 (if f < 5 then if n < 2147483648 then 0 else 2 else 1)))) t.heap) (va_A (wM q cI v) sz)) 0 0 (va_A (wM q cI v) sz) := by
  refine Met.ofW (cc := cX5_notice) (maxL := 3) (ret := (some .int)) (by decide) rfl ?_
  intro p e s m args below meth cd s₁ B hml hv
  obtain ⟨rfl, hsz, hP, hK, hD0, hN⟩ := hv
  have hx := B.exec
  have hb := B.bytes
  have hrt := B.returns
  have hts := atoms_spec (ws := wsX5_notice) B.pre
  have hown : s.vm.findClass RX5 = some m.cls := findClass_of_methodNamed B.named
  have hlocks := B.notSynchronized
  subst hsz
  have hD := hD0.self (sz := s.heap.size)
  generalize hAe : va_A (wM q cI v) s.heap.size = A at hD ⊢
  have hA : ∀ q : Nat, s.heap.size ≤ q → A q := fun q h => by rw [← hAe]; exact Or.inr h
  have hS : va_S A s.heap s.heap [] := va_S.rf
  have hl := lv_entry ([.ref (q 0), .int (nI n), .int (nI f)]) (n := 3) (Nat.le_of_ble_eq_true rfl)
  rw [lg_entry_eq]
  generalize (lg_sl ([.ref (q 0), .int (nI n), .int (nI f)]) ++ List.replicate (3 - (lg_sl ([.ref (q 0), .int (nI n), .int (nI f)])).length) Slot.unset).toArray = ls at hl ⊢
  have hl : lv_has ls 3 [(0, .ref (q 0)), (1, .int (nI n)), (2, .int (nI f))] := hl
  have hIc := hI
  obtain ⟨⟨i1, hw, i3, i4, i5⟩, ⟨i6, i7, i8, i9, i10⟩, i11⟩ := hI
  refine lv_aload_n hx hb dX5_notice_0 rfl (lv_at hl 0 rfl) ?_
  refine o_const (k := 0) hx hb dX5_notice_1 (by decide) ?_
  refine va_put (D := D) (ci := 5) (v := .int (nI 0)) (ty := .int) (C := RX5) (T := TX5) (N := 10) hx hb hts inX5_notice_X5 tyX5 tyX5_ok nmX5 hown hK hP hD hS 0 rfl rfl 5 (by decide) (hts (.fieldLink RX5 22 "OddNoticeModel" "thrown" "I") (List.mem_of_getElem? (i := 1) (by decide +kernel))) (fun _ h9 => h9) rfl (by decide +kernel) rfl rfl (Nat.le_of_ble_eq_true rfl) dX5_notice_2 (fun H locs hP hD hS => ?_)
  have hP : va_P D vwCl (wM q cI (va_up v 0 (va_up (v 0) 2 0))) H := hP
  have hD : va_D A (wM q cI (va_up v 0 (va_up (v 0) 2 0))) := hD
  refine lv_iload_n hx hb dX5_notice_5 rfl (lv_at hl 2 rfl) ?_
  refine o_ri (va_runS (As := [.int (nI f)]) (rest := []) ⟨hx, hb, hml, hown, hts⟩ (k_X5_isField l D cI cR cS cL f (by show f < 2 ^ 32; first | assumption | omega)) (va_cwS 1 hts gX5_notice_X5_isField rfl rfl rfl (by decide +kernel) ⟨Nat.le_of_ble_eq_true rfl, Nat.le_of_ble_eq_true rfl⟩) (o_pR hK hN (hP.sub (ws' := []) [] rfl)) rfl rfl hl.1 rfl (lv_room (Nat.le_of_ble_eq_true rfl)) dX5_notice_6 ⟨Nat.zero_le _, Nat.zero_le _⟩) (fun r_2 e_1 => ?_)
  have e_1 : r_2 = nI (bn (f < 5)) := e_1
  subst e_1
  refine o_ifnz (tgt := 18) hx hb dX5_notice_9 (by decide) (fun c_3 => ?_) (fun c_3 => ?_)
  · skip
    refine lv_iload_n hx hb dX5_notice_18 rfl (lv_at hl 1 rfl) ?_
    refine o_if_ge_s (tgt := 28) hx hb dX5_notice_19 (by decide) (by omega) (fun c_4 => ?_) (fun c_4 => ?_)
    · skip
      refine lv_aload_n hx hb dX5_notice_28 rfl (lv_at hl 0 rfl) ?_
      refine lv_iload_n hx hb dX5_notice_29 rfl (lv_at hl 1 rfl) ?_
      refine o_ri (va_runV (As := [.int (nI n)]) (rest := []) ⟨hx, hb, hml, hown, hts⟩ (k_X5_isKept l D cI cR cS cL q (va_up v 0 (va_up (v 0) 2 0)) n (by show v 1 0 < 2 ^ 30; first | assumption | omega) (by show n < 2 ^ 32; first | assumption | omega)) (cwV 1 hts gX5_notice_X5_isKept rfl rfl rfl (by decide +kernel) ⟨Nat.le_of_ble_eq_true rfl, Nat.le_of_ble_eq_true rfl⟩) (o_v (o_pR hK hN hP) (va_recv hK hP (ci := 5) (q0 := 0) rfl rfl)) rfl rfl hl.1 rfl (lv_room (Nat.le_of_ble_eq_true rfl)) dX5_notice_30 ⟨Nat.zero_le _, Nat.zero_le _⟩) (fun r_6 e_5 => ?_)
      have e_5 : r_6 = nI (bn (n ≤ v 1 0 / 2 ∧ v 1 0 / 2 - n < 16)) := e_5
      subst e_5
      refine o_ifz (tgt := 55) hx hb dX5_notice_33 (by decide) (fun c_7 => ?_) (fun c_7 => ?_)
      · skip
        refine o_const (k := 4294967295) hx hb dX5_notice_55 (by decide) ?_
        have w_8 : (wM q cI (va_up v 0 (va_up (v 0) 2 (if f < 5 then if n < 2147483648 then 0 else 2 else 1)))) = (wM q cI (va_up v 0 (va_up (v 0) 2 0))) := (by rw [show (if f < 5 then if n < 2147483648 then 0 else 2 else 1) = 0 from by (repeat' split) <;> omega])
        rw [← w_8] at hP
        exact W.iret (v := nI 4294967295) hx hb hrt (fun t ht hW => ⟨⟨_, (), rfl, (congrArg nI (by (repeat' split) <;> first | rfl | omega)), by show va_P D vwCl _ t.heap; rw [ht]; exact hP⟩, hS.F ht⟩) hS.2.2 dX5_notice_56
      · skip
        refine lv_aload_n hx hb dX5_notice_36 rfl (lv_at hl 0 rfl) ?_
        refine va_get (D := D) (ci := 5) (v := .ref (q 1)) (C := RX5) (T := TX5) (N := 10) hx hb hts inX5_notice_X5 hown hK hP 0 rfl rfl 0 (by decide) (hts (.fieldLink RX5 7 "OddNoticeModel" "now" "[I") (List.mem_of_getElem? (i := 2) (by decide +kernel))) (fun _ h9 => h9) rfl dX5_notice_37 ?_
        refine o_bipush (k := 83) hx hb dX5_notice_40 (by decide) ?_
        refine o_const (k := 5) hx hb dX5_notice_42 (by decide) ?_
        refine lv_iload_n hx hb dX5_notice_43 rfl (lv_at hl 1 rfl) ?_
        refine o_bipush (k := 16) hx hb dX5_notice_44 (by decide) ?_
        refine o_irem (a := n) (b := 16) (k := (n % 16)) hx hb dX5_notice_46 (by omega) (by decide) (Nat.le_of_ble_eq_true rfl) rfl ?_
        refine o_imul (a := 5) (b := (n % 16)) (k := (5 * (n % 16))) hx hb dX5_notice_47 rfl ?_
        refine o_iadd (a := 83) (b := (5 * (n % 16))) (k := (83 + 5 * (n % 16))) hx hb dX5_notice_48 rfl ?_
        refine lv_iload_n hx hb dX5_notice_49 rfl (lv_at hl 2 rfl) ?_
        refine o_iadd (a := (83 + 5 * (n % 16))) (b := f) (k := (83 + 5 * (n % 16) + f)) hx hb dX5_notice_50 rfl ?_
        refine o_iald (v := nI (v 1 (83 + 5 * (n % 16) + f))) hx hb hK hP 1 0 rfl rfl (by omega) (Nat.le_of_ble_eq_true rfl) rfl dX5_notice_51 ?_
        refine lv_goto (tgt := 56) hx hb dX5_notice_52 (by decide) ?_
        have w_9 : (wM q cI (va_up v 0 (va_up (v 0) 2 (if f < 5 then if n < 2147483648 then 0 else 2 else 1)))) = (wM q cI (va_up v 0 (va_up (v 0) 2 0))) := (by rw [show (if f < 5 then if n < 2147483648 then 0 else 2 else 1) = 0 from by (repeat' split) <;> omega])
        rw [← w_9] at hP
        exact W.iret (v := nI (v 1 (83 + 5 * (n % 16) + f))) hx hb hrt (fun t ht hW => ⟨⟨_, (), rfl, (congrArg nI (by (repeat' split) <;> first | rfl | omega)), by show va_P D vwCl _ t.heap; rw [ht]; exact hP⟩, hS.F ht⟩) hS.2.2 dX5_notice_56
    · skip
      refine lv_aload_n hx hb dX5_notice_22 rfl (lv_at hl 0 rfl) ?_
      refine o_const (k := 2) hx hb dX5_notice_23 (by decide) ?_
      refine o_wi (va_runV (As := [.int (nI 2)]) (rest := []) ⟨hx, hb, hml, hown, hts⟩ (k_X5_fails l D cI cR cS cL H.size q (va_up v 0 (va_up (v 0) 2 0)) 2 ) (cwV 1 hts gX5_notice_X5_fails rfl rfl rfl (by decide +kernel) ⟨Nat.le_of_ble_eq_true rfl, Nat.le_of_ble_eq_true rfl⟩) (o_v (o_pB hK hN hP hD) (va_recv hK hP (ci := 5) (q0 := 0) rfl rfl)) rfl rfl hl.1 rfl (lv_room (Nat.le_of_ble_eq_true rfl)) dX5_notice_24 ⟨Nat.zero_le _, Nat.zero_le _⟩) hP hD hS hA [0, 1, 2, 3, 4] (by decide) rfl (fun _ => rfl) (fun r_11 _ H locs e_10 hP hD hS => ?_)
      have e_10 : r_11 = nI 0 := e_10
      subst e_10
      have hP : va_P D vwCl (wM q cI (va_up v 0 (va_up (v 0) 2 2))) H := hP
      have hD : va_D A (wM q cI (va_up v 0 (va_up (v 0) 2 2))) := hD
      have w_12 : (wM q cI (va_up v 0 (va_up (v 0) 2 (if f < 5 then if n < 2147483648 then 0 else 2 else 1)))) = (wM q cI (va_up v 0 (va_up (v 0) 2 2))) := (by rw [show (if f < 5 then if n < 2147483648 then 0 else 2 else 1) = 2 from by (repeat' split) <;> omega])
      rw [← w_12] at hP
      exact W.iret (v := nI 0) hx hb hrt (fun t ht hW => ⟨⟨_, (), rfl, (congrArg nI (by (repeat' split) <;> first | rfl | omega)), by show va_P D vwCl _ t.heap; rw [ht]; exact hP⟩, hS.F ht⟩) hS.2.2 dX5_notice_27
  · skip
    refine lv_aload_n hx hb dX5_notice_12 rfl (lv_at hl 0 rfl) ?_
    refine o_const (k := 1) hx hb dX5_notice_13 (by decide) ?_
    refine o_wi (va_runV (As := [.int (nI 1)]) (rest := []) ⟨hx, hb, hml, hown, hts⟩ (k_X5_fails l D cI cR cS cL H.size q (va_up v 0 (va_up (v 0) 2 0)) 1 ) (cwV 1 hts gX5_notice_X5_fails rfl rfl rfl (by decide +kernel) ⟨Nat.le_of_ble_eq_true rfl, Nat.le_of_ble_eq_true rfl⟩) (o_v (o_pB hK hN hP hD) (va_recv hK hP (ci := 5) (q0 := 0) rfl rfl)) rfl rfl hl.1 rfl (lv_room (Nat.le_of_ble_eq_true rfl)) dX5_notice_14 ⟨Nat.zero_le _, Nat.zero_le _⟩) hP hD hS hA [0, 1, 2, 3, 4] (by decide) rfl (fun _ => rfl) (fun r_14 _ H locs e_13 hP hD hS => ?_)
    have e_13 : r_14 = nI 0 := e_13
    subst e_13
    have hP : va_P D vwCl (wM q cI (va_up v 0 (va_up (v 0) 2 1))) H := hP
    have hD : va_D A (wM q cI (va_up v 0 (va_up (v 0) 2 1))) := hD
    have w_15 : (wM q cI (va_up v 0 (va_up (v 0) 2 (if f < 5 then if n < 2147483648 then 0 else 2 else 1)))) = (wM q cI (va_up v 0 (va_up (v 0) 2 1))) := (by rw [show (if f < 5 then if n < 2147483648 then 0 else 2 else 1) = 1 from by (repeat' split) <;> omega])
    rw [← w_15] at hP
    exact W.iret (v := nI 0) hx hb hrt (fun t ht hW => ⟨⟨_, (), rfl, (congrArg nI (by (repeat' split) <;> first | rfl | omega)), by show va_P D vwCl _ t.heap; rw [ht]; exact hP⟩, hS.F ht⟩) hS.2.2 dX5_notice_17
theorem inX5_ofClerk_X5 : ∀ w ∈ wsX50, w ∈ wsX5_ofClerk := by decide +kernel
set_option maxHeartbeats 4000000 in
set_option maxRecDepth 100000 in
theorem k_X5_ofClerk (l : Launch) (D : va_G) (cI cR cS cL : ClassId) (q : Nat → Nat) (v : Nat → Nat → Nat) (b : Nat) (c : Nat) (k : Nat) (hI : m_I b (v 1)) (hb : b < 2 ^ 28) (hc : c < 3) (hk : k < 2 ^ 31) : Met l yX5_ofClerk wsX5_ofClerk ({ frames := 1, cells := 0, slots := 0, locals := 22 }) (va_Pc [.ref (q 0), .int (nI c), .int (nI k)] (o_R D (o_T cI cR cS cL) (wM q cI v))) (vp_Si (fun rz => rz = nI (m_ofc (v 1) c k))) 0 0 (fun _ => False) := by
  refine Met.ofW (cc := cX5_ofClerk) (maxL := 4) (ret := (some .int)) (by decide) rfl ?_
  intro p e s m args below meth cd s₁ B hml hv
  obtain ⟨rfl, hP, hK, hN⟩ := hv
  have hx := B.exec
  have hb := B.bytes
  have hrt := B.returns
  have hts := atoms_spec (ws := wsX5_ofClerk) B.pre
  have hown : s.vm.findClass RX5 = some m.cls := findClass_of_methodNamed B.named
  have hlocks := B.notSynchronized
  have hl := lv_entry ([.ref (q 0), .int (nI c), .int (nI k)]) (n := 4) (Nat.le_of_ble_eq_true rfl)
  rw [lg_entry_eq]
  generalize (lg_sl ([.ref (q 0), .int (nI c), .int (nI k)]) ++ List.replicate (4 - (lg_sl ([.ref (q 0), .int (nI c), .int (nI k)])).length) Slot.unset).toArray = ls at hl ⊢
  have hl : lv_has ls 4 [(0, .ref (q 0)), (1, .int (nI c)), (2, .int (nI k))] := hl
  have hIc := hI
  obtain ⟨⟨i1, hw, i3, i4, i5⟩, ⟨i6, i7, i8, i9, i10⟩, i11⟩ := hI
  refine lv_aload_n hx hb dX5_ofClerk_0 rfl (lv_at hl 0 rfl) ?_
  refine lv_iload_n hx hb dX5_ofClerk_1 rfl (lv_at hl 1 rfl) ?_
  refine o_ri (va_runV (As := [.int (nI c)]) (rest := []) ⟨hx, hb, hml, hown, hts⟩ (k_X5_mode l D cI cR cS cL q v c (by show c < 3; first | assumption | omega) (by show ∀ k, v 1 k < 2 ^ 32; first | assumption | omega) (by show v 1 4 < 2 ^ 31; first | assumption | omega)) (cwV 1 hts gX5_ofClerk_X5_mode rfl rfl rfl (by decide +kernel) ⟨Nat.le_of_ble_eq_true rfl, Nat.le_of_ble_eq_true rfl⟩) (o_v (o_pR hK hN hP) (va_recv hK hP (ci := 5) (q0 := 0) rfl rfl)) rfl rfl hl.1 rfl (lv_room (Nat.le_of_ble_eq_true rfl)) dX5_ofClerk_2 ⟨Nat.zero_le _, Nat.zero_le _⟩) (fun r_2 e_1 => ?_)
  have e_1 : r_2 = nI (m_mode (v 1) c) := e_1
  subst e_1
  have gv_3 := m_mode_le (v 1) c
  refine lv_istore_n (lv' := [(3, .int (nI (m_mode (v 1) c))), (0, .ref (q 0)), (1, .int (nI c)), (2, .int (nI k))]) hx hb dX5_ofClerk_5 rfl hl (by decide) rfl (fun ls hl => ?_)
  refine lv_iload_n hx hb dX5_ofClerk_6 rfl (lv_at hl 3 rfl) ?_
  refine o_if_ne (tgt := 14) hx hb dX5_ofClerk_7 (by decide) (by omega) (fun c_4 => ?_) (fun c_4 => ?_)
  · skip
    refine lv_iload_n hx hb dX5_ofClerk_14 rfl (lv_at hl 3 rfl) ?_
    refine o_const (k := 1) hx hb dX5_ofClerk_15 (by decide) ?_
    refine o_icmp_ne (tgt := 46) hx hb dX5_ofClerk_16 (by decide) (by omega) (Nat.le_of_ble_eq_true rfl) (fun c_5 => ?_) (fun c_5 => ?_)
    · skip
      refine lv_aload_n hx hb dX5_ofClerk_46 rfl (lv_at hl 1 rfl) ?_
      refine va_get (D := D) (ci := 5) (v := .ref (q 1)) (C := RX5) (T := TX5) (N := 10) hx hb hts inX5_ofClerk_X5 hown hK hP 0 rfl rfl 0 (by decide) (hts (.fieldLink RX5 7 "OddNoticeModel" "now" "[I") (List.mem_of_getElem? (i := 1) (by decide +kernel))) (fun _ h9 => h9) rfl dX5_ofClerk_47 ?_
      refine o_bipush (k := 12) hx hb dX5_ofClerk_50 (by decide) ?_
      refine lv_iload_n hx hb dX5_ofClerk_52 rfl (lv_at hl 2 rfl) ?_
      refine o_iadd (a := 12) (b := c) (k := (12 + c)) hx hb dX5_ofClerk_53 rfl ?_
      refine o_iald (v := nI (v 1 (12 + c))) hx hb hK hP 1 0 rfl rfl (by omega) (Nat.le_of_ble_eq_true rfl) rfl dX5_ofClerk_54 ?_
      have f_6 := hw (12 + c)
      exact W.iret (v := nI (v 1 (12 + c))) hx hb hrt (fun t ht hW => ⟨_, rfl, (congrArg nI (by unfold m_ofc; (repeat' split) <;> omega)), ht⟩) (fun _ h => nomatch h) dX5_ofClerk_55
    · skip
      refine lv_iload_n hx hb dX5_ofClerk_19 rfl (lv_at hl 0 rfl) ?_
      refine o_const (k := 2) hx hb dX5_ofClerk_20 (by decide) ?_
      refine o_icmp_ne (tgt := 42) hx hb dX5_ofClerk_21 (by decide) (by omega) (Nat.le_of_ble_eq_true rfl) (fun c_7 => ?_) (fun c_7 => ?_)
      · skip
        refine o_const (k := 4294967295) hx hb dX5_ofClerk_42 (by decide) ?_
        refine lv_goto (tgt := 55) hx hb dX5_ofClerk_43 (by decide) ?_
        exact W.iret (v := nI 4294967295) hx hb hrt (fun t ht hW => ⟨_, rfl, (congrArg nI (by unfold m_ofc; (repeat' split) <;> omega)), ht⟩) (fun _ h => nomatch h) dX5_ofClerk_55
      · skip
        refine lv_aload_n hx hb dX5_ofClerk_24 rfl (lv_at hl 1 rfl) ?_
        refine va_get (D := D) (ci := 5) (v := .ref (q 1)) (C := RX5) (T := TX5) (N := 10) hx hb hts inX5_ofClerk_X5 hown hK hP 0 rfl rfl 0 (by decide) (hts (.fieldLink RX5 7 "OddNoticeModel" "now" "[I") (List.mem_of_getElem? (i := 1) (by decide +kernel))) (fun _ h9 => h9) rfl dX5_ofClerk_25 ?_
        refine o_const (k := 5) hx hb dX5_ofClerk_28 (by decide) ?_
        refine o_iald (v := nI (v 1 5)) hx hb hK hP 1 0 rfl rfl (Nat.le_of_ble_eq_true rfl) (Nat.le_of_ble_eq_true rfl) rfl dX5_ofClerk_29 ?_
        have f_8 := hw 5
        refine lv_iload_n hx hb dX5_ofClerk_30 rfl (lv_at hl 2 rfl) ?_
        refine o_icmp_ne (tgt := 38) hx hb dX5_ofClerk_31 (by decide) (by omega) (by omega) (fun c_9 => ?_) (fun c_9 => ?_)
        · skip
          refine o_const (k := 1) hx hb dX5_ofClerk_38 (by decide) ?_
          refine lv_goto (tgt := 55) hx hb dX5_ofClerk_39 (by decide) ?_
          exact W.iret (v := nI 1) hx hb hrt (fun t ht hW => ⟨_, rfl, (congrArg nI (by unfold m_ofc; (repeat' split) <;> omega)), ht⟩) (fun _ h => nomatch h) dX5_ofClerk_55
        · skip
          refine o_const (k := 0) hx hb dX5_ofClerk_34 (by decide) ?_
          refine lv_goto (tgt := 55) hx hb dX5_ofClerk_35 (by decide) ?_
          exact W.iret (v := nI 0) hx hb hrt (fun t ht hW => ⟨_, rfl, (congrArg nI (by unfold m_ofc; (repeat' split) <;> omega)), ht⟩) (fun _ h => nomatch h) dX5_ofClerk_55
  · skip
    refine lv_iload_n hx hb dX5_ofClerk_10 rfl (lv_at hl 0 rfl) ?_
    refine lv_goto (tgt := 55) hx hb dX5_ofClerk_11 (by decide) ?_
    exact W.iret (v := nI (m_mode (v 1) c)) hx hb hrt (fun t ht hW => ⟨_, rfl, (congrArg nI (by unfold m_ofc; (repeat' split) <;> omega)), ht⟩) (fun _ h => nomatch h) dX5_ofClerk_55
theorem inX5_clerk_X5 : ∀ w ∈ wsX50, w ∈ wsX5_clerk := by decide +kernel
set_option maxHeartbeats 4000000 in
set_option maxRecDepth 100000 in
theorem k_X5_clerk (l : Launch) (D : va_G) (cI cR cS cL : ClassId) (sz : Nat) (q : Nat → Nat) (v : Nat → Nat → Nat) (b : Nat) (c : Nat) (k : Nat) (hI : m_I b (v 1)) (hb : b < 2 ^ 28) (hc : c < 2 ^ 32) (hk : k < 2 ^ 32) : Met l yX5_clerk wsX5_clerk ({ frames := 2, cells := 0, slots := 0, locals := 45 }) (va_Pc [.ref (q 0), .int (nI c), .int (nI k)] (o_B D (o_T cI cR cS cL) (wM q cI v) sz)) (va_Qi (fun rz (_ : Unit) => rz = nI (if c < 3 then if k < 3 then m_ofc (v 1) c k else 0 else 0)) (fun (_ : Unit) t => va_P D vwCl (wM q cI (va_up v 0 (va_up (v 0) 2 (if c < 3 then if k < 3 then 0 else 2 else 1)))) t.heap) (va_A (wM q cI v) sz)) 0 0 (va_A (wM q cI v) sz) := by
  refine Met.ofW (cc := cX5_clerk) (maxL := 3) (ret := (some .int)) (by decide) rfl ?_
  intro p e s m args below meth cd s₁ B hml hv
  obtain ⟨rfl, hsz, hP, hK, hD0, hN⟩ := hv
  have hx := B.exec
  have hb := B.bytes
  have hrt := B.returns
  have hts := atoms_spec (ws := wsX5_clerk) B.pre
  have hown : s.vm.findClass RX5 = some m.cls := findClass_of_methodNamed B.named
  have hlocks := B.notSynchronized
  subst hsz
  have hD := hD0.self (sz := s.heap.size)
  generalize hAe : va_A (wM q cI v) s.heap.size = A at hD ⊢
  have hA : ∀ q : Nat, s.heap.size ≤ q → A q := fun q h => by rw [← hAe]; exact Or.inr h
  have hS : va_S A s.heap s.heap [] := va_S.rf
  have hl := lv_entry ([.ref (q 0), .int (nI c), .int (nI k)]) (n := 3) (Nat.le_of_ble_eq_true rfl)
  rw [lg_entry_eq]
  generalize (lg_sl ([.ref (q 0), .int (nI c), .int (nI k)]) ++ List.replicate (3 - (lg_sl ([.ref (q 0), .int (nI c), .int (nI k)])).length) Slot.unset).toArray = ls at hl ⊢
  have hl : lv_has ls 3 [(0, .ref (q 0)), (1, .int (nI c)), (2, .int (nI k))] := hl
  have hIc := hI
  obtain ⟨⟨i1, hw, i3, i4, i5⟩, ⟨i6, i7, i8, i9, i10⟩, i11⟩ := hI
  refine lv_aload_n hx hb dX5_clerk_0 rfl (lv_at hl 0 rfl) ?_
  refine o_const (k := 0) hx hb dX5_clerk_1 (by decide) ?_
  refine va_put (D := D) (ci := 5) (v := .int (nI 0)) (ty := .int) (C := RX5) (T := TX5) (N := 10) hx hb hts inX5_clerk_X5 tyX5 tyX5_ok nmX5 hown hK hP hD hS 0 rfl rfl 5 (by decide) (hts (.fieldLink RX5 22 "OddNoticeModel" "thrown" "I") (List.mem_of_getElem? (i := 1) (by decide +kernel))) (fun _ h9 => h9) rfl (by decide +kernel) rfl rfl (Nat.le_of_ble_eq_true rfl) dX5_clerk_2 (fun H locs hP hD hS => ?_)
  have hP : va_P D vwCl (wM q cI (va_up v 0 (va_up (v 0) 2 0))) H := hP
  have hD : va_D A (wM q cI (va_up v 0 (va_up (v 0) 2 0))) := hD
  refine lv_iload_n hx hb dX5_clerk_5 rfl (lv_at hl 1 rfl) ?_
  refine o_ri (va_runS (As := [.int (nI c)]) (rest := []) ⟨hx, hb, hml, hown, hts⟩ (k_X5_isClerk l D cI cR cS cL c (by show c < 2 ^ 32; first | assumption | omega)) (va_cwS 1 hts gX5_clerk_X5_isClerk rfl rfl rfl (by decide +kernel) ⟨Nat.le_of_ble_eq_true rfl, Nat.le_of_ble_eq_true rfl⟩) (o_pR hK hN (hP.sub (ws' := []) [] rfl)) rfl rfl hl.1 rfl (lv_room (Nat.le_of_ble_eq_true rfl)) dX5_clerk_6 ⟨Nat.zero_le _, Nat.zero_le _⟩) (fun r_2 e_1 => ?_)
  have e_1 : r_2 = nI (bn (c < 3)) := e_1
  subst e_1
  refine o_ifnz (tgt := 18) hx hb dX5_clerk_9 (by decide) (fun c_3 => ?_) (fun c_3 => ?_)
  · skip
    refine lv_iload_n hx hb dX5_clerk_18 rfl (lv_at hl 2 rfl) ?_
    refine o_const (k := 0) hx hb dX5_clerk_19 (by decide) ?_
    refine o_const (k := 2) hx hb dX5_clerk_20 (by decide) ?_
    refine o_ri (va_runS (As := [.int (nI k), .int (nI 0), .int (nI 2)]) (rest := []) ⟨hx, hb, hml, hown, hts⟩ (k_X5_in l D cI cR cS cL k 0 2 (by show k < 2 ^ 32; first | assumption | omega) (by show 0 < 2 ^ 31; first | assumption | omega) (by show 2 < 2 ^ 31; first | assumption | omega)) (va_cwS 3 hts gX5_clerk_X5_in rfl rfl rfl (by decide +kernel) ⟨Nat.le_of_ble_eq_true rfl, Nat.le_of_ble_eq_true rfl⟩) (o_pR hK hN (hP.sub (ws' := []) [] rfl)) rfl rfl hl.1 rfl (lv_room (Nat.le_of_ble_eq_true rfl)) dX5_clerk_21 ⟨Nat.zero_le _, Nat.zero_le _⟩) (fun r_5 e_4 => ?_)
    have e_4 : r_5 = nI (bn (0 ≤ k ∧ k ≤ 2)) := e_4
    subst e_4
    refine o_ifz (tgt := 36) hx hb dX5_clerk_24 (by decide) (fun c_6 => ?_) (fun c_6 => ?_)
    · skip
      refine lv_aload_n hx hb dX5_clerk_36 rfl (lv_at hl 0 rfl) ?_
      refine o_const (k := 2) hx hb dX5_clerk_37 (by decide) ?_
      refine o_wi (va_runV (As := [.int (nI 2)]) (rest := []) ⟨hx, hb, hml, hown, hts⟩ (k_X5_fails l D cI cR cS cL H.size q (va_up v 0 (va_up (v 0) 2 0)) 2 ) (cwV 1 hts gX5_clerk_X5_fails rfl rfl rfl (by decide +kernel) ⟨Nat.le_of_ble_eq_true rfl, Nat.le_of_ble_eq_true rfl⟩) (o_v (o_pB hK hN hP hD) (va_recv hK hP (ci := 5) (q0 := 0) rfl rfl)) rfl rfl hl.1 rfl (lv_room (Nat.le_of_ble_eq_true rfl)) dX5_clerk_38 ⟨Nat.zero_le _, Nat.zero_le _⟩) hP hD hS hA [0, 1, 2, 3, 4] (by decide) rfl (fun _ => rfl) (fun r_8 _ H locs e_7 hP hD hS => ?_)
      have e_7 : r_8 = nI 0 := e_7
      subst e_7
      have hP : va_P D vwCl (wM q cI (va_up v 0 (va_up (v 0) 2 2))) H := hP
      have hD : va_D A (wM q cI (va_up v 0 (va_up (v 0) 2 2))) := hD
      have w_9 : (wM q cI (va_up v 0 (va_up (v 0) 2 (if c < 3 then if k < 3 then 0 else 2 else 1)))) = (wM q cI (va_up v 0 (va_up (v 0) 2 2))) := (by rw [show (if c < 3 then if k < 3 then 0 else 2 else 1) = 2 from by (repeat' split) <;> omega])
      rw [← w_9] at hP
      exact W.iret (v := nI 0) hx hb hrt (fun t ht hW => ⟨⟨_, (), rfl, (congrArg nI (by (repeat' split) <;> first | rfl | omega)), by show va_P D vwCl _ t.heap; rw [ht]; exact hP⟩, hS.F ht⟩) hS.2.2 dX5_clerk_41
    · skip
      refine lv_aload_n hx hb dX5_clerk_27 rfl (lv_at hl 0 rfl) ?_
      refine lv_iload_n hx hb dX5_clerk_28 rfl (lv_at hl 1 rfl) ?_
      refine lv_iload_n hx hb dX5_clerk_29 rfl (lv_at hl 2 rfl) ?_
      refine o_ri (va_runV (As := [.int (nI c), .int (nI k)]) (rest := []) ⟨hx, hb, hml, hown, hts⟩ (k_X5_ofClerk l D cI cR cS cL q (va_up v 0 (va_up (v 0) 2 0)) b c k (hIc) (by show b < 2 ^ 28; first | assumption | omega) (by show c < 3; first | assumption | omega) (by show k < 2 ^ 31; first | assumption | omega)) (cwV 2 hts gX5_clerk_X5_ofClerk rfl rfl rfl (by decide +kernel) ⟨Nat.le_of_ble_eq_true rfl, Nat.le_of_ble_eq_true rfl⟩) (o_v (o_pR hK hN hP) (va_recv hK hP (ci := 5) (q0 := 0) rfl rfl)) rfl rfl hl.1 rfl (lv_room (Nat.le_of_ble_eq_true rfl)) dX5_clerk_30 ⟨Nat.zero_le _, Nat.zero_le _⟩) (fun r_11 e_10 => ?_)
      have e_10 : r_11 = nI (m_ofc (v 1) c k) := e_10
      subst e_10
      refine lv_goto (tgt := 41) hx hb dX5_clerk_33 (by decide) ?_
      have w_12 : (wM q cI (va_up v 0 (va_up (v 0) 2 (if c < 3 then if k < 3 then 0 else 2 else 1)))) = (wM q cI (va_up v 0 (va_up (v 0) 2 0))) := (by rw [show (if c < 3 then if k < 3 then 0 else 2 else 1) = 0 from by (repeat' split) <;> omega])
      rw [← w_12] at hP
      exact W.iret (v := nI (m_ofc (v 1) c k)) hx hb hrt (fun t ht hW => ⟨⟨_, (), rfl, (congrArg nI (by (repeat' split) <;> first | rfl | omega)), by show va_P D vwCl _ t.heap; rw [ht]; exact hP⟩, hS.F ht⟩) hS.2.2 dX5_clerk_41
  · skip
    refine lv_aload_n hx hb dX5_clerk_12 rfl (lv_at hl 0 rfl) ?_
    refine o_const (k := 1) hx hb dX5_clerk_13 (by decide) ?_
    refine o_wi (va_runV (As := [.int (nI 1)]) (rest := []) ⟨hx, hb, hml, hown, hts⟩ (k_X5_fails l D cI cR cS cL H.size q (va_up v 0 (va_up (v 0) 2 0)) 1 ) (cwV 1 hts gX5_clerk_X5_fails rfl rfl rfl (by decide +kernel) ⟨Nat.le_of_ble_eq_true rfl, Nat.le_of_ble_eq_true rfl⟩) (o_v (o_pB hK hN hP hD) (va_recv hK hP (ci := 5) (q0 := 0) rfl rfl)) rfl rfl hl.1 rfl (lv_room (Nat.le_of_ble_eq_true rfl)) dX5_clerk_14 ⟨Nat.zero_le _, Nat.zero_le _⟩) hP hD hS hA [0, 1, 2, 3, 4] (by decide) rfl (fun _ => rfl) (fun r_14 _ H locs e_13 hP hD hS => ?_)
    have e_13 : r_14 = nI 0 := e_13
    subst e_13
    have hP : va_P D vwCl (wM q cI (va_up v 0 (va_up (v 0) 2 1))) H := hP
    have hD : va_D A (wM q cI (va_up v 0 (va_up (v 0) 2 1))) := hD
    have w_15 : (wM q cI (va_up v 0 (va_up (v 0) 2 (if c < 3 then if k < 3 then 0 else 2 else 1)))) = (wM q cI (va_up v 0 (va_up (v 0) 2 1))) := (by rw [show (if c < 3 then if k < 3 then 0 else 2 else 1) = 1 from by (repeat' split) <;> omega])
    rw [← w_15] at hP
    exact W.iret (v := nI 0) hx hb hrt (fun t ht hW => ⟨⟨_, (), rfl, (congrArg nI (by (repeat' split) <;> first | rfl | omega)), by show va_P D vwCl _ t.heap; rw [ht]; exact hP⟩, hS.F ht⟩) hS.2.2 dX5_clerk_17
set_option maxHeartbeats 4000000 in
set_option maxRecDepth 100000 in
theorem k_X5_ofReader (l : Launch) (D : va_G) (cI cR cS cL : ClassId) (q : Nat → Nat) (v : Nat → Nat → Nat) (b : Nat) (r : Nat) (k : Nat) (hI : m_I b (v 1)) (hb : b < 2 ^ 28) (hr : r < 4) (hk : k < 8) : Met l yX5_ofReader wsX5_ofReader ({ frames := 3, cells := 0, slots := 0, locals := 69 }) (va_Pc [.ref (q 0), .int (nI r), .int (nI k)] (o_R D (o_T cI cR cS cL) (wM q cI v))) (vp_Si (fun rz => rz = nI (m_ofrd (v 1) r k))) 0 0 (fun _ => False) := by
  refine Met.ofW (cc := cX5_ofReader) (maxL := 3) (ret := (some .int)) (by decide) rfl ?_
  intro p e s m args below meth cd s₁ B hml hv
  obtain ⟨rfl, hP, hK, hN⟩ := hv
  have hx := B.exec
  have hb := B.bytes
  have hrt := B.returns
  have hts := atoms_spec (ws := wsX5_ofReader) B.pre
  have hown : s.vm.findClass RX5 = some m.cls := findClass_of_methodNamed B.named
  have hlocks := B.notSynchronized
  have hl := lv_entry ([.ref (q 0), .int (nI r), .int (nI k)]) (n := 3) (Nat.le_of_ble_eq_true rfl)
  rw [lg_entry_eq]
  generalize (lg_sl ([.ref (q 0), .int (nI r), .int (nI k)]) ++ List.replicate (3 - (lg_sl ([.ref (q 0), .int (nI r), .int (nI k)])).length) Slot.unset).toArray = ls at hl ⊢
  have hl : lv_has ls 3 [(0, .ref (q 0)), (1, .int (nI r)), (2, .int (nI k))] := hl
  rcases (show k = 0 ∨ k = 1 ∨ k = 2 ∨ k = 3 ∨ k = 4 ∨ k = 5 ∨ k = 6 ∨ k = 7 by omega) with rfl | rfl | rfl | rfl | rfl | rfl | rfl | rfl
  · skip
    have hIc := hI
    obtain ⟨⟨i1, hw, i3, i4, i5⟩, ⟨i6, i7, i8, i9, i10⟩, i11⟩ := hI
    have i12 := i11 r hr
    refine lv_iload_n hx hb dX5_ofReader_0 rfl (lv_at hl 2 rfl) ?_
    refine lv_tableIn (tgt := 44) (off := 43) hx hb dX5_ofReader_1 (by decide) (by decide) (by decide) (by decide) ?_
    refine lv_aload_n hx hb dX5_ofReader_44 rfl (lv_at hl 0 rfl) ?_
    refine lv_iload_n hx hb dX5_ofReader_45 rfl (lv_at hl 1 rfl) ?_
    refine o_ri (va_runV (As := [.int (nI r)]) (rest := []) ⟨hx, hb, hml, hown, hts⟩ (k_X5_ofReading l D cI cR cS cL q v r (by show r < 4; first | assumption | omega) (by show ∀ k, v 1 k < 2 ^ 32; first | assumption | omega) (by show v 1 1 < 2 ^ 31; first | assumption | omega) (by show v 1 (15 + 17 * r + 3) < 2 ^ 31; first | assumption | omega)) (cwV 1 hts gX5_ofReader_X5_ofReading rfl rfl rfl (by decide +kernel) ⟨Nat.le_of_ble_eq_true rfl, Nat.le_of_ble_eq_true rfl⟩) (o_v (o_pR hK hN hP) (va_recv hK hP (ci := 5) (q0 := 0) rfl rfl)) rfl rfl hl.1 rfl (lv_room (Nat.le_of_ble_eq_true rfl)) dX5_ofReader_46 ⟨Nat.zero_le _, Nat.zero_le _⟩) (fun r_2 e_1 => ?_)
    have e_1 : r_2 = nI (m_ofr (v 1) r) := e_1
    subst e_1
    have gv_3 := m_ofr_le (v 1) r
    exact W.iret (v := nI (m_ofr (v 1) r)) hx hb hrt (fun t ht hW => ⟨_, rfl, (congrArg nI (by unfold m_ofrd; (repeat' split) <;> omega)), ht⟩) (fun _ h => nomatch h) dX5_ofReader_49
  · skip
    have hIc := hI
    obtain ⟨⟨i1, hw, i3, i4, i5⟩, ⟨i6, i7, i8, i9, i10⟩, i11⟩ := hI
    have i12 := i11 r hr
    refine lv_iload_n hx hb dX5_ofReader_0 rfl (lv_at hl 2 rfl) ?_
    refine lv_tableIn (tgt := 50) (off := 49) hx hb dX5_ofReader_1 (by decide) (by decide) (by decide) (by decide) ?_
    refine lv_aload_n hx hb dX5_ofReader_50 rfl (lv_at hl 0 rfl) ?_
    refine lv_iload_n hx hb dX5_ofReader_51 rfl (lv_at hl 1 rfl) ?_
    refine o_const (k := 1) hx hb dX5_ofReader_52 (by decide) ?_
    refine o_ri (va_runV (As := [.int (nI r), .int (nI 1)]) (rest := []) ⟨hx, hb, hml, hown, hts⟩ (k_X5_of l D cI cR cS cL q v r 1 (by show r < 4; first | assumption | omega) (by show 1 < 17; first | assumption | omega)) (cwV 2 hts gX5_ofReader_X5_of rfl rfl rfl (by decide +kernel) ⟨Nat.le_of_ble_eq_true rfl, Nat.le_of_ble_eq_true rfl⟩) (o_v (o_pR hK hN hP) (va_recv hK hP (ci := 5) (q0 := 0) rfl rfl)) rfl rfl hl.1 rfl (lv_room (Nat.le_of_ble_eq_true rfl)) dX5_ofReader_53 ⟨Nat.zero_le _, Nat.zero_le _⟩) (fun r_5 e_4 => ?_)
    have e_4 : r_5 = nI (v 1 (15 + 17 * r + 1)) := e_4
    subst e_4
    exact W.iret (v := nI (v 1 (15 + 17 * r + 1))) hx hb hrt (fun t ht hW => ⟨_, rfl, (congrArg nI (by unfold m_ofrd; (repeat' split) <;> omega)), ht⟩) (fun _ h => nomatch h) dX5_ofReader_56
  · skip
    have hIc := hI
    obtain ⟨⟨i1, hw, i3, i4, i5⟩, ⟨i6, i7, i8, i9, i10⟩, i11⟩ := hI
    have i12 := i11 r hr
    refine lv_iload_n hx hb dX5_ofReader_0 rfl (lv_at hl 2 rfl) ?_
    refine lv_tableIn (tgt := 57) (off := 56) hx hb dX5_ofReader_1 (by decide) (by decide) (by decide) (by decide) ?_
    refine lv_aload_n hx hb dX5_ofReader_57 rfl (lv_at hl 0 rfl) ?_
    refine lv_iload_n hx hb dX5_ofReader_58 rfl (lv_at hl 1 rfl) ?_
    refine o_const (k := 1) hx hb dX5_ofReader_59 (by decide) ?_
    refine o_ri (va_runV (As := [.int (nI r), .int (nI 1)]) (rest := []) ⟨hx, hb, hml, hown, hts⟩ (k_X5_of l D cI cR cS cL q v r 1 (by show r < 4; first | assumption | omega) (by show 1 < 17; first | assumption | omega)) (cwV 2 hts gX5_ofReader_X5_of rfl rfl rfl (by decide +kernel) ⟨Nat.le_of_ble_eq_true rfl, Nat.le_of_ble_eq_true rfl⟩) (o_v (o_pR hK hN hP) (va_recv hK hP (ci := 5) (q0 := 0) rfl rfl)) rfl rfl hl.1 rfl (lv_room (Nat.le_of_ble_eq_true rfl)) dX5_ofReader_60 ⟨Nat.zero_le _, Nat.zero_le _⟩) (fun r_7 e_6 => ?_)
    have e_6 : r_7 = nI (v 1 (15 + 17 * r + 1)) := e_6
    subst e_6
    refine o_const (k := 4294967295) hx hb dX5_ofReader_63 (by decide) ?_
    refine o_icmp_ne (tgt := 71) hx hb dX5_ofReader_64 (by decide) (by omega) (Nat.le_of_ble_eq_true rfl) (fun c_8 => ?_) (fun c_8 => ?_)
    · skip
      refine lv_aload_n hx hb dX5_ofReader_71 rfl (lv_at hl 0 rfl) ?_
      refine lv_iload_n hx hb dX5_ofReader_72 rfl (lv_at hl 1 rfl) ?_
      refine o_const (k := 2) hx hb dX5_ofReader_73 (by decide) ?_
      refine o_ri (va_runV (As := [.int (nI r), .int (nI 2)]) (rest := []) ⟨hx, hb, hml, hown, hts⟩ (k_X5_of l D cI cR cS cL q v r 2 (by show r < 4; first | assumption | omega) (by show 2 < 17; first | assumption | omega)) (cwV 2 hts gX5_ofReader_X5_of rfl rfl rfl (by decide +kernel) ⟨Nat.le_of_ble_eq_true rfl, Nat.le_of_ble_eq_true rfl⟩) (o_v (o_pR hK hN hP) (va_recv hK hP (ci := 5) (q0 := 0) rfl rfl)) rfl rfl hl.1 rfl (lv_room (Nat.le_of_ble_eq_true rfl)) dX5_ofReader_74 ⟨Nat.zero_le _, Nat.zero_le _⟩) (fun r_10 e_9 => ?_)
      have e_9 : r_10 = nI (v 1 (15 + 17 * r + 2)) := e_9
      subst e_9
      exact W.iret (v := nI (v 1 (15 + 17 * r + 2))) hx hb hrt (fun t ht hW => ⟨_, rfl, (congrArg nI (by unfold m_ofrd; (repeat' split) <;> omega)), ht⟩) (fun _ h => nomatch h) dX5_ofReader_77
    · skip
      refine o_const (k := 4294967295) hx hb dX5_ofReader_67 (by decide) ?_
      refine lv_goto (tgt := 77) hx hb dX5_ofReader_68 (by decide) ?_
      exact W.iret (v := nI 4294967295) hx hb hrt (fun t ht hW => ⟨_, rfl, (congrArg nI (by unfold m_ofrd; (repeat' split) <;> omega)), ht⟩) (fun _ h => nomatch h) dX5_ofReader_77
  · skip
    have hIc := hI
    obtain ⟨⟨i1, hw, i3, i4, i5⟩, ⟨i6, i7, i8, i9, i10⟩, i11⟩ := hI
    have i12 := i11 r hr
    refine lv_iload_n hx hb dX5_ofReader_0 rfl (lv_at hl 2 rfl) ?_
    refine lv_tableIn (tgt := 78) (off := 77) hx hb dX5_ofReader_1 (by decide) (by decide) (by decide) (by decide) ?_
    refine lv_aload_n hx hb dX5_ofReader_78 rfl (lv_at hl 0 rfl) ?_
    refine lv_iload_n hx hb dX5_ofReader_79 rfl (lv_at hl 1 rfl) ?_
    refine lv_iload_n hx hb dX5_ofReader_80 rfl (lv_at hl 2 rfl) ?_
    refine o_ri (va_runV (As := [.int (nI r), .int (nI 3)]) (rest := []) ⟨hx, hb, hml, hown, hts⟩ (k_X5_of l D cI cR cS cL q v r 3 (by show r < 4; first | assumption | omega) (by show 3 < 17; first | assumption | omega)) (cwV 2 hts gX5_ofReader_X5_of rfl rfl rfl (by decide +kernel) ⟨Nat.le_of_ble_eq_true rfl, Nat.le_of_ble_eq_true rfl⟩) (o_v (o_pR hK hN hP) (va_recv hK hP (ci := 5) (q0 := 0) rfl rfl)) rfl rfl hl.1 rfl (lv_room (Nat.le_of_ble_eq_true rfl)) dX5_ofReader_81 ⟨Nat.zero_le _, Nat.zero_le _⟩) (fun r_12 e_11 => ?_)
    have e_11 : r_12 = nI (v 1 (15 + 17 * r + 3)) := e_11
    subst e_11
    exact W.iret (v := nI (v 1 (15 + 17 * r + 3))) hx hb hrt (fun t ht hW => ⟨_, rfl, (congrArg nI (by unfold m_ofrd; (repeat' split) <;> omega)), ht⟩) (fun _ h => nomatch h) dX5_ofReader_84
  · skip
    have hIc := hI
    obtain ⟨⟨i1, hw, i3, i4, i5⟩, ⟨i6, i7, i8, i9, i10⟩, i11⟩ := hI
    have i12 := i11 r hr
    refine lv_iload_n hx hb dX5_ofReader_0 rfl (lv_at hl 2 rfl) ?_
    refine lv_tableIn (tgt := 78) (off := 77) hx hb dX5_ofReader_1 (by decide) (by decide) (by decide) (by decide) ?_
    refine lv_aload_n hx hb dX5_ofReader_78 rfl (lv_at hl 0 rfl) ?_
    refine lv_iload_n hx hb dX5_ofReader_79 rfl (lv_at hl 1 rfl) ?_
    refine lv_iload_n hx hb dX5_ofReader_80 rfl (lv_at hl 2 rfl) ?_
    refine o_ri (va_runV (As := [.int (nI r), .int (nI 4)]) (rest := []) ⟨hx, hb, hml, hown, hts⟩ (k_X5_of l D cI cR cS cL q v r 4 (by show r < 4; first | assumption | omega) (by show 4 < 17; first | assumption | omega)) (cwV 2 hts gX5_ofReader_X5_of rfl rfl rfl (by decide +kernel) ⟨Nat.le_of_ble_eq_true rfl, Nat.le_of_ble_eq_true rfl⟩) (o_v (o_pR hK hN hP) (va_recv hK hP (ci := 5) (q0 := 0) rfl rfl)) rfl rfl hl.1 rfl (lv_room (Nat.le_of_ble_eq_true rfl)) dX5_ofReader_81 ⟨Nat.zero_le _, Nat.zero_le _⟩) (fun r_14 e_13 => ?_)
    have e_13 : r_14 = nI (v 1 (15 + 17 * r + 4)) := e_13
    subst e_13
    exact W.iret (v := nI (v 1 (15 + 17 * r + 4))) hx hb hrt (fun t ht hW => ⟨_, rfl, (congrArg nI (by unfold m_ofrd; (repeat' split) <;> omega)), ht⟩) (fun _ h => nomatch h) dX5_ofReader_84
  · skip
    have hIc := hI
    obtain ⟨⟨i1, hw, i3, i4, i5⟩, ⟨i6, i7, i8, i9, i10⟩, i11⟩ := hI
    have i12 := i11 r hr
    refine lv_iload_n hx hb dX5_ofReader_0 rfl (lv_at hl 2 rfl) ?_
    refine lv_tableIn (tgt := 78) (off := 77) hx hb dX5_ofReader_1 (by decide) (by decide) (by decide) (by decide) ?_
    refine lv_aload_n hx hb dX5_ofReader_78 rfl (lv_at hl 0 rfl) ?_
    refine lv_iload_n hx hb dX5_ofReader_79 rfl (lv_at hl 1 rfl) ?_
    refine lv_iload_n hx hb dX5_ofReader_80 rfl (lv_at hl 2 rfl) ?_
    refine o_ri (va_runV (As := [.int (nI r), .int (nI 5)]) (rest := []) ⟨hx, hb, hml, hown, hts⟩ (k_X5_of l D cI cR cS cL q v r 5 (by show r < 4; first | assumption | omega) (by show 5 < 17; first | assumption | omega)) (cwV 2 hts gX5_ofReader_X5_of rfl rfl rfl (by decide +kernel) ⟨Nat.le_of_ble_eq_true rfl, Nat.le_of_ble_eq_true rfl⟩) (o_v (o_pR hK hN hP) (va_recv hK hP (ci := 5) (q0 := 0) rfl rfl)) rfl rfl hl.1 rfl (lv_room (Nat.le_of_ble_eq_true rfl)) dX5_ofReader_81 ⟨Nat.zero_le _, Nat.zero_le _⟩) (fun r_16 e_15 => ?_)
    have e_15 : r_16 = nI (v 1 (15 + 17 * r + 5)) := e_15
    subst e_15
    exact W.iret (v := nI (v 1 (15 + 17 * r + 5))) hx hb hrt (fun t ht hW => ⟨_, rfl, (congrArg nI (by unfold m_ofrd; (repeat' split) <;> omega)), ht⟩) (fun _ h => nomatch h) dX5_ofReader_84
  · skip
    have hIc := hI
    obtain ⟨⟨i1, hw, i3, i4, i5⟩, ⟨i6, i7, i8, i9, i10⟩, i11⟩ := hI
    have i12 := i11 r hr
    refine lv_iload_n hx hb dX5_ofReader_0 rfl (lv_at hl 2 rfl) ?_
    refine lv_tableIn (tgt := 85) (off := 84) hx hb dX5_ofReader_1 (by decide) (by decide) (by decide) (by decide) ?_
    refine lv_aload_n hx hb dX5_ofReader_85 rfl (lv_at hl 0 rfl) ?_
    refine lv_iload_n hx hb dX5_ofReader_86 rfl (lv_at hl 1 rfl) ?_
    refine o_bipush (k := 6) hx hb dX5_ofReader_87 (by decide) ?_
    refine o_ri (va_runV (As := [.int (nI r), .int (nI 6)]) (rest := []) ⟨hx, hb, hml, hown, hts⟩ (k_X5_of l D cI cR cS cL q v r 6 (by show r < 4; first | assumption | omega) (by show 6 < 17; first | assumption | omega)) (cwV 2 hts gX5_ofReader_X5_of rfl rfl rfl (by decide +kernel) ⟨Nat.le_of_ble_eq_true rfl, Nat.le_of_ble_eq_true rfl⟩) (o_v (o_pR hK hN hP) (va_recv hK hP (ci := 5) (q0 := 0) rfl rfl)) rfl rfl hl.1 rfl (lv_room (Nat.le_of_ble_eq_true rfl)) dX5_ofReader_89 ⟨Nat.zero_le _, Nat.zero_le _⟩) (fun r_18 e_17 => ?_)
    have e_17 : r_18 = nI (v 1 (15 + 17 * r + 6)) := e_17
    subst e_17
    refine o_const (k := 1) hx hb dX5_ofReader_92 (by decide) ?_
    refine o_icmp_ne (tgt := 113) hx hb dX5_ofReader_93 (by decide) (by omega) (Nat.le_of_ble_eq_true rfl) (fun c_19 => ?_) (fun c_19 => ?_)
    · skip
      refine o_const (k := 4294967295) hx hb dX5_ofReader_113 (by decide) ?_
      exact W.iret (v := nI 4294967295) hx hb hrt (fun t ht hW => ⟨_, rfl, (congrArg nI (by unfold m_ofrd; (repeat' split) <;> omega)), ht⟩) (fun _ h => nomatch h) dX5_ofReader_114
    · skip
      refine lv_aload_n hx hb dX5_ofReader_96 rfl (lv_at hl 0 rfl) ?_
      refine o_bipush (k := 15) hx hb dX5_ofReader_97 (by decide) ?_
      refine o_bipush (k := 17) hx hb dX5_ofReader_99 (by decide) ?_
      refine lv_iload_n hx hb dX5_ofReader_101 rfl (lv_at hl 1 rfl) ?_
      refine o_imul (a := 17) (b := r) (k := (17 * r)) hx hb dX5_ofReader_102 rfl ?_
      refine o_iadd (a := 15) (b := (17 * r)) (k := (15 + 17 * r)) hx hb dX5_ofReader_103 rfl ?_
      refine o_bipush (k := 12) hx hb dX5_ofReader_104 (by decide) ?_
      refine o_iadd (a := (15 + 17 * r)) (b := 12) (k := (15 + 17 * r + 12)) hx hb dX5_ofReader_106 rfl ?_
      refine o_ri (va_runV (As := [.int (nI (15 + 17 * r + 12))]) (rest := []) ⟨hx, hb, hml, hown, hts⟩ (k_X5_same l D cI cR cS cL q v (15 + 17 * r + 12) (by show ∀ k, v 1 k < 2 ^ 32; first | assumption | omega) (by show v 1 0 < 2 ^ 30; first | assumption | omega) (by show (15 + 17 * r + 12) + 5 ≤ 163; first | assumption | omega)) (cwV 1 hts gX5_ofReader_X5_same rfl rfl rfl (by decide +kernel) ⟨Nat.le_of_ble_eq_true rfl, Nat.le_of_ble_eq_true rfl⟩) (o_v (o_pR hK hN hP) (va_recv hK hP (ci := 5) (q0 := 0) rfl rfl)) rfl rfl hl.1 rfl (lv_room (Nat.le_of_ble_eq_true rfl)) dX5_ofReader_107 ⟨Nat.zero_le _, Nat.zero_le _⟩) (fun r_21 e_20 => ?_)
      have e_20 : r_21 = nI (m_fd (v 1) (15 + 17 * r + 12) (v 1 0 / 2) 16) := e_20
      subst e_20
      refine lv_goto (tgt := 114) hx hb dX5_ofReader_110 (by decide) ?_
      exact W.iret (v := nI (m_fd (v 1) (15 + 17 * r + 12) (v 1 0 / 2) 16)) hx hb hrt (fun t ht hW => ⟨_, rfl, (congrArg nI (by unfold m_ofrd; (repeat' split) <;> omega)), ht⟩) (fun _ h => nomatch h) dX5_ofReader_114
  · skip
    have hIc := hI
    obtain ⟨⟨i1, hw, i3, i4, i5⟩, ⟨i6, i7, i8, i9, i10⟩, i11⟩ := hI
    have i12 := i11 r hr
    refine lv_iload_n hx hb dX5_ofReader_0 rfl (lv_at hl 2 rfl) ?_
    refine lv_tableOut (tgt := 115) hx hb dX5_ofReader_1 (by decide) (by decide) ?_
    refine lv_aload_n hx hb dX5_ofReader_115 rfl (lv_at hl 0 rfl) ?_
    refine lv_iload_n hx hb dX5_ofReader_116 rfl (lv_at hl 1 rfl) ?_
    refine o_const (k := 0) hx hb dX5_ofReader_117 (by decide) ?_
    refine o_ri (va_runV (As := [.int (nI r), .int (nI 0)]) (rest := []) ⟨hx, hb, hml, hown, hts⟩ (k_X5_of l D cI cR cS cL q v r 0 (by show r < 4; first | assumption | omega) (by show 0 < 17; first | assumption | omega)) (cwV 2 hts gX5_ofReader_X5_of rfl rfl rfl (by decide +kernel) ⟨Nat.le_of_ble_eq_true rfl, Nat.le_of_ble_eq_true rfl⟩) (o_v (o_pR hK hN hP) (va_recv hK hP (ci := 5) (q0 := 0) rfl rfl)) rfl rfl hl.1 rfl (lv_room (Nat.le_of_ble_eq_true rfl)) dX5_ofReader_118 ⟨Nat.zero_le _, Nat.zero_le _⟩) (fun r_23 e_22 => ?_)
    have e_22 : r_23 = nI (v 1 (15 + 17 * r)) := e_22
    subst e_22
    exact W.iret (v := nI (v 1 (15 + 17 * r))) hx hb hrt (fun t ht hW => ⟨_, rfl, (congrArg nI (by unfold m_ofrd; (repeat' split) <;> omega)), ht⟩) (fun _ h => nomatch h) dX5_ofReader_121
theorem inX5_readerOf_X5 : ∀ w ∈ wsX50, w ∈ wsX5_readerOf := by decide +kernel
set_option maxHeartbeats 4000000 in
set_option maxRecDepth 100000 in
theorem k_X5_readerOf (l : Launch) (D : va_G) (cI cR cS cL : ClassId) (sz : Nat) (q : Nat → Nat) (v : Nat → Nat → Nat) (b : Nat) (r : Nat) (k : Nat) (hI : m_I b (v 1)) (hb : b < 2 ^ 28) (hr : r < 2 ^ 32) (hk : k < 2 ^ 32) : Met l yX5_readerOf wsX5_readerOf ({ frames := 4, cells := 0, slots := 0, locals := 91 }) (va_Pc [.ref (q 0), .int (nI r), .int (nI k)] (o_B D (o_T cI cR cS cL) (wM q cI v) sz)) (va_Qi (fun rz (_ : Unit) => rz = nI (if r < 4 then if k < 8 then m_ofrd (v 1) r k else 0 else 0)) (fun (_ : Unit) t => va_P D vwCl (wM q cI (va_up v 0 (va_up (v 0) 2 (if r < 4 then if k < 8 then 0 else 2 else 1)))) t.heap) (va_A (wM q cI v) sz)) 0 0 (va_A (wM q cI v) sz) := by
  refine Met.ofW (cc := cX5_readerOf) (maxL := 3) (ret := (some .int)) (by decide) rfl ?_
  intro p e s m args below meth cd s₁ B hml hv
  obtain ⟨rfl, hsz, hP, hK, hD0, hN⟩ := hv
  have hx := B.exec
  have hb := B.bytes
  have hrt := B.returns
  have hts := atoms_spec (ws := wsX5_readerOf) B.pre
  have hown : s.vm.findClass RX5 = some m.cls := findClass_of_methodNamed B.named
  have hlocks := B.notSynchronized
  subst hsz
  have hD := hD0.self (sz := s.heap.size)
  generalize hAe : va_A (wM q cI v) s.heap.size = A at hD ⊢
  have hA : ∀ q : Nat, s.heap.size ≤ q → A q := fun q h => by rw [← hAe]; exact Or.inr h
  have hS : va_S A s.heap s.heap [] := va_S.rf
  have hl := lv_entry ([.ref (q 0), .int (nI r), .int (nI k)]) (n := 3) (Nat.le_of_ble_eq_true rfl)
  rw [lg_entry_eq]
  generalize (lg_sl ([.ref (q 0), .int (nI r), .int (nI k)]) ++ List.replicate (3 - (lg_sl ([.ref (q 0), .int (nI r), .int (nI k)])).length) Slot.unset).toArray = ls at hl ⊢
  have hl : lv_has ls 3 [(0, .ref (q 0)), (1, .int (nI r)), (2, .int (nI k))] := hl
  refine lv_aload_n hx hb dX5_readerOf_0 rfl (lv_at hl 0 rfl) ?_
  refine o_const (k := 0) hx hb dX5_readerOf_1 (by decide) ?_
  refine va_put (D := D) (ci := 5) (v := .int (nI 0)) (ty := .int) (C := RX5) (T := TX5) (N := 10) hx hb hts inX5_readerOf_X5 tyX5 tyX5_ok nmX5 hown hK hP hD hS 0 rfl rfl 5 (by decide) (hts (.fieldLink RX5 22 "OddNoticeModel" "thrown" "I") (List.mem_of_getElem? (i := 1) (by decide +kernel))) (fun _ h9 => h9) rfl (by decide +kernel) rfl rfl (Nat.le_of_ble_eq_true rfl) dX5_readerOf_2 (fun H locs hP hD hS => ?_)
  have hP : va_P D vwCl (wM q cI (va_up v 0 (va_up (v 0) 2 0))) H := hP
  have hD : va_D A (wM q cI (va_up v 0 (va_up (v 0) 2 0))) := hD
  refine lv_iload_n hx hb dX5_readerOf_5 rfl (lv_at hl 1 rfl) ?_
  refine o_ri (va_runS (As := [.int (nI r)]) (rest := []) ⟨hx, hb, hml, hown, hts⟩ (k_X5_isReader l D cI cR cS cL r (by show r < 2 ^ 32; first | assumption | omega)) (va_cwS 1 hts gX5_readerOf_X5_isReader rfl rfl rfl (by decide +kernel) ⟨Nat.le_of_ble_eq_true rfl, Nat.le_of_ble_eq_true rfl⟩) (o_pR hK hN (hP.sub (ws' := []) [] rfl)) rfl rfl hl.1 rfl (lv_room (Nat.le_of_ble_eq_true rfl)) dX5_readerOf_6 ⟨Nat.zero_le _, Nat.zero_le _⟩) (fun r_2 e_1 => ?_)
  have e_1 : r_2 = nI (bn (r < 4)) := e_1
  subst e_1
  refine o_ifnz (tgt := 18) hx hb dX5_readerOf_9 (by decide) (fun c_3 => ?_) (fun c_3 => ?_)
  · skip
    refine lv_iload_n hx hb dX5_readerOf_18 rfl (lv_at hl 2 rfl) ?_
    refine o_const (k := 0) hx hb dX5_readerOf_19 (by decide) ?_
    refine o_bipush (k := 7) hx hb dX5_readerOf_20 (by decide) ?_
    refine o_ri (va_runS (As := [.int (nI k), .int (nI 0), .int (nI 7)]) (rest := []) ⟨hx, hb, hml, hown, hts⟩ (k_X5_in l D cI cR cS cL k 0 7 (by show k < 2 ^ 32; first | assumption | omega) (by show 0 < 2 ^ 31; first | assumption | omega) (by show 7 < 2 ^ 31; first | assumption | omega)) (va_cwS 3 hts gX5_readerOf_X5_in rfl rfl rfl (by decide +kernel) ⟨Nat.le_of_ble_eq_true rfl, Nat.le_of_ble_eq_true rfl⟩) (o_pR hK hN (hP.sub (ws' := []) [] rfl)) rfl rfl hl.1 rfl (lv_room (Nat.le_of_ble_eq_true rfl)) dX5_readerOf_22 ⟨Nat.zero_le _, Nat.zero_le _⟩) (fun r_5 e_4 => ?_)
    have e_4 : r_5 = nI (bn (0 ≤ k ∧ k ≤ 7)) := e_4
    subst e_4
    refine o_ifz (tgt := 37) hx hb dX5_readerOf_25 (by decide) (fun c_6 => ?_) (fun c_6 => ?_)
    · skip
      refine lv_aload_n hx hb dX5_readerOf_37 rfl (lv_at hl 0 rfl) ?_
      refine o_const (k := 2) hx hb dX5_readerOf_38 (by decide) ?_
      refine o_wi (va_runV (As := [.int (nI 2)]) (rest := []) ⟨hx, hb, hml, hown, hts⟩ (k_X5_fails l D cI cR cS cL H.size q (va_up v 0 (va_up (v 0) 2 0)) 2 ) (cwV 1 hts gX5_readerOf_X5_fails rfl rfl rfl (by decide +kernel) ⟨Nat.le_of_ble_eq_true rfl, Nat.le_of_ble_eq_true rfl⟩) (o_v (o_pB hK hN hP hD) (va_recv hK hP (ci := 5) (q0 := 0) rfl rfl)) rfl rfl hl.1 rfl (lv_room (Nat.le_of_ble_eq_true rfl)) dX5_readerOf_39 ⟨Nat.zero_le _, Nat.zero_le _⟩) hP hD hS hA [0, 1, 2, 3, 4] (by decide) rfl (fun _ => rfl) (fun r_8 _ H locs e_7 hP hD hS => ?_)
      have e_7 : r_8 = nI 0 := e_7
      subst e_7
      have hP : va_P D vwCl (wM q cI (va_up v 0 (va_up (v 0) 2 2))) H := hP
      have hD : va_D A (wM q cI (va_up v 0 (va_up (v 0) 2 2))) := hD
      have w_9 : (wM q cI (va_up v 0 (va_up (v 0) 2 (if r < 4 then if k < 8 then 0 else 2 else 1)))) = (wM q cI (va_up v 0 (va_up (v 0) 2 2))) := (by rw [show (if r < 4 then if k < 8 then 0 else 2 else 1) = 2 from by (repeat' split) <;> omega])
      rw [← w_9] at hP
      exact W.iret (v := nI 0) hx hb hrt (fun t ht hW => ⟨⟨_, (), rfl, (congrArg nI (by (repeat' split) <;> first | rfl | omega)), by show va_P D vwCl _ t.heap; rw [ht]; exact hP⟩, hS.F ht⟩) hS.2.2 dX5_readerOf_42
    · skip
      refine lv_aload_n hx hb dX5_readerOf_28 rfl (lv_at hl 0 rfl) ?_
      refine lv_iload_n hx hb dX5_readerOf_29 rfl (lv_at hl 1 rfl) ?_
      refine lv_iload_n hx hb dX5_readerOf_30 rfl (lv_at hl 2 rfl) ?_
      refine o_ri (va_runV (As := [.int (nI r), .int (nI k)]) (rest := []) ⟨hx, hb, hml, hown, hts⟩ (k_X5_ofReader l D cI cR cS cL q (va_up v 0 (va_up (v 0) 2 0)) b r k (hI) (by show b < 2 ^ 28; first | assumption | omega) (by show r < 4; first | assumption | omega) (by show k < 8; first | assumption | omega)) (cwV 2 hts gX5_readerOf_X5_ofReader rfl rfl rfl (by decide +kernel) ⟨Nat.le_of_ble_eq_true rfl, Nat.le_of_ble_eq_true rfl⟩) (o_v (o_pR hK hN hP) (va_recv hK hP (ci := 5) (q0 := 0) rfl rfl)) rfl rfl hl.1 rfl (lv_room (Nat.le_of_ble_eq_true rfl)) dX5_readerOf_31 ⟨Nat.zero_le _, Nat.zero_le _⟩) (fun r_11 e_10 => ?_)
      have e_10 : r_11 = nI (m_ofrd (v 1) r k) := e_10
      subst e_10
      refine lv_goto (tgt := 42) hx hb dX5_readerOf_34 (by decide) ?_
      have w_12 : (wM q cI (va_up v 0 (va_up (v 0) 2 (if r < 4 then if k < 8 then 0 else 2 else 1)))) = (wM q cI (va_up v 0 (va_up (v 0) 2 0))) := (by rw [show (if r < 4 then if k < 8 then 0 else 2 else 1) = 0 from by (repeat' split) <;> omega])
      rw [← w_12] at hP
      exact W.iret (v := nI (m_ofrd (v 1) r k)) hx hb hrt (fun t ht hW => ⟨⟨_, (), rfl, (congrArg nI (by (repeat' split) <;> first | rfl | omega)), by show va_P D vwCl _ t.heap; rw [ht]; exact hP⟩, hS.F ht⟩) hS.2.2 dX5_readerOf_42
  · skip
    refine lv_aload_n hx hb dX5_readerOf_12 rfl (lv_at hl 0 rfl) ?_
    refine o_const (k := 1) hx hb dX5_readerOf_13 (by decide) ?_
    refine o_wi (va_runV (As := [.int (nI 1)]) (rest := []) ⟨hx, hb, hml, hown, hts⟩ (k_X5_fails l D cI cR cS cL H.size q (va_up v 0 (va_up (v 0) 2 0)) 1 ) (cwV 1 hts gX5_readerOf_X5_fails rfl rfl rfl (by decide +kernel) ⟨Nat.le_of_ble_eq_true rfl, Nat.le_of_ble_eq_true rfl⟩) (o_v (o_pB hK hN hP hD) (va_recv hK hP (ci := 5) (q0 := 0) rfl rfl)) rfl rfl hl.1 rfl (lv_room (Nat.le_of_ble_eq_true rfl)) dX5_readerOf_14 ⟨Nat.zero_le _, Nat.zero_le _⟩) hP hD hS hA [0, 1, 2, 3, 4] (by decide) rfl (fun _ => rfl) (fun r_14 _ H locs e_13 hP hD hS => ?_)
    have e_13 : r_14 = nI 0 := e_13
    subst e_13
    have hP : va_P D vwCl (wM q cI (va_up v 0 (va_up (v 0) 2 1))) H := hP
    have hD : va_D A (wM q cI (va_up v 0 (va_up (v 0) 2 1))) := hD
    have w_15 : (wM q cI (va_up v 0 (va_up (v 0) 2 (if r < 4 then if k < 8 then 0 else 2 else 1)))) = (wM q cI (va_up v 0 (va_up (v 0) 2 1))) := (by rw [show (if r < 4 then if k < 8 then 0 else 2 else 1) = 1 from by (repeat' split) <;> omega])
    rw [← w_15] at hP
    exact W.iret (v := nI 0) hx hb hrt (fun t ht hW => ⟨⟨_, (), rfl, (congrArg nI (by (repeat' split) <;> first | rfl | omega)), by show va_P D vwCl _ t.heap; rw [ht]; exact hP⟩, hS.F ht⟩) hS.2.2 dX5_readerOf_17
set_option maxHeartbeats 4000000 in
set_option maxRecDepth 100000 in
theorem k_X5_had (l : Launch) (D : va_G) (cI cR cS cL : ClassId) (q : Nat → Nat) (v : Nat → Nat → Nat) (b : Nat) (r : Nat) (f : Nat) (hI : m_I b (v 1)) (hb : b < 2 ^ 28) (hr : r < 4) (hf : f < 5) : Met l yX5_had wsX5_had ({ frames := 1, cells := 0, slots := 0, locals := 22 }) (va_Pc [.ref (q 0), .int (nI r), .int (nI f)] (o_R D (o_T cI cR cS cL) (wM q cI v))) (vp_Si (fun rz => rz = nI (m_had (v 1) r f))) 0 0 (fun _ => False) := by
  refine Met.ofW (cc := cX5_had) (maxL := 3) (ret := (some .int)) (by decide) rfl ?_
  intro p e s m args below meth cd s₁ B hml hv
  obtain ⟨rfl, hP, hK, hN⟩ := hv
  have hx := B.exec
  have hb := B.bytes
  have hrt := B.returns
  have hts := atoms_spec (ws := wsX5_had) B.pre
  have hown : s.vm.findClass RX5 = some m.cls := findClass_of_methodNamed B.named
  have hlocks := B.notSynchronized
  have hl := lv_entry ([.ref (q 0), .int (nI r), .int (nI f)]) (n := 3) (Nat.le_of_ble_eq_true rfl)
  rw [lg_entry_eq]
  generalize (lg_sl ([.ref (q 0), .int (nI r), .int (nI f)]) ++ List.replicate (3 - (lg_sl ([.ref (q 0), .int (nI r), .int (nI f)])).length) Slot.unset).toArray = ls at hl ⊢
  have hl : lv_has ls 3 [(0, .ref (q 0)), (1, .int (nI r)), (2, .int (nI f))] := hl
  have hIc := hI
  obtain ⟨⟨i1, hw, i3, i4, i5⟩, ⟨i6, i7, i8, i9, i10⟩, i11⟩ := hI
  have i12 := i11 r hr
  refine lv_aload_n hx hb dX5_had_0 rfl (lv_at hl 0 rfl) ?_
  refine lv_iload_n hx hb dX5_had_1 rfl (lv_at hl 1 rfl) ?_
  refine o_bipush (k := 6) hx hb dX5_had_2 (by decide) ?_
  refine o_ri (va_runV (As := [.int (nI r), .int (nI 6)]) (rest := []) ⟨hx, hb, hml, hown, hts⟩ (k_X5_of l D cI cR cS cL q v r 6 (by show r < 4; first | assumption | omega) (by show 6 < 17; first | assumption | omega)) (cwV 2 hts gX5_had_X5_of rfl rfl rfl (by decide +kernel) ⟨Nat.le_of_ble_eq_true rfl, Nat.le_of_ble_eq_true rfl⟩) (o_v (o_pR hK hN hP) (va_recv hK hP (ci := 5) (q0 := 0) rfl rfl)) rfl rfl hl.1 rfl (lv_room (Nat.le_of_ble_eq_true rfl)) dX5_had_4 ⟨Nat.zero_le _, Nat.zero_le _⟩) (fun r_2 e_1 => ?_)
  have e_1 : r_2 = nI (v 1 (15 + 17 * r + 6)) := e_1
  subst e_1
  refine o_const (k := 1) hx hb dX5_had_7 (by decide) ?_
  refine o_icmp_ne (tgt := 23) hx hb dX5_had_8 (by decide) (by omega) (Nat.le_of_ble_eq_true rfl) (fun c_3 => ?_) (fun c_3 => ?_)
  · skip
    refine o_const (k := 4294967295) hx hb dX5_had_23 (by decide) ?_
    exact W.iret (v := nI 4294967295) hx hb hrt (fun t ht hW => ⟨_, rfl, (congrArg nI (by unfold m_had; (repeat' split) <;> omega)), ht⟩) (fun _ h => nomatch h) dX5_had_24
  · skip
    refine lv_aload_n hx hb dX5_had_11 rfl (lv_at hl 0 rfl) ?_
    refine lv_iload_n hx hb dX5_had_12 rfl (lv_at hl 1 rfl) ?_
    refine o_bipush (k := 12) hx hb dX5_had_13 (by decide) ?_
    refine lv_iload_n hx hb dX5_had_15 rfl (lv_at hl 2 rfl) ?_
    refine o_iadd (a := 12) (b := f) (k := (12 + f)) hx hb dX5_had_16 rfl ?_
    refine o_ri (va_runV (As := [.int (nI r), .int (nI (12 + f))]) (rest := []) ⟨hx, hb, hml, hown, hts⟩ (k_X5_of l D cI cR cS cL q v r (12 + f) (by show r < 4; first | assumption | omega) (by show (12 + f) < 17; first | assumption | omega)) (cwV 2 hts gX5_had_X5_of rfl rfl rfl (by decide +kernel) ⟨Nat.le_of_ble_eq_true rfl, Nat.le_of_ble_eq_true rfl⟩) (o_v (o_pR hK hN hP) (va_recv hK hP (ci := 5) (q0 := 0) rfl rfl)) rfl rfl hl.1 rfl (lv_room (Nat.le_of_ble_eq_true rfl)) dX5_had_17 ⟨Nat.zero_le _, Nat.zero_le _⟩) (fun r_5 e_4 => ?_)
    have e_4 : r_5 = nI (v 1 (15 + 17 * r + (12 + f))) := e_4
    subst e_4
    refine lv_goto (tgt := 24) hx hb dX5_had_20 (by decide) ?_
    exact W.iret (v := nI (v 1 (15 + 17 * r + (12 + f)))) hx hb hrt (fun t ht hW => ⟨_, rfl, (congrArg nI (by rw [show 15 + 17 * r + (12 + f) = 15 + 17 * r + 12 + f by omega]; unfold m_had; (repeat' split) <;> omega)), ht⟩) (fun _ h => nomatch h) dX5_had_24
theorem inX5_has_X5 : ∀ w ∈ wsX50, w ∈ wsX5_has := by decide +kernel
set_option maxHeartbeats 4000000 in
set_option maxRecDepth 100000 in
theorem k_X5_has (l : Launch) (D : va_G) (cI cR cS cL : ClassId) (sz : Nat) (q : Nat → Nat) (v : Nat → Nat → Nat) (b : Nat) (r : Nat) (f : Nat) (hI : m_I b (v 1)) (hb : b < 2 ^ 28) (hr : r < 2 ^ 32) (hf : f < 2 ^ 32) : Met l yX5_has wsX5_has ({ frames := 2, cells := 0, slots := 0, locals := 44 }) (va_Pc [.ref (q 0), .int (nI r), .int (nI f)] (o_B D (o_T cI cR cS cL) (wM q cI v) sz)) (va_Qi (fun rz (_ : Unit) => rz = nI (if r < 4 ∧ f < 5 then m_had (v 1) r f else 0)) (fun (_ : Unit) t => va_P D vwCl (wM q cI (va_up v 0 (va_up (v 0) 2 (if r < 4 ∧ f < 5 then 0 else 1)))) t.heap) (va_A (wM q cI v) sz)) 0 0 (va_A (wM q cI v) sz) := by
  refine Met.ofW (cc := cX5_has) (maxL := 3) (ret := (some .int)) (by decide) rfl ?_
  intro p e s m args below meth cd s₁ B hml hv
  obtain ⟨rfl, hsz, hP, hK, hD0, hN⟩ := hv
  have hx := B.exec
  have hb := B.bytes
  have hrt := B.returns
  have hts := atoms_spec (ws := wsX5_has) B.pre
  have hown : s.vm.findClass RX5 = some m.cls := findClass_of_methodNamed B.named
  have hlocks := B.notSynchronized
  subst hsz
  have hD := hD0.self (sz := s.heap.size)
  generalize hAe : va_A (wM q cI v) s.heap.size = A at hD ⊢
  have hA : ∀ q : Nat, s.heap.size ≤ q → A q := fun q h => by rw [← hAe]; exact Or.inr h
  have hS : va_S A s.heap s.heap [] := va_S.rf
  have hl := lv_entry ([.ref (q 0), .int (nI r), .int (nI f)]) (n := 3) (Nat.le_of_ble_eq_true rfl)
  rw [lg_entry_eq]
  generalize (lg_sl ([.ref (q 0), .int (nI r), .int (nI f)]) ++ List.replicate (3 - (lg_sl ([.ref (q 0), .int (nI r), .int (nI f)])).length) Slot.unset).toArray = ls at hl ⊢
  have hl : lv_has ls 3 [(0, .ref (q 0)), (1, .int (nI r)), (2, .int (nI f))] := hl
  refine lv_aload_n hx hb dX5_has_0 rfl (lv_at hl 0 rfl) ?_
  refine o_const (k := 0) hx hb dX5_has_1 (by decide) ?_
  refine va_put (D := D) (ci := 5) (v := .int (nI 0)) (ty := .int) (C := RX5) (T := TX5) (N := 10) hx hb hts inX5_has_X5 tyX5 tyX5_ok nmX5 hown hK hP hD hS 0 rfl rfl 5 (by decide) (hts (.fieldLink RX5 22 "OddNoticeModel" "thrown" "I") (List.mem_of_getElem? (i := 1) (by decide +kernel))) (fun _ h9 => h9) rfl (by decide +kernel) rfl rfl (Nat.le_of_ble_eq_true rfl) dX5_has_2 (fun H locs hP hD hS => ?_)
  have hP : va_P D vwCl (wM q cI (va_up v 0 (va_up (v 0) 2 0))) H := hP
  have hD : va_D A (wM q cI (va_up v 0 (va_up (v 0) 2 0))) := hD
  refine lv_iload_n hx hb dX5_has_5 rfl (lv_at hl 1 rfl) ?_
  refine o_ri (va_runS (As := [.int (nI r)]) (rest := []) ⟨hx, hb, hml, hown, hts⟩ (k_X5_isReader l D cI cR cS cL r (by show r < 2 ^ 32; first | assumption | omega)) (va_cwS 1 hts gX5_has_X5_isReader rfl rfl rfl (by decide +kernel) ⟨Nat.le_of_ble_eq_true rfl, Nat.le_of_ble_eq_true rfl⟩) (o_pR hK hN (hP.sub (ws' := []) [] rfl)) rfl rfl hl.1 rfl (lv_room (Nat.le_of_ble_eq_true rfl)) dX5_has_6 ⟨Nat.zero_le _, Nat.zero_le _⟩) (fun r_2 e_1 => ?_)
  have e_1 : r_2 = nI (bn (r < 4)) := e_1
  subst e_1
  refine o_ifz (tgt := 28) hx hb dX5_has_9 (by decide) (fun c_3 => ?_) (fun c_3 => ?_)
  · skip
    refine lv_aload_n hx hb dX5_has_28 rfl (lv_at hl 0 rfl) ?_
    refine o_const (k := 1) hx hb dX5_has_29 (by decide) ?_
    refine o_wi (va_runV (As := [.int (nI 1)]) (rest := []) ⟨hx, hb, hml, hown, hts⟩ (k_X5_fails l D cI cR cS cL H.size q (va_up v 0 (va_up (v 0) 2 0)) 1 ) (cwV 1 hts gX5_has_X5_fails rfl rfl rfl (by decide +kernel) ⟨Nat.le_of_ble_eq_true rfl, Nat.le_of_ble_eq_true rfl⟩) (o_v (o_pB hK hN hP hD) (va_recv hK hP (ci := 5) (q0 := 0) rfl rfl)) rfl rfl hl.1 rfl (lv_room (Nat.le_of_ble_eq_true rfl)) dX5_has_30 ⟨Nat.zero_le _, Nat.zero_le _⟩) hP hD hS hA [0, 1, 2, 3, 4] (by decide) rfl (fun _ => rfl) (fun r_5 _ H locs e_4 hP hD hS => ?_)
    have e_4 : r_5 = nI 0 := e_4
    subst e_4
    have hP : va_P D vwCl (wM q cI (va_up v 0 (va_up (v 0) 2 1))) H := hP
    have hD : va_D A (wM q cI (va_up v 0 (va_up (v 0) 2 1))) := hD
    have w_6 : (wM q cI (va_up v 0 (va_up (v 0) 2 (if r < 4 ∧ f < 5 then 0 else 1)))) = (wM q cI (va_up v 0 (va_up (v 0) 2 1))) := (by rw [show (if r < 4 ∧ f < 5 then 0 else 1) = 1 from by (repeat' split) <;> omega])
    rw [← w_6] at hP
    exact W.iret (v := nI 0) hx hb hrt (fun t ht hW => ⟨⟨_, (), rfl, (congrArg nI (by (repeat' split) <;> first | rfl | omega)), by show va_P D vwCl _ t.heap; rw [ht]; exact hP⟩, hS.F ht⟩) hS.2.2 dX5_has_33
  · skip
    refine lv_iload_n hx hb dX5_has_12 rfl (lv_at hl 2 rfl) ?_
    refine o_ri (va_runS (As := [.int (nI f)]) (rest := []) ⟨hx, hb, hml, hown, hts⟩ (k_X5_isField l D cI cR cS cL f (by show f < 2 ^ 32; first | assumption | omega)) (va_cwS 1 hts gX5_has_X5_isField rfl rfl rfl (by decide +kernel) ⟨Nat.le_of_ble_eq_true rfl, Nat.le_of_ble_eq_true rfl⟩) (o_pR hK hN (hP.sub (ws' := []) [] rfl)) rfl rfl hl.1 rfl (lv_room (Nat.le_of_ble_eq_true rfl)) dX5_has_13 ⟨Nat.zero_le _, Nat.zero_le _⟩) (fun r_8 e_7 => ?_)
    have e_7 : r_8 = nI (bn (f < 5)) := e_7
    subst e_7
    refine o_ifz (tgt := 28) hx hb dX5_has_16 (by decide) (fun c_9 => ?_) (fun c_9 => ?_)
    · skip
      refine lv_aload_n hx hb dX5_has_28 rfl (lv_at hl 0 rfl) ?_
      refine o_const (k := 1) hx hb dX5_has_29 (by decide) ?_
      refine o_wi (va_runV (As := [.int (nI 1)]) (rest := []) ⟨hx, hb, hml, hown, hts⟩ (k_X5_fails l D cI cR cS cL H.size q (va_up v 0 (va_up (v 0) 2 0)) 1 ) (cwV 1 hts gX5_has_X5_fails rfl rfl rfl (by decide +kernel) ⟨Nat.le_of_ble_eq_true rfl, Nat.le_of_ble_eq_true rfl⟩) (o_v (o_pB hK hN hP hD) (va_recv hK hP (ci := 5) (q0 := 0) rfl rfl)) rfl rfl hl.1 rfl (lv_room (Nat.le_of_ble_eq_true rfl)) dX5_has_30 ⟨Nat.zero_le _, Nat.zero_le _⟩) hP hD hS hA [0, 1, 2, 3, 4] (by decide) rfl (fun _ => rfl) (fun r_11 _ H locs e_10 hP hD hS => ?_)
      have e_10 : r_11 = nI 0 := e_10
      subst e_10
      have hP : va_P D vwCl (wM q cI (va_up v 0 (va_up (v 0) 2 1))) H := hP
      have hD : va_D A (wM q cI (va_up v 0 (va_up (v 0) 2 1))) := hD
      have w_12 : (wM q cI (va_up v 0 (va_up (v 0) 2 (if r < 4 ∧ f < 5 then 0 else 1)))) = (wM q cI (va_up v 0 (va_up (v 0) 2 1))) := (by rw [show (if r < 4 ∧ f < 5 then 0 else 1) = 1 from by (repeat' split) <;> omega])
      rw [← w_12] at hP
      exact W.iret (v := nI 0) hx hb hrt (fun t ht hW => ⟨⟨_, (), rfl, (congrArg nI (by (repeat' split) <;> first | rfl | omega)), by show va_P D vwCl _ t.heap; rw [ht]; exact hP⟩, hS.F ht⟩) hS.2.2 dX5_has_33
    · skip
      refine lv_aload_n hx hb dX5_has_19 rfl (lv_at hl 0 rfl) ?_
      refine lv_iload_n hx hb dX5_has_20 rfl (lv_at hl 1 rfl) ?_
      refine lv_iload_n hx hb dX5_has_21 rfl (lv_at hl 2 rfl) ?_
      refine o_ri (va_runV (As := [.int (nI r), .int (nI f)]) (rest := []) ⟨hx, hb, hml, hown, hts⟩ (k_X5_had l D cI cR cS cL q (va_up v 0 (va_up (v 0) 2 0)) b r f (hI) (by show b < 2 ^ 28; first | assumption | omega) (by show r < 4; first | assumption | omega) (by show f < 5; first | assumption | omega)) (cwV 2 hts gX5_has_X5_had rfl rfl rfl (by decide +kernel) ⟨Nat.le_of_ble_eq_true rfl, Nat.le_of_ble_eq_true rfl⟩) (o_v (o_pR hK hN hP) (va_recv hK hP (ci := 5) (q0 := 0) rfl rfl)) rfl rfl hl.1 rfl (lv_room (Nat.le_of_ble_eq_true rfl)) dX5_has_22 ⟨Nat.zero_le _, Nat.zero_le _⟩) (fun r_14 e_13 => ?_)
      have e_13 : r_14 = nI (m_had (v 1) r f) := e_13
      subst e_13
      refine lv_goto (tgt := 33) hx hb dX5_has_25 (by decide) ?_
      have w_15 : (wM q cI (va_up v 0 (va_up (v 0) 2 (if r < 4 ∧ f < 5 then 0 else 1)))) = (wM q cI (va_up v 0 (va_up (v 0) 2 0))) := (by rw [show (if r < 4 ∧ f < 5 then 0 else 1) = 0 from by (repeat' split) <;> omega])
      rw [← w_15] at hP
      exact W.iret (v := nI (m_had (v 1) r f)) hx hb hrt (fun t ht hW => ⟨⟨_, (), rfl, (congrArg nI (by (repeat' split) <;> first | rfl | omega)), by show va_P D vwCl _ t.heap; rw [ht]; exact hP⟩, hS.F ht⟩) hS.2.2 dX5_has_33
set_option maxHeartbeats 4000000 in
set_option maxRecDepth 100000 in
theorem k_X5_ofAll (l : Launch) (D : va_G) (cI cR cS cL : ClassId) (q : Nat → Nat) (v : Nat → Nat → Nat) (b : Nat) (k : Nat) (hI : m_I b (v 1)) (hb : b < 2 ^ 28) (hk : k = 0 ∨ k = 4 ∨ k = 5) : Met l yX5_ofAll wsX5_ofAll ({ frames := 2, cells := 0, slots := 0, locals := 43 }) (va_Pc [.ref (q 0), .int (nI k)] (o_R D (o_T cI cR cS cL) (wM q cI v))) (vp_Si (fun rz => rz = nI (m_all (v 1) k))) 0 0 (fun _ => False) := by
  refine Met.ofW (cc := cX5_ofAll) (maxL := 4) (ret := (some .int)) (by decide) rfl ?_
  intro p e s m args below meth cd s₁ B hml hv
  obtain ⟨rfl, hP, hK, hN⟩ := hv
  have hx := B.exec
  have hb := B.bytes
  have hrt := B.returns
  have hts := atoms_spec (ws := wsX5_ofAll) B.pre
  have hown : s.vm.findClass RX5 = some m.cls := findClass_of_methodNamed B.named
  have hlocks := B.notSynchronized
  have hl := lv_entry ([.ref (q 0), .int (nI k)]) (n := 4) (Nat.le_of_ble_eq_true rfl)
  rw [lg_entry_eq]
  generalize (lg_sl ([.ref (q 0), .int (nI k)]) ++ List.replicate (4 - (lg_sl ([.ref (q 0), .int (nI k)])).length) Slot.unset).toArray = ls at hl ⊢
  have hl : lv_has ls 4 [(0, .ref (q 0)), (1, .int (nI k))] := hl
  rcases hk with rfl | rfl | rfl
  · skip
    have hIc := hI
    obtain ⟨⟨i1, hw, i3, i4, i5⟩, ⟨i6, i7, i8, i9, i10⟩, i11⟩ := hI
    have j0 := i11 0 (by omega)
    have j1 := i11 1 (by omega)
    have j2 := i11 2 (by omega)
    have j3 := i11 3 (by omega)
    refine o_const (k := 0) hx hb dX5_ofAll_0 (by decide) ?_
    refine lv_istore_n (lv' := [(2, .int (nI 0)), (0, .ref (q 0)), (1, .int (nI 0))]) hx hb dX5_ofAll_1 rfl hl (by decide) rfl (fun ls hl => ?_)
    refine o_const (k := 0) hx hb dX5_ofAll_2 (by decide) ?_
    refine lv_istore_n (lv' := [(3, .int (nI 0)), (2, .int (nI 0)), (0, .ref (q 0)), (1, .int (nI 0))]) hx hb dX5_ofAll_3 rfl hl (by decide) rfl (fun ls hl => ?_)
    refine lv_iload_n hx hb dX5_ofAll_4 rfl (lv_at hl 0 rfl) ?_
    refine o_const (k := 4) hx hb dX5_ofAll_5 (by decide) ?_
    refine o_icmp_ge (tgt := 45) hx hb dX5_ofAll_6 (by decide) (Nat.le_of_ble_eq_true rfl) (Nat.le_of_ble_eq_true rfl) (fun c0 => absurd c0 (by decide)) (fun _ => ?_)
    refine lv_iload_n hx hb dX5_ofAll_9 rfl (lv_at hl 1 rfl) ?_
    refine lv_iload_n hx hb dX5_ofAll_10 rfl (lv_at hl 3 rfl) ?_
    refine o_if_ne (tgt := 31) hx hb dX5_ofAll_11 (by decide) (Nat.le_of_ble_eq_true rfl) (fun c0 => absurd c0 (by decide)) (fun _ => ?_)
    refine lv_aload_n hx hb dX5_ofAll_14 rfl (lv_at hl 2 rfl) ?_
    refine lv_iload_n hx hb dX5_ofAll_15 rfl (lv_at hl 0 rfl) ?_
    refine o_ri (va_runV (As := [.int (nI 0)]) (rest := [.int (nI 0)]) ⟨hx, hb, hml, hown, hts⟩ (k_X5_ofReading l D cI cR cS cL q v 0 (by show 0 < 4; first | assumption | omega) (by show ∀ k, v 1 k < 2 ^ 32; first | assumption | omega) (by show v 1 1 < 2 ^ 31; first | assumption | omega) (by show v 1 (15 + 17 * 0 + 3) < 2 ^ 31; first | assumption | omega)) (cwV 1 hts gX5_ofAll_X5_ofReading rfl rfl rfl (by decide +kernel) ⟨Nat.le_of_ble_eq_true rfl, Nat.le_of_ble_eq_true rfl⟩) (o_v (o_pR hK hN hP) (va_recv hK hP (ci := 5) (q0 := 0) rfl rfl)) rfl rfl hl.1 rfl (lv_room (Nat.le_of_ble_eq_true rfl)) dX5_ofAll_16 ⟨Nat.zero_le _, Nat.zero_le _⟩) (fun r_2 e_1 => ?_)
    have e_1 : r_2 = nI (m_ofr (v 1) 0) := e_1
    subst e_1
    have gv_3 := m_ofr_le (v 1) 0
    refine o_const (k := 1) hx hb dX5_ofAll_19 (by decide) ?_
    have J_1 : W p l e (headSpec wsX5_ofAll ({ frames := 2, cells := 0, slots := 0, locals := 43 })).room s m ([.ref (q 0), .int (nI 0)] : List Value).toArray below meth cd s.heap [] 0 0 (MQ below (vp_Si (fun rz => rz = nI (m_all (v 1) 0))) ([.ref (q 0), .int (nI 0)] : List Value).toArray s 0 0 (fun _ => False)) (F0 m 37 ls [.int (nI (m_rd1 (v 1) 0)), .int (nI 0)]) := by
      refine o_iadd (a := 0) (b := (m_rd1 (v 1) 0)) (k := (m_rd1 (v 1) 0)) hx hb dX5_ofAll_37 (Nat.zero_add _) ?_
      refine lv_istore_n (lv' := [(2, .int (nI (m_rd1 (v 1) 0))), (3, .int (nI 0)), (0, .ref (q 0)), (1, .int (nI 0))]) hx hb dX5_ofAll_38 rfl hl (by decide) rfl (fun ls hl => ?_)
      refine lv_iinc (v := nI 1) (lv' := [(3, .int (nI 1)), (2, .int (nI (m_rd1 (v 1) 0))), (0, .ref (q 0)), (1, .int (nI 0))]) hx hb dX5_ofAll_39 hl (k := 1) rfl (by decide) (by decide) rfl (fun ls hl => ?_)
      refine lv_goto (tgt := 4) hx hb dX5_ofAll_42 (by decide) ?_
      refine lv_iload_n hx hb dX5_ofAll_4 rfl (lv_at hl 0 rfl) ?_
      refine o_const (k := 4) hx hb dX5_ofAll_5 (by decide) ?_
      refine o_icmp_ge (tgt := 45) hx hb dX5_ofAll_6 (by decide) (Nat.le_of_ble_eq_true rfl) (Nat.le_of_ble_eq_true rfl) (fun c0 => absurd c0 (by decide)) (fun _ => ?_)
      refine lv_iload_n hx hb dX5_ofAll_9 rfl (lv_at hl 1 rfl) ?_
      refine lv_iload_n hx hb dX5_ofAll_10 rfl (lv_at hl 3 rfl) ?_
      refine o_if_ne (tgt := 31) hx hb dX5_ofAll_11 (by decide) (Nat.le_of_ble_eq_true rfl) (fun c0 => absurd c0 (by decide)) (fun _ => ?_)
      refine lv_aload_n hx hb dX5_ofAll_14 rfl (lv_at hl 2 rfl) ?_
      refine lv_iload_n hx hb dX5_ofAll_15 rfl (lv_at hl 0 rfl) ?_
      refine o_ri (va_runV (As := [.int (nI 1)]) (rest := [.int (nI (m_rd1 (v 1) 0))]) ⟨hx, hb, hml, hown, hts⟩ (k_X5_ofReading l D cI cR cS cL q v 1 (by show 1 < 4; first | assumption | omega) (by show ∀ k, v 1 k < 2 ^ 32; first | assumption | omega) (by show v 1 1 < 2 ^ 31; first | assumption | omega) (by show v 1 (15 + 17 * 1 + 3) < 2 ^ 31; first | assumption | omega)) (cwV 1 hts gX5_ofAll_X5_ofReading rfl rfl rfl (by decide +kernel) ⟨Nat.le_of_ble_eq_true rfl, Nat.le_of_ble_eq_true rfl⟩) (o_v (o_pR hK hN hP) (va_recv hK hP (ci := 5) (q0 := 0) rfl rfl)) rfl rfl hl.1 rfl (lv_room (Nat.le_of_ble_eq_true rfl)) dX5_ofAll_16 ⟨Nat.zero_le _, Nat.zero_le _⟩) (fun r_5 e_4 => ?_)
      have e_4 : r_5 = nI (m_ofr (v 1) 1) := e_4
      subst e_4
      have gv_6 := m_ofr_le (v 1) 1
      refine o_const (k := 1) hx hb dX5_ofAll_19 (by decide) ?_
      have J_2 : W p l e (headSpec wsX5_ofAll ({ frames := 2, cells := 0, slots := 0, locals := 43 })).room s m ([.ref (q 0), .int (nI 0)] : List Value).toArray below meth cd s.heap [] 0 0 (MQ below (vp_Si (fun rz => rz = nI (m_all (v 1) 0))) ([.ref (q 0), .int (nI 0)] : List Value).toArray s 0 0 (fun _ => False)) (F0 m 37 ls [.int (nI (m_rd1 (v 1) 1)), .int (nI (m_rd1 (v 1) 0))]) := by
        refine o_iadd (a := (m_rd1 (v 1) 0)) (b := (m_rd1 (v 1) 1)) (k := ((m_rd1 (v 1) 0) + (m_rd1 (v 1) 1))) hx hb dX5_ofAll_37 rfl ?_
        refine lv_istore_n (lv' := [(2, .int (nI ((m_rd1 (v 1) 0) + (m_rd1 (v 1) 1)))), (3, .int (nI 1)), (0, .ref (q 0)), (1, .int (nI 0))]) hx hb dX5_ofAll_38 rfl hl (by decide) rfl (fun ls hl => ?_)
        refine lv_iinc (v := nI 2) (lv' := [(3, .int (nI 2)), (2, .int (nI ((m_rd1 (v 1) 0) + (m_rd1 (v 1) 1)))), (0, .ref (q 0)), (1, .int (nI 0))]) hx hb dX5_ofAll_39 hl (k := 1) rfl (by decide) (by decide) rfl (fun ls hl => ?_)
        refine lv_goto (tgt := 4) hx hb dX5_ofAll_42 (by decide) ?_
        refine lv_iload_n hx hb dX5_ofAll_4 rfl (lv_at hl 0 rfl) ?_
        refine o_const (k := 4) hx hb dX5_ofAll_5 (by decide) ?_
        refine o_icmp_ge (tgt := 45) hx hb dX5_ofAll_6 (by decide) (Nat.le_of_ble_eq_true rfl) (Nat.le_of_ble_eq_true rfl) (fun c0 => absurd c0 (by decide)) (fun _ => ?_)
        refine lv_iload_n hx hb dX5_ofAll_9 rfl (lv_at hl 1 rfl) ?_
        refine lv_iload_n hx hb dX5_ofAll_10 rfl (lv_at hl 3 rfl) ?_
        refine o_if_ne (tgt := 31) hx hb dX5_ofAll_11 (by decide) (Nat.le_of_ble_eq_true rfl) (fun c0 => absurd c0 (by decide)) (fun _ => ?_)
        refine lv_aload_n hx hb dX5_ofAll_14 rfl (lv_at hl 2 rfl) ?_
        refine lv_iload_n hx hb dX5_ofAll_15 rfl (lv_at hl 0 rfl) ?_
        refine o_ri (va_runV (As := [.int (nI 2)]) (rest := [.int (nI ((m_rd1 (v 1) 0) + (m_rd1 (v 1) 1)))]) ⟨hx, hb, hml, hown, hts⟩ (k_X5_ofReading l D cI cR cS cL q v 2 (by show 2 < 4; first | assumption | omega) (by show ∀ k, v 1 k < 2 ^ 32; first | assumption | omega) (by show v 1 1 < 2 ^ 31; first | assumption | omega) (by show v 1 (15 + 17 * 2 + 3) < 2 ^ 31; first | assumption | omega)) (cwV 1 hts gX5_ofAll_X5_ofReading rfl rfl rfl (by decide +kernel) ⟨Nat.le_of_ble_eq_true rfl, Nat.le_of_ble_eq_true rfl⟩) (o_v (o_pR hK hN hP) (va_recv hK hP (ci := 5) (q0 := 0) rfl rfl)) rfl rfl hl.1 rfl (lv_room (Nat.le_of_ble_eq_true rfl)) dX5_ofAll_16 ⟨Nat.zero_le _, Nat.zero_le _⟩) (fun r_8 e_7 => ?_)
        have e_7 : r_8 = nI (m_ofr (v 1) 2) := e_7
        subst e_7
        have gv_9 := m_ofr_le (v 1) 2
        refine o_const (k := 1) hx hb dX5_ofAll_19 (by decide) ?_
        have J_3 : W p l e (headSpec wsX5_ofAll ({ frames := 2, cells := 0, slots := 0, locals := 43 })).room s m ([.ref (q 0), .int (nI 0)] : List Value).toArray below meth cd s.heap [] 0 0 (MQ below (vp_Si (fun rz => rz = nI (m_all (v 1) 0))) ([.ref (q 0), .int (nI 0)] : List Value).toArray s 0 0 (fun _ => False)) (F0 m 37 ls [.int (nI (m_rd1 (v 1) 2)), .int (nI ((m_rd1 (v 1) 0) + (m_rd1 (v 1) 1)))]) := by
          refine o_iadd (a := ((m_rd1 (v 1) 0) + (m_rd1 (v 1) 1))) (b := (m_rd1 (v 1) 2)) (k := ((m_rd1 (v 1) 0) + (m_rd1 (v 1) 1) + (m_rd1 (v 1) 2))) hx hb dX5_ofAll_37 rfl ?_
          refine lv_istore_n (lv' := [(2, .int (nI ((m_rd1 (v 1) 0) + (m_rd1 (v 1) 1) + (m_rd1 (v 1) 2)))), (3, .int (nI 2)), (0, .ref (q 0)), (1, .int (nI 0))]) hx hb dX5_ofAll_38 rfl hl (by decide) rfl (fun ls hl => ?_)
          refine lv_iinc (v := nI 3) (lv' := [(3, .int (nI 3)), (2, .int (nI ((m_rd1 (v 1) 0) + (m_rd1 (v 1) 1) + (m_rd1 (v 1) 2)))), (0, .ref (q 0)), (1, .int (nI 0))]) hx hb dX5_ofAll_39 hl (k := 1) rfl (by decide) (by decide) rfl (fun ls hl => ?_)
          refine lv_goto (tgt := 4) hx hb dX5_ofAll_42 (by decide) ?_
          refine lv_iload_n hx hb dX5_ofAll_4 rfl (lv_at hl 0 rfl) ?_
          refine o_const (k := 4) hx hb dX5_ofAll_5 (by decide) ?_
          refine o_icmp_ge (tgt := 45) hx hb dX5_ofAll_6 (by decide) (Nat.le_of_ble_eq_true rfl) (Nat.le_of_ble_eq_true rfl) (fun c0 => absurd c0 (by decide)) (fun _ => ?_)
          refine lv_iload_n hx hb dX5_ofAll_9 rfl (lv_at hl 1 rfl) ?_
          refine lv_iload_n hx hb dX5_ofAll_10 rfl (lv_at hl 3 rfl) ?_
          refine o_if_ne (tgt := 31) hx hb dX5_ofAll_11 (by decide) (Nat.le_of_ble_eq_true rfl) (fun c0 => absurd c0 (by decide)) (fun _ => ?_)
          refine lv_aload_n hx hb dX5_ofAll_14 rfl (lv_at hl 2 rfl) ?_
          refine lv_iload_n hx hb dX5_ofAll_15 rfl (lv_at hl 0 rfl) ?_
          refine o_ri (va_runV (As := [.int (nI 3)]) (rest := [.int (nI ((m_rd1 (v 1) 0) + (m_rd1 (v 1) 1) + (m_rd1 (v 1) 2)))]) ⟨hx, hb, hml, hown, hts⟩ (k_X5_ofReading l D cI cR cS cL q v 3 (by show 3 < 4; first | assumption | omega) (by show ∀ k, v 1 k < 2 ^ 32; first | assumption | omega) (by show v 1 1 < 2 ^ 31; first | assumption | omega) (by show v 1 (15 + 17 * 3 + 3) < 2 ^ 31; first | assumption | omega)) (cwV 1 hts gX5_ofAll_X5_ofReading rfl rfl rfl (by decide +kernel) ⟨Nat.le_of_ble_eq_true rfl, Nat.le_of_ble_eq_true rfl⟩) (o_v (o_pR hK hN hP) (va_recv hK hP (ci := 5) (q0 := 0) rfl rfl)) rfl rfl hl.1 rfl (lv_room (Nat.le_of_ble_eq_true rfl)) dX5_ofAll_16 ⟨Nat.zero_le _, Nat.zero_le _⟩) (fun r_11 e_10 => ?_)
          have e_10 : r_11 = nI (m_ofr (v 1) 3) := e_10
          subst e_10
          have gv_12 := m_ofr_le (v 1) 3
          refine o_const (k := 1) hx hb dX5_ofAll_19 (by decide) ?_
          have J_4 : W p l e (headSpec wsX5_ofAll ({ frames := 2, cells := 0, slots := 0, locals := 43 })).room s m ([.ref (q 0), .int (nI 0)] : List Value).toArray below meth cd s.heap [] 0 0 (MQ below (vp_Si (fun rz => rz = nI (m_all (v 1) 0))) ([.ref (q 0), .int (nI 0)] : List Value).toArray s 0 0 (fun _ => False)) (F0 m 37 ls [.int (nI (m_rd1 (v 1) 3)), .int (nI ((m_rd1 (v 1) 0) + (m_rd1 (v 1) 1) + (m_rd1 (v 1) 2)))]) := by
            refine o_iadd (a := ((m_rd1 (v 1) 0) + (m_rd1 (v 1) 1) + (m_rd1 (v 1) 2))) (b := (m_rd1 (v 1) 3)) (k := ((m_rd1 (v 1) 0) + (m_rd1 (v 1) 1) + (m_rd1 (v 1) 2) + (m_rd1 (v 1) 3))) hx hb dX5_ofAll_37 rfl ?_
            refine lv_istore_n (lv' := [(2, .int (nI ((m_rd1 (v 1) 0) + (m_rd1 (v 1) 1) + (m_rd1 (v 1) 2) + (m_rd1 (v 1) 3)))), (3, .int (nI 3)), (0, .ref (q 0)), (1, .int (nI 0))]) hx hb dX5_ofAll_38 rfl hl (by decide) rfl (fun ls hl => ?_)
            refine lv_iinc (v := nI 4) (lv' := [(3, .int (nI 4)), (2, .int (nI ((m_rd1 (v 1) 0) + (m_rd1 (v 1) 1) + (m_rd1 (v 1) 2) + (m_rd1 (v 1) 3)))), (0, .ref (q 0)), (1, .int (nI 0))]) hx hb dX5_ofAll_39 hl (k := 1) rfl (by decide) (by decide) rfl (fun ls hl => ?_)
            refine lv_goto (tgt := 4) hx hb dX5_ofAll_42 (by decide) ?_
            refine lv_iload_n hx hb dX5_ofAll_4 rfl (lv_at hl 0 rfl) ?_
            refine o_const (k := 4) hx hb dX5_ofAll_5 (by decide) ?_
            refine o_icmp_ge (tgt := 45) hx hb dX5_ofAll_6 (by decide) (Nat.le_of_ble_eq_true rfl) (Nat.le_of_ble_eq_true rfl) (fun _ => ?_) (fun c0 => absurd c0 (by decide))
            refine lv_iload_n hx hb dX5_ofAll_45 rfl (lv_at hl 1 rfl) ?_
            exact W.iret (v := nI ((m_rd1 (v 1) 0) + (m_rd1 (v 1) 1) + (m_rd1 (v 1) 2) + (m_rd1 (v 1) 3))) hx hb hrt (fun t ht hW => ⟨_, rfl, rfl, ht⟩) (fun _ h => nomatch h) dX5_ofAll_46
          refine o_icmp_ne (tgt := 27) hx hb dX5_ofAll_20 (by decide) (by omega) (Nat.le_of_ble_eq_true rfl) (fun c_13 => ?_) (fun c_13 => ?_)
          · skip
            refine o_const (k := 0) hx hb dX5_ofAll_27 (by decide) ?_
            refine lv_goto (tgt := 37) hx hb dX5_ofAll_28 (by decide) ?_
            refine o_ti (show nI 0 = nI (m_rd1 (v 1) 3) from congrArg nI (by unfold m_rd1; (repeat' split) <;> omega)) ?_
            exact J_4
          · skip
            refine o_const (k := 1) hx hb dX5_ofAll_23 (by decide) ?_
            refine lv_goto (tgt := 37) hx hb dX5_ofAll_24 (by decide) ?_
            refine o_ti (show nI 1 = nI (m_rd1 (v 1) 3) from congrArg nI (by unfold m_rd1; (repeat' split) <;> omega)) ?_
            exact J_4
        refine o_icmp_ne (tgt := 27) hx hb dX5_ofAll_20 (by decide) (by omega) (Nat.le_of_ble_eq_true rfl) (fun c_14 => ?_) (fun c_14 => ?_)
        · skip
          refine o_const (k := 0) hx hb dX5_ofAll_27 (by decide) ?_
          refine lv_goto (tgt := 37) hx hb dX5_ofAll_28 (by decide) ?_
          refine o_ti (show nI 0 = nI (m_rd1 (v 1) 2) from congrArg nI (by unfold m_rd1; (repeat' split) <;> omega)) ?_
          exact J_3
        · skip
          refine o_const (k := 1) hx hb dX5_ofAll_23 (by decide) ?_
          refine lv_goto (tgt := 37) hx hb dX5_ofAll_24 (by decide) ?_
          refine o_ti (show nI 1 = nI (m_rd1 (v 1) 2) from congrArg nI (by unfold m_rd1; (repeat' split) <;> omega)) ?_
          exact J_3
      refine o_icmp_ne (tgt := 27) hx hb dX5_ofAll_20 (by decide) (by omega) (Nat.le_of_ble_eq_true rfl) (fun c_15 => ?_) (fun c_15 => ?_)
      · skip
        refine o_const (k := 0) hx hb dX5_ofAll_27 (by decide) ?_
        refine lv_goto (tgt := 37) hx hb dX5_ofAll_28 (by decide) ?_
        refine o_ti (show nI 0 = nI (m_rd1 (v 1) 1) from congrArg nI (by unfold m_rd1; (repeat' split) <;> omega)) ?_
        exact J_2
      · skip
        refine o_const (k := 1) hx hb dX5_ofAll_23 (by decide) ?_
        refine lv_goto (tgt := 37) hx hb dX5_ofAll_24 (by decide) ?_
        refine o_ti (show nI 1 = nI (m_rd1 (v 1) 1) from congrArg nI (by unfold m_rd1; (repeat' split) <;> omega)) ?_
        exact J_2
    refine o_icmp_ne (tgt := 27) hx hb dX5_ofAll_20 (by decide) (by omega) (Nat.le_of_ble_eq_true rfl) (fun c_16 => ?_) (fun c_16 => ?_)
    · skip
      refine o_const (k := 0) hx hb dX5_ofAll_27 (by decide) ?_
      refine lv_goto (tgt := 37) hx hb dX5_ofAll_28 (by decide) ?_
      refine o_ti (show nI 0 = nI (m_rd1 (v 1) 0) from congrArg nI (by unfold m_rd1; (repeat' split) <;> omega)) ?_
      exact J_1
    · skip
      refine o_const (k := 1) hx hb dX5_ofAll_23 (by decide) ?_
      refine lv_goto (tgt := 37) hx hb dX5_ofAll_24 (by decide) ?_
      refine o_ti (show nI 1 = nI (m_rd1 (v 1) 0) from congrArg nI (by unfold m_rd1; (repeat' split) <;> omega)) ?_
      exact J_1
  · skip
    have hIc := hI
    obtain ⟨⟨i1, hw, i3, i4, i5⟩, ⟨i6, i7, i8, i9, i10⟩, i11⟩ := hI
    have j0 := i11 0 (by omega)
    have j1 := i11 1 (by omega)
    have j2 := i11 2 (by omega)
    have j3 := i11 3 (by omega)
    refine o_const (k := 0) hx hb dX5_ofAll_0 (by decide) ?_
    refine lv_istore_n (lv' := [(2, .int (nI 0)), (0, .ref (q 0)), (1, .int (nI 4))]) hx hb dX5_ofAll_1 rfl hl (by decide) rfl (fun ls hl => ?_)
    refine o_const (k := 0) hx hb dX5_ofAll_2 (by decide) ?_
    refine lv_istore_n (lv' := [(3, .int (nI 0)), (2, .int (nI 0)), (0, .ref (q 0)), (1, .int (nI 4))]) hx hb dX5_ofAll_3 rfl hl (by decide) rfl (fun ls hl => ?_)
    refine lv_iload_n hx hb dX5_ofAll_4 rfl (lv_at hl 0 rfl) ?_
    refine o_const (k := 4) hx hb dX5_ofAll_5 (by decide) ?_
    refine o_icmp_ge (tgt := 45) hx hb dX5_ofAll_6 (by decide) (Nat.le_of_ble_eq_true rfl) (Nat.le_of_ble_eq_true rfl) (fun c0 => absurd c0 (by decide)) (fun _ => ?_)
    refine lv_iload_n hx hb dX5_ofAll_9 rfl (lv_at hl 1 rfl) ?_
    refine lv_iload_n hx hb dX5_ofAll_10 rfl (lv_at hl 3 rfl) ?_
    refine o_if_ne (tgt := 31) hx hb dX5_ofAll_11 (by decide) (Nat.le_of_ble_eq_true rfl) (fun _ => ?_) (fun c0 => absurd c0 (by decide))
    refine lv_aload_n hx hb dX5_ofAll_31 rfl (lv_at hl 2 rfl) ?_
    refine lv_iload_n hx hb dX5_ofAll_32 rfl (lv_at hl 0 rfl) ?_
    refine lv_iload_n hx hb dX5_ofAll_33 rfl (lv_at hl 3 rfl) ?_
    refine o_ri (va_runV (As := [.int (nI 0), .int (nI 4)]) (rest := [.int (nI 0)]) ⟨hx, hb, hml, hown, hts⟩ (k_X5_of l D cI cR cS cL q v 0 4 (by show 0 < 4; first | assumption | omega) (by show 4 < 17; first | assumption | omega)) (cwV 2 hts gX5_ofAll_X5_of rfl rfl rfl (by decide +kernel) ⟨Nat.le_of_ble_eq_true rfl, Nat.le_of_ble_eq_true rfl⟩) (o_v (o_pR hK hN hP) (va_recv hK hP (ci := 5) (q0 := 0) rfl rfl)) rfl rfl hl.1 rfl (lv_room (Nat.le_of_ble_eq_true rfl)) dX5_ofAll_34 ⟨Nat.zero_le _, Nat.zero_le _⟩) (fun r_18 e_17 => ?_)
    have e_17 : r_18 = nI (v 1 (15 + 17 * 0 + 4)) := e_17
    subst e_17
    refine o_iadd (a := 0) (b := (v 1 (15 + 17 * 0 + 4))) (k := (v 1 (15 + 17 * 0 + 4))) hx hb dX5_ofAll_37 (Nat.zero_add _) ?_
    refine lv_istore_n (lv' := [(2, .int (nI (v 1 (15 + 17 * 0 + 4)))), (3, .int (nI 0)), (0, .ref (q 0)), (1, .int (nI 4))]) hx hb dX5_ofAll_38 rfl hl (by decide) rfl (fun ls hl => ?_)
    refine lv_iinc (v := nI 1) (lv' := [(3, .int (nI 1)), (2, .int (nI (v 1 (15 + 17 * 0 + 4)))), (0, .ref (q 0)), (1, .int (nI 4))]) hx hb dX5_ofAll_39 hl (k := 1) rfl (by decide) (by decide) rfl (fun ls hl => ?_)
    refine lv_goto (tgt := 4) hx hb dX5_ofAll_42 (by decide) ?_
    refine lv_iload_n hx hb dX5_ofAll_4 rfl (lv_at hl 0 rfl) ?_
    refine o_const (k := 4) hx hb dX5_ofAll_5 (by decide) ?_
    refine o_icmp_ge (tgt := 45) hx hb dX5_ofAll_6 (by decide) (Nat.le_of_ble_eq_true rfl) (Nat.le_of_ble_eq_true rfl) (fun c0 => absurd c0 (by decide)) (fun _ => ?_)
    refine lv_iload_n hx hb dX5_ofAll_9 rfl (lv_at hl 1 rfl) ?_
    refine lv_iload_n hx hb dX5_ofAll_10 rfl (lv_at hl 3 rfl) ?_
    refine o_if_ne (tgt := 31) hx hb dX5_ofAll_11 (by decide) (Nat.le_of_ble_eq_true rfl) (fun _ => ?_) (fun c0 => absurd c0 (by decide))
    refine lv_aload_n hx hb dX5_ofAll_31 rfl (lv_at hl 2 rfl) ?_
    refine lv_iload_n hx hb dX5_ofAll_32 rfl (lv_at hl 0 rfl) ?_
    refine lv_iload_n hx hb dX5_ofAll_33 rfl (lv_at hl 3 rfl) ?_
    refine o_ri (va_runV (As := [.int (nI 1), .int (nI 4)]) (rest := [.int (nI (v 1 (15 + 17 * 0 + 4)))]) ⟨hx, hb, hml, hown, hts⟩ (k_X5_of l D cI cR cS cL q v 1 4 (by show 1 < 4; first | assumption | omega) (by show 4 < 17; first | assumption | omega)) (cwV 2 hts gX5_ofAll_X5_of rfl rfl rfl (by decide +kernel) ⟨Nat.le_of_ble_eq_true rfl, Nat.le_of_ble_eq_true rfl⟩) (o_v (o_pR hK hN hP) (va_recv hK hP (ci := 5) (q0 := 0) rfl rfl)) rfl rfl hl.1 rfl (lv_room (Nat.le_of_ble_eq_true rfl)) dX5_ofAll_34 ⟨Nat.zero_le _, Nat.zero_le _⟩) (fun r_20 e_19 => ?_)
    have e_19 : r_20 = nI (v 1 (15 + 17 * 1 + 4)) := e_19
    subst e_19
    refine o_iadd (a := (v 1 (15 + 17 * 0 + 4))) (b := (v 1 (15 + 17 * 1 + 4))) (k := ((v 1 (15 + 17 * 0 + 4)) + (v 1 (15 + 17 * 1 + 4)))) hx hb dX5_ofAll_37 rfl ?_
    refine lv_istore_n (lv' := [(2, .int (nI ((v 1 (15 + 17 * 0 + 4)) + (v 1 (15 + 17 * 1 + 4))))), (3, .int (nI 1)), (0, .ref (q 0)), (1, .int (nI 4))]) hx hb dX5_ofAll_38 rfl hl (by decide) rfl (fun ls hl => ?_)
    refine lv_iinc (v := nI 2) (lv' := [(3, .int (nI 2)), (2, .int (nI ((v 1 (15 + 17 * 0 + 4)) + (v 1 (15 + 17 * 1 + 4))))), (0, .ref (q 0)), (1, .int (nI 4))]) hx hb dX5_ofAll_39 hl (k := 1) rfl (by decide) (by decide) rfl (fun ls hl => ?_)
    refine lv_goto (tgt := 4) hx hb dX5_ofAll_42 (by decide) ?_
    refine lv_iload_n hx hb dX5_ofAll_4 rfl (lv_at hl 0 rfl) ?_
    refine o_const (k := 4) hx hb dX5_ofAll_5 (by decide) ?_
    refine o_icmp_ge (tgt := 45) hx hb dX5_ofAll_6 (by decide) (Nat.le_of_ble_eq_true rfl) (Nat.le_of_ble_eq_true rfl) (fun c0 => absurd c0 (by decide)) (fun _ => ?_)
    refine lv_iload_n hx hb dX5_ofAll_9 rfl (lv_at hl 1 rfl) ?_
    refine lv_iload_n hx hb dX5_ofAll_10 rfl (lv_at hl 3 rfl) ?_
    refine o_if_ne (tgt := 31) hx hb dX5_ofAll_11 (by decide) (Nat.le_of_ble_eq_true rfl) (fun _ => ?_) (fun c0 => absurd c0 (by decide))
    refine lv_aload_n hx hb dX5_ofAll_31 rfl (lv_at hl 2 rfl) ?_
    refine lv_iload_n hx hb dX5_ofAll_32 rfl (lv_at hl 0 rfl) ?_
    refine lv_iload_n hx hb dX5_ofAll_33 rfl (lv_at hl 3 rfl) ?_
    refine o_ri (va_runV (As := [.int (nI 2), .int (nI 4)]) (rest := [.int (nI ((v 1 (15 + 17 * 0 + 4)) + (v 1 (15 + 17 * 1 + 4))))]) ⟨hx, hb, hml, hown, hts⟩ (k_X5_of l D cI cR cS cL q v 2 4 (by show 2 < 4; first | assumption | omega) (by show 4 < 17; first | assumption | omega)) (cwV 2 hts gX5_ofAll_X5_of rfl rfl rfl (by decide +kernel) ⟨Nat.le_of_ble_eq_true rfl, Nat.le_of_ble_eq_true rfl⟩) (o_v (o_pR hK hN hP) (va_recv hK hP (ci := 5) (q0 := 0) rfl rfl)) rfl rfl hl.1 rfl (lv_room (Nat.le_of_ble_eq_true rfl)) dX5_ofAll_34 ⟨Nat.zero_le _, Nat.zero_le _⟩) (fun r_22 e_21 => ?_)
    have e_21 : r_22 = nI (v 1 (15 + 17 * 2 + 4)) := e_21
    subst e_21
    refine o_iadd (a := ((v 1 (15 + 17 * 0 + 4)) + (v 1 (15 + 17 * 1 + 4)))) (b := (v 1 (15 + 17 * 2 + 4))) (k := ((v 1 (15 + 17 * 0 + 4)) + (v 1 (15 + 17 * 1 + 4)) + (v 1 (15 + 17 * 2 + 4)))) hx hb dX5_ofAll_37 rfl ?_
    refine lv_istore_n (lv' := [(2, .int (nI ((v 1 (15 + 17 * 0 + 4)) + (v 1 (15 + 17 * 1 + 4)) + (v 1 (15 + 17 * 2 + 4))))), (3, .int (nI 2)), (0, .ref (q 0)), (1, .int (nI 4))]) hx hb dX5_ofAll_38 rfl hl (by decide) rfl (fun ls hl => ?_)
    refine lv_iinc (v := nI 3) (lv' := [(3, .int (nI 3)), (2, .int (nI ((v 1 (15 + 17 * 0 + 4)) + (v 1 (15 + 17 * 1 + 4)) + (v 1 (15 + 17 * 2 + 4))))), (0, .ref (q 0)), (1, .int (nI 4))]) hx hb dX5_ofAll_39 hl (k := 1) rfl (by decide) (by decide) rfl (fun ls hl => ?_)
    refine lv_goto (tgt := 4) hx hb dX5_ofAll_42 (by decide) ?_
    refine lv_iload_n hx hb dX5_ofAll_4 rfl (lv_at hl 0 rfl) ?_
    refine o_const (k := 4) hx hb dX5_ofAll_5 (by decide) ?_
    refine o_icmp_ge (tgt := 45) hx hb dX5_ofAll_6 (by decide) (Nat.le_of_ble_eq_true rfl) (Nat.le_of_ble_eq_true rfl) (fun c0 => absurd c0 (by decide)) (fun _ => ?_)
    refine lv_iload_n hx hb dX5_ofAll_9 rfl (lv_at hl 1 rfl) ?_
    refine lv_iload_n hx hb dX5_ofAll_10 rfl (lv_at hl 3 rfl) ?_
    refine o_if_ne (tgt := 31) hx hb dX5_ofAll_11 (by decide) (Nat.le_of_ble_eq_true rfl) (fun _ => ?_) (fun c0 => absurd c0 (by decide))
    refine lv_aload_n hx hb dX5_ofAll_31 rfl (lv_at hl 2 rfl) ?_
    refine lv_iload_n hx hb dX5_ofAll_32 rfl (lv_at hl 0 rfl) ?_
    refine lv_iload_n hx hb dX5_ofAll_33 rfl (lv_at hl 3 rfl) ?_
    refine o_ri (va_runV (As := [.int (nI 3), .int (nI 4)]) (rest := [.int (nI ((v 1 (15 + 17 * 0 + 4)) + (v 1 (15 + 17 * 1 + 4)) + (v 1 (15 + 17 * 2 + 4))))]) ⟨hx, hb, hml, hown, hts⟩ (k_X5_of l D cI cR cS cL q v 3 4 (by show 3 < 4; first | assumption | omega) (by show 4 < 17; first | assumption | omega)) (cwV 2 hts gX5_ofAll_X5_of rfl rfl rfl (by decide +kernel) ⟨Nat.le_of_ble_eq_true rfl, Nat.le_of_ble_eq_true rfl⟩) (o_v (o_pR hK hN hP) (va_recv hK hP (ci := 5) (q0 := 0) rfl rfl)) rfl rfl hl.1 rfl (lv_room (Nat.le_of_ble_eq_true rfl)) dX5_ofAll_34 ⟨Nat.zero_le _, Nat.zero_le _⟩) (fun r_24 e_23 => ?_)
    have e_23 : r_24 = nI (v 1 (15 + 17 * 3 + 4)) := e_23
    subst e_23
    refine o_iadd (a := ((v 1 (15 + 17 * 0 + 4)) + (v 1 (15 + 17 * 1 + 4)) + (v 1 (15 + 17 * 2 + 4)))) (b := (v 1 (15 + 17 * 3 + 4))) (k := ((v 1 (15 + 17 * 0 + 4)) + (v 1 (15 + 17 * 1 + 4)) + (v 1 (15 + 17 * 2 + 4)) + (v 1 (15 + 17 * 3 + 4)))) hx hb dX5_ofAll_37 rfl ?_
    refine lv_istore_n (lv' := [(2, .int (nI ((v 1 (15 + 17 * 0 + 4)) + (v 1 (15 + 17 * 1 + 4)) + (v 1 (15 + 17 * 2 + 4)) + (v 1 (15 + 17 * 3 + 4))))), (3, .int (nI 3)), (0, .ref (q 0)), (1, .int (nI 4))]) hx hb dX5_ofAll_38 rfl hl (by decide) rfl (fun ls hl => ?_)
    refine lv_iinc (v := nI 4) (lv' := [(3, .int (nI 4)), (2, .int (nI ((v 1 (15 + 17 * 0 + 4)) + (v 1 (15 + 17 * 1 + 4)) + (v 1 (15 + 17 * 2 + 4)) + (v 1 (15 + 17 * 3 + 4))))), (0, .ref (q 0)), (1, .int (nI 4))]) hx hb dX5_ofAll_39 hl (k := 1) rfl (by decide) (by decide) rfl (fun ls hl => ?_)
    refine lv_goto (tgt := 4) hx hb dX5_ofAll_42 (by decide) ?_
    refine lv_iload_n hx hb dX5_ofAll_4 rfl (lv_at hl 0 rfl) ?_
    refine o_const (k := 4) hx hb dX5_ofAll_5 (by decide) ?_
    refine o_icmp_ge (tgt := 45) hx hb dX5_ofAll_6 (by decide) (Nat.le_of_ble_eq_true rfl) (Nat.le_of_ble_eq_true rfl) (fun _ => ?_) (fun c0 => absurd c0 (by decide))
    refine lv_iload_n hx hb dX5_ofAll_45 rfl (lv_at hl 1 rfl) ?_
    exact W.iret (v := nI ((v 1 (15 + 17 * 0 + 4)) + (v 1 (15 + 17 * 1 + 4)) + (v 1 (15 + 17 * 2 + 4)) + (v 1 (15 + 17 * 3 + 4)))) hx hb hrt (fun t ht hW => ⟨_, rfl, rfl, ht⟩) (fun _ h => nomatch h) dX5_ofAll_46
  · skip
    have hIc := hI
    obtain ⟨⟨i1, hw, i3, i4, i5⟩, ⟨i6, i7, i8, i9, i10⟩, i11⟩ := hI
    have j0 := i11 0 (by omega)
    have j1 := i11 1 (by omega)
    have j2 := i11 2 (by omega)
    have j3 := i11 3 (by omega)
    refine o_const (k := 0) hx hb dX5_ofAll_0 (by decide) ?_
    refine lv_istore_n (lv' := [(2, .int (nI 0)), (0, .ref (q 0)), (1, .int (nI 5))]) hx hb dX5_ofAll_1 rfl hl (by decide) rfl (fun ls hl => ?_)
    refine o_const (k := 0) hx hb dX5_ofAll_2 (by decide) ?_
    refine lv_istore_n (lv' := [(3, .int (nI 0)), (2, .int (nI 0)), (0, .ref (q 0)), (1, .int (nI 5))]) hx hb dX5_ofAll_3 rfl hl (by decide) rfl (fun ls hl => ?_)
    refine lv_iload_n hx hb dX5_ofAll_4 rfl (lv_at hl 0 rfl) ?_
    refine o_const (k := 4) hx hb dX5_ofAll_5 (by decide) ?_
    refine o_icmp_ge (tgt := 45) hx hb dX5_ofAll_6 (by decide) (Nat.le_of_ble_eq_true rfl) (Nat.le_of_ble_eq_true rfl) (fun c0 => absurd c0 (by decide)) (fun _ => ?_)
    refine lv_iload_n hx hb dX5_ofAll_9 rfl (lv_at hl 1 rfl) ?_
    refine lv_iload_n hx hb dX5_ofAll_10 rfl (lv_at hl 3 rfl) ?_
    refine o_if_ne (tgt := 31) hx hb dX5_ofAll_11 (by decide) (Nat.le_of_ble_eq_true rfl) (fun _ => ?_) (fun c0 => absurd c0 (by decide))
    refine lv_aload_n hx hb dX5_ofAll_31 rfl (lv_at hl 2 rfl) ?_
    refine lv_iload_n hx hb dX5_ofAll_32 rfl (lv_at hl 0 rfl) ?_
    refine lv_iload_n hx hb dX5_ofAll_33 rfl (lv_at hl 3 rfl) ?_
    refine o_ri (va_runV (As := [.int (nI 0), .int (nI 5)]) (rest := [.int (nI 0)]) ⟨hx, hb, hml, hown, hts⟩ (k_X5_of l D cI cR cS cL q v 0 5 (by show 0 < 4; first | assumption | omega) (by show 5 < 17; first | assumption | omega)) (cwV 2 hts gX5_ofAll_X5_of rfl rfl rfl (by decide +kernel) ⟨Nat.le_of_ble_eq_true rfl, Nat.le_of_ble_eq_true rfl⟩) (o_v (o_pR hK hN hP) (va_recv hK hP (ci := 5) (q0 := 0) rfl rfl)) rfl rfl hl.1 rfl (lv_room (Nat.le_of_ble_eq_true rfl)) dX5_ofAll_34 ⟨Nat.zero_le _, Nat.zero_le _⟩) (fun r_26 e_25 => ?_)
    have e_25 : r_26 = nI (v 1 (15 + 17 * 0 + 5)) := e_25
    subst e_25
    refine o_iadd (a := 0) (b := (v 1 (15 + 17 * 0 + 5))) (k := (v 1 (15 + 17 * 0 + 5))) hx hb dX5_ofAll_37 (Nat.zero_add _) ?_
    refine lv_istore_n (lv' := [(2, .int (nI (v 1 (15 + 17 * 0 + 5)))), (3, .int (nI 0)), (0, .ref (q 0)), (1, .int (nI 5))]) hx hb dX5_ofAll_38 rfl hl (by decide) rfl (fun ls hl => ?_)
    refine lv_iinc (v := nI 1) (lv' := [(3, .int (nI 1)), (2, .int (nI (v 1 (15 + 17 * 0 + 5)))), (0, .ref (q 0)), (1, .int (nI 5))]) hx hb dX5_ofAll_39 hl (k := 1) rfl (by decide) (by decide) rfl (fun ls hl => ?_)
    refine lv_goto (tgt := 4) hx hb dX5_ofAll_42 (by decide) ?_
    refine lv_iload_n hx hb dX5_ofAll_4 rfl (lv_at hl 0 rfl) ?_
    refine o_const (k := 4) hx hb dX5_ofAll_5 (by decide) ?_
    refine o_icmp_ge (tgt := 45) hx hb dX5_ofAll_6 (by decide) (Nat.le_of_ble_eq_true rfl) (Nat.le_of_ble_eq_true rfl) (fun c0 => absurd c0 (by decide)) (fun _ => ?_)
    refine lv_iload_n hx hb dX5_ofAll_9 rfl (lv_at hl 1 rfl) ?_
    refine lv_iload_n hx hb dX5_ofAll_10 rfl (lv_at hl 3 rfl) ?_
    refine o_if_ne (tgt := 31) hx hb dX5_ofAll_11 (by decide) (Nat.le_of_ble_eq_true rfl) (fun _ => ?_) (fun c0 => absurd c0 (by decide))
    refine lv_aload_n hx hb dX5_ofAll_31 rfl (lv_at hl 2 rfl) ?_
    refine lv_iload_n hx hb dX5_ofAll_32 rfl (lv_at hl 0 rfl) ?_
    refine lv_iload_n hx hb dX5_ofAll_33 rfl (lv_at hl 3 rfl) ?_
    refine o_ri (va_runV (As := [.int (nI 1), .int (nI 5)]) (rest := [.int (nI (v 1 (15 + 17 * 0 + 5)))]) ⟨hx, hb, hml, hown, hts⟩ (k_X5_of l D cI cR cS cL q v 1 5 (by show 1 < 4; first | assumption | omega) (by show 5 < 17; first | assumption | omega)) (cwV 2 hts gX5_ofAll_X5_of rfl rfl rfl (by decide +kernel) ⟨Nat.le_of_ble_eq_true rfl, Nat.le_of_ble_eq_true rfl⟩) (o_v (o_pR hK hN hP) (va_recv hK hP (ci := 5) (q0 := 0) rfl rfl)) rfl rfl hl.1 rfl (lv_room (Nat.le_of_ble_eq_true rfl)) dX5_ofAll_34 ⟨Nat.zero_le _, Nat.zero_le _⟩) (fun r_28 e_27 => ?_)
    have e_27 : r_28 = nI (v 1 (15 + 17 * 1 + 5)) := e_27
    subst e_27
    refine o_iadd (a := (v 1 (15 + 17 * 0 + 5))) (b := (v 1 (15 + 17 * 1 + 5))) (k := ((v 1 (15 + 17 * 0 + 5)) + (v 1 (15 + 17 * 1 + 5)))) hx hb dX5_ofAll_37 rfl ?_
    refine lv_istore_n (lv' := [(2, .int (nI ((v 1 (15 + 17 * 0 + 5)) + (v 1 (15 + 17 * 1 + 5))))), (3, .int (nI 1)), (0, .ref (q 0)), (1, .int (nI 5))]) hx hb dX5_ofAll_38 rfl hl (by decide) rfl (fun ls hl => ?_)
    refine lv_iinc (v := nI 2) (lv' := [(3, .int (nI 2)), (2, .int (nI ((v 1 (15 + 17 * 0 + 5)) + (v 1 (15 + 17 * 1 + 5))))), (0, .ref (q 0)), (1, .int (nI 5))]) hx hb dX5_ofAll_39 hl (k := 1) rfl (by decide) (by decide) rfl (fun ls hl => ?_)
    refine lv_goto (tgt := 4) hx hb dX5_ofAll_42 (by decide) ?_
    refine lv_iload_n hx hb dX5_ofAll_4 rfl (lv_at hl 0 rfl) ?_
    refine o_const (k := 4) hx hb dX5_ofAll_5 (by decide) ?_
    refine o_icmp_ge (tgt := 45) hx hb dX5_ofAll_6 (by decide) (Nat.le_of_ble_eq_true rfl) (Nat.le_of_ble_eq_true rfl) (fun c0 => absurd c0 (by decide)) (fun _ => ?_)
    refine lv_iload_n hx hb dX5_ofAll_9 rfl (lv_at hl 1 rfl) ?_
    refine lv_iload_n hx hb dX5_ofAll_10 rfl (lv_at hl 3 rfl) ?_
    refine o_if_ne (tgt := 31) hx hb dX5_ofAll_11 (by decide) (Nat.le_of_ble_eq_true rfl) (fun _ => ?_) (fun c0 => absurd c0 (by decide))
    refine lv_aload_n hx hb dX5_ofAll_31 rfl (lv_at hl 2 rfl) ?_
    refine lv_iload_n hx hb dX5_ofAll_32 rfl (lv_at hl 0 rfl) ?_
    refine lv_iload_n hx hb dX5_ofAll_33 rfl (lv_at hl 3 rfl) ?_
    refine o_ri (va_runV (As := [.int (nI 2), .int (nI 5)]) (rest := [.int (nI ((v 1 (15 + 17 * 0 + 5)) + (v 1 (15 + 17 * 1 + 5))))]) ⟨hx, hb, hml, hown, hts⟩ (k_X5_of l D cI cR cS cL q v 2 5 (by show 2 < 4; first | assumption | omega) (by show 5 < 17; first | assumption | omega)) (cwV 2 hts gX5_ofAll_X5_of rfl rfl rfl (by decide +kernel) ⟨Nat.le_of_ble_eq_true rfl, Nat.le_of_ble_eq_true rfl⟩) (o_v (o_pR hK hN hP) (va_recv hK hP (ci := 5) (q0 := 0) rfl rfl)) rfl rfl hl.1 rfl (lv_room (Nat.le_of_ble_eq_true rfl)) dX5_ofAll_34 ⟨Nat.zero_le _, Nat.zero_le _⟩) (fun r_30 e_29 => ?_)
    have e_29 : r_30 = nI (v 1 (15 + 17 * 2 + 5)) := e_29
    subst e_29
    refine o_iadd (a := ((v 1 (15 + 17 * 0 + 5)) + (v 1 (15 + 17 * 1 + 5)))) (b := (v 1 (15 + 17 * 2 + 5))) (k := ((v 1 (15 + 17 * 0 + 5)) + (v 1 (15 + 17 * 1 + 5)) + (v 1 (15 + 17 * 2 + 5)))) hx hb dX5_ofAll_37 rfl ?_
    refine lv_istore_n (lv' := [(2, .int (nI ((v 1 (15 + 17 * 0 + 5)) + (v 1 (15 + 17 * 1 + 5)) + (v 1 (15 + 17 * 2 + 5))))), (3, .int (nI 2)), (0, .ref (q 0)), (1, .int (nI 5))]) hx hb dX5_ofAll_38 rfl hl (by decide) rfl (fun ls hl => ?_)
    refine lv_iinc (v := nI 3) (lv' := [(3, .int (nI 3)), (2, .int (nI ((v 1 (15 + 17 * 0 + 5)) + (v 1 (15 + 17 * 1 + 5)) + (v 1 (15 + 17 * 2 + 5))))), (0, .ref (q 0)), (1, .int (nI 5))]) hx hb dX5_ofAll_39 hl (k := 1) rfl (by decide) (by decide) rfl (fun ls hl => ?_)
    refine lv_goto (tgt := 4) hx hb dX5_ofAll_42 (by decide) ?_
    refine lv_iload_n hx hb dX5_ofAll_4 rfl (lv_at hl 0 rfl) ?_
    refine o_const (k := 4) hx hb dX5_ofAll_5 (by decide) ?_
    refine o_icmp_ge (tgt := 45) hx hb dX5_ofAll_6 (by decide) (Nat.le_of_ble_eq_true rfl) (Nat.le_of_ble_eq_true rfl) (fun c0 => absurd c0 (by decide)) (fun _ => ?_)
    refine lv_iload_n hx hb dX5_ofAll_9 rfl (lv_at hl 1 rfl) ?_
    refine lv_iload_n hx hb dX5_ofAll_10 rfl (lv_at hl 3 rfl) ?_
    refine o_if_ne (tgt := 31) hx hb dX5_ofAll_11 (by decide) (Nat.le_of_ble_eq_true rfl) (fun _ => ?_) (fun c0 => absurd c0 (by decide))
    refine lv_aload_n hx hb dX5_ofAll_31 rfl (lv_at hl 2 rfl) ?_
    refine lv_iload_n hx hb dX5_ofAll_32 rfl (lv_at hl 0 rfl) ?_
    refine lv_iload_n hx hb dX5_ofAll_33 rfl (lv_at hl 3 rfl) ?_
    refine o_ri (va_runV (As := [.int (nI 3), .int (nI 5)]) (rest := [.int (nI ((v 1 (15 + 17 * 0 + 5)) + (v 1 (15 + 17 * 1 + 5)) + (v 1 (15 + 17 * 2 + 5))))]) ⟨hx, hb, hml, hown, hts⟩ (k_X5_of l D cI cR cS cL q v 3 5 (by show 3 < 4; first | assumption | omega) (by show 5 < 17; first | assumption | omega)) (cwV 2 hts gX5_ofAll_X5_of rfl rfl rfl (by decide +kernel) ⟨Nat.le_of_ble_eq_true rfl, Nat.le_of_ble_eq_true rfl⟩) (o_v (o_pR hK hN hP) (va_recv hK hP (ci := 5) (q0 := 0) rfl rfl)) rfl rfl hl.1 rfl (lv_room (Nat.le_of_ble_eq_true rfl)) dX5_ofAll_34 ⟨Nat.zero_le _, Nat.zero_le _⟩) (fun r_32 e_31 => ?_)
    have e_31 : r_32 = nI (v 1 (15 + 17 * 3 + 5)) := e_31
    subst e_31
    refine o_iadd (a := ((v 1 (15 + 17 * 0 + 5)) + (v 1 (15 + 17 * 1 + 5)) + (v 1 (15 + 17 * 2 + 5)))) (b := (v 1 (15 + 17 * 3 + 5))) (k := ((v 1 (15 + 17 * 0 + 5)) + (v 1 (15 + 17 * 1 + 5)) + (v 1 (15 + 17 * 2 + 5)) + (v 1 (15 + 17 * 3 + 5)))) hx hb dX5_ofAll_37 rfl ?_
    refine lv_istore_n (lv' := [(2, .int (nI ((v 1 (15 + 17 * 0 + 5)) + (v 1 (15 + 17 * 1 + 5)) + (v 1 (15 + 17 * 2 + 5)) + (v 1 (15 + 17 * 3 + 5))))), (3, .int (nI 3)), (0, .ref (q 0)), (1, .int (nI 5))]) hx hb dX5_ofAll_38 rfl hl (by decide) rfl (fun ls hl => ?_)
    refine lv_iinc (v := nI 4) (lv' := [(3, .int (nI 4)), (2, .int (nI ((v 1 (15 + 17 * 0 + 5)) + (v 1 (15 + 17 * 1 + 5)) + (v 1 (15 + 17 * 2 + 5)) + (v 1 (15 + 17 * 3 + 5))))), (0, .ref (q 0)), (1, .int (nI 5))]) hx hb dX5_ofAll_39 hl (k := 1) rfl (by decide) (by decide) rfl (fun ls hl => ?_)
    refine lv_goto (tgt := 4) hx hb dX5_ofAll_42 (by decide) ?_
    refine lv_iload_n hx hb dX5_ofAll_4 rfl (lv_at hl 0 rfl) ?_
    refine o_const (k := 4) hx hb dX5_ofAll_5 (by decide) ?_
    refine o_icmp_ge (tgt := 45) hx hb dX5_ofAll_6 (by decide) (Nat.le_of_ble_eq_true rfl) (Nat.le_of_ble_eq_true rfl) (fun _ => ?_) (fun c0 => absurd c0 (by decide))
    refine lv_iload_n hx hb dX5_ofAll_45 rfl (lv_at hl 1 rfl) ?_
    exact W.iret (v := nI ((v 1 (15 + 17 * 0 + 5)) + (v 1 (15 + 17 * 1 + 5)) + (v 1 (15 + 17 * 2 + 5)) + (v 1 (15 + 17 * 3 + 5)))) hx hb hrt (fun t ht hW => ⟨_, rfl, rfl, ht⟩) (fun _ h => nomatch h) dX5_ofAll_46
theorem inX5_counted_X5 : ∀ w ∈ wsX50, w ∈ wsX5_counted := by decide +kernel
set_option maxHeartbeats 4000000 in
set_option maxRecDepth 100000 in
theorem k_X5_counted (l : Launch) (D : va_G) (cI cR cS cL : ClassId) (q : Nat → Nat) (v : Nat → Nat → Nat) (b : Nat) (k : Nat) (hI : m_I b (v 1)) (hb : b < 2 ^ 28) (hk : k < 9) : Met l yX5_counted wsX5_counted ({ frames := 3, cells := 0, slots := 0, locals := 66 }) (va_Pc [.ref (q 0), .int (nI k)] (o_R D (o_T cI cR cS cL) (wM q cI v))) (vp_Si (fun rz => rz = nI (m_cnt (v 1) (v 0 0) k))) 0 0 (fun _ => False) := by
  refine Met.ofW (cc := cX5_counted) (maxL := 2) (ret := (some .int)) (by decide) rfl ?_
  intro p e s m args below meth cd s₁ B hml hv
  obtain ⟨rfl, hP, hK, hN⟩ := hv
  have hx := B.exec
  have hb := B.bytes
  have hrt := B.returns
  have hts := atoms_spec (ws := wsX5_counted) B.pre
  have hown : s.vm.findClass RX5 = some m.cls := findClass_of_methodNamed B.named
  have hlocks := B.notSynchronized
  have hl := lv_entry ([.ref (q 0), .int (nI k)]) (n := 2) (Nat.le_of_ble_eq_true rfl)
  rw [lg_entry_eq]
  generalize (lg_sl ([.ref (q 0), .int (nI k)]) ++ List.replicate (2 - (lg_sl ([.ref (q 0), .int (nI k)])).length) Slot.unset).toArray = ls at hl ⊢
  have hl : lv_has ls 2 [(0, .ref (q 0)), (1, .int (nI k))] := hl
  rcases (show k = 0 ∨ k = 1 ∨ k = 2 ∨ k = 3 ∨ k = 4 ∨ k = 5 ∨ k = 6 ∨ k = 7 ∨ k = 8 by omega) with rfl | rfl | rfl | rfl | rfl | rfl | rfl | rfl | rfl
  · skip
    refine lv_iload_n hx hb dX5_counted_0 rfl (lv_at hl 1 rfl) ?_
    refine lv_tableIn (tgt := 48) (off := 47) hx hb dX5_counted_1 (by decide) (by decide) (by decide) (by decide) ?_
    refine lv_aload_n hx hb dX5_counted_48 rfl (lv_at hl 0 rfl) ?_
    refine va_get (D := D) (ci := 5) (v := .ref (q 1)) (C := RX5) (T := TX5) (N := 10) hx hb hts inX5_counted_X5 hown hK hP 0 rfl rfl 0 (by decide) (hts (.fieldLink RX5 7 "OddNoticeModel" "now" "[I") (List.mem_of_getElem? (i := 1) (by decide +kernel))) (fun _ h9 => h9) rfl dX5_counted_49 ?_
    refine o_const (k := 0) hx hb dX5_counted_52 (by decide) ?_
    refine o_iald (v := nI (v 1 0)) hx hb hK hP 1 0 rfl rfl (Nat.le_of_ble_eq_true rfl) (Nat.le_of_ble_eq_true rfl) rfl dX5_counted_53 ?_
    exact W.iret (v := nI (v 1 0)) hx hb hrt (fun t ht hW => ⟨_, rfl, (congrArg nI (by unfold m_cnt; (repeat' split) <;> omega)), ht⟩) (fun _ h => nomatch h) dX5_counted_54
  · skip
    refine lv_iload_n hx hb dX5_counted_0 rfl (lv_at hl 1 rfl) ?_
    refine lv_tableIn (tgt := 55) (off := 54) hx hb dX5_counted_1 (by decide) (by decide) (by decide) (by decide) ?_
    refine lv_aload_n hx hb dX5_counted_55 rfl (lv_at hl 0 rfl) ?_
    refine va_get (D := D) (ci := 5) (v := .ref (q 1)) (C := RX5) (T := TX5) (N := 10) hx hb hts inX5_counted_X5 hown hK hP 0 rfl rfl 0 (by decide) (hts (.fieldLink RX5 7 "OddNoticeModel" "now" "[I") (List.mem_of_getElem? (i := 1) (by decide +kernel))) (fun _ h9 => h9) rfl dX5_counted_56 ?_
    refine o_const (k := 3) hx hb dX5_counted_59 (by decide) ?_
    refine o_iald (v := nI (v 1 3)) hx hb hK hP 1 0 rfl rfl (Nat.le_of_ble_eq_true rfl) (Nat.le_of_ble_eq_true rfl) rfl dX5_counted_60 ?_
    exact W.iret (v := nI (v 1 3)) hx hb hrt (fun t ht hW => ⟨_, rfl, (congrArg nI (by unfold m_cnt; (repeat' split) <;> omega)), ht⟩) (fun _ h => nomatch h) dX5_counted_61
  · skip
    refine lv_iload_n hx hb dX5_counted_0 rfl (lv_at hl 1 rfl) ?_
    refine lv_tableIn (tgt := 62) (off := 61) hx hb dX5_counted_1 (by decide) (by decide) (by decide) (by decide) ?_
    refine lv_aload_n hx hb dX5_counted_62 rfl (lv_at hl 0 rfl) ?_
    refine va_get (D := D) (ci := 5) (v := .ref (q 1)) (C := RX5) (T := TX5) (N := 10) hx hb hts inX5_counted_X5 hown hK hP 0 rfl rfl 0 (by decide) (hts (.fieldLink RX5 7 "OddNoticeModel" "now" "[I") (List.mem_of_getElem? (i := 1) (by decide +kernel))) (fun _ h9 => h9) rfl dX5_counted_63 ?_
    refine o_const (k := 4) hx hb dX5_counted_66 (by decide) ?_
    refine o_iald (v := nI (v 1 4)) hx hb hK hP 1 0 rfl rfl (Nat.le_of_ble_eq_true rfl) (Nat.le_of_ble_eq_true rfl) rfl dX5_counted_67 ?_
    exact W.iret (v := nI (v 1 4)) hx hb hrt (fun t ht hW => ⟨_, rfl, (congrArg nI (by unfold m_cnt; (repeat' split) <;> omega)), ht⟩) (fun _ h => nomatch h) dX5_counted_68
  · skip
    refine lv_iload_n hx hb dX5_counted_0 rfl (lv_at hl 1 rfl) ?_
    refine lv_tableIn (tgt := 69) (off := 68) hx hb dX5_counted_1 (by decide) (by decide) (by decide) (by decide) ?_
    refine lv_aload_n hx hb dX5_counted_69 rfl (lv_at hl 0 rfl) ?_
    refine o_const (k := 0) hx hb dX5_counted_70 (by decide) ?_
    refine o_ri (va_runV (As := [.int (nI 0)]) (rest := []) ⟨hx, hb, hml, hown, hts⟩ (k_X5_ofAll l D cI cR cS cL q v b 0 (by show m_I b (v 1); first | assumption | omega) (by show b < 2 ^ 28; first | assumption | omega) (by show 0 = 0 ∨ 0 = 4 ∨ 0 = 5; first | assumption | omega)) (cwV 1 hts gX5_counted_X5_ofAll rfl rfl rfl (by decide +kernel) ⟨Nat.le_of_ble_eq_true rfl, Nat.le_of_ble_eq_true rfl⟩) (o_v (o_pR hK hN hP) (va_recv hK hP (ci := 5) (q0 := 0) rfl rfl)) rfl rfl hl.1 rfl (lv_room (Nat.le_of_ble_eq_true rfl)) dX5_counted_71 ⟨Nat.zero_le _, Nat.zero_le _⟩) (fun r_2 e_1 => ?_)
    have e_1 : r_2 = nI (m_all (v 1) 0) := e_1
    subst e_1
    exact W.iret (v := nI (m_all (v 1) 0)) hx hb hrt (fun t ht hW => ⟨_, rfl, (congrArg nI (by unfold m_cnt; (repeat' split) <;> omega)), ht⟩) (fun _ h => nomatch h) dX5_counted_74
  · skip
    refine lv_iload_n hx hb dX5_counted_0 rfl (lv_at hl 1 rfl) ?_
    refine lv_tableIn (tgt := 75) (off := 74) hx hb dX5_counted_1 (by decide) (by decide) (by decide) (by decide) ?_
    refine lv_aload_n hx hb dX5_counted_75 rfl (lv_at hl 0 rfl) ?_
    refine o_const (k := 4) hx hb dX5_counted_76 (by decide) ?_
    refine o_ri (va_runV (As := [.int (nI 4)]) (rest := []) ⟨hx, hb, hml, hown, hts⟩ (k_X5_ofAll l D cI cR cS cL q v b 4 (by show m_I b (v 1); first | assumption | omega) (by show b < 2 ^ 28; first | assumption | omega) (by show 4 = 0 ∨ 4 = 4 ∨ 4 = 5; first | assumption | omega)) (cwV 1 hts gX5_counted_X5_ofAll rfl rfl rfl (by decide +kernel) ⟨Nat.le_of_ble_eq_true rfl, Nat.le_of_ble_eq_true rfl⟩) (o_v (o_pR hK hN hP) (va_recv hK hP (ci := 5) (q0 := 0) rfl rfl)) rfl rfl hl.1 rfl (lv_room (Nat.le_of_ble_eq_true rfl)) dX5_counted_77 ⟨Nat.zero_le _, Nat.zero_le _⟩) (fun r_4 e_3 => ?_)
    have e_3 : r_4 = nI (m_all (v 1) 4) := e_3
    subst e_3
    exact W.iret (v := nI (m_all (v 1) 4)) hx hb hrt (fun t ht hW => ⟨_, rfl, (congrArg nI (by unfold m_cnt; (repeat' split) <;> omega)), ht⟩) (fun _ h => nomatch h) dX5_counted_80
  · skip
    refine lv_iload_n hx hb dX5_counted_0 rfl (lv_at hl 1 rfl) ?_
    refine lv_tableIn (tgt := 81) (off := 80) hx hb dX5_counted_1 (by decide) (by decide) (by decide) (by decide) ?_
    refine lv_aload_n hx hb dX5_counted_81 rfl (lv_at hl 0 rfl) ?_
    refine o_const (k := 5) hx hb dX5_counted_82 (by decide) ?_
    refine o_ri (va_runV (As := [.int (nI 5)]) (rest := []) ⟨hx, hb, hml, hown, hts⟩ (k_X5_ofAll l D cI cR cS cL q v b 5 (by show m_I b (v 1); first | assumption | omega) (by show b < 2 ^ 28; first | assumption | omega) (by show 5 = 0 ∨ 5 = 4 ∨ 5 = 5; first | assumption | omega)) (cwV 1 hts gX5_counted_X5_ofAll rfl rfl rfl (by decide +kernel) ⟨Nat.le_of_ble_eq_true rfl, Nat.le_of_ble_eq_true rfl⟩) (o_v (o_pR hK hN hP) (va_recv hK hP (ci := 5) (q0 := 0) rfl rfl)) rfl rfl hl.1 rfl (lv_room (Nat.le_of_ble_eq_true rfl)) dX5_counted_83 ⟨Nat.zero_le _, Nat.zero_le _⟩) (fun r_6 e_5 => ?_)
    have e_5 : r_6 = nI (m_all (v 1) 5) := e_5
    subst e_5
    exact W.iret (v := nI (m_all (v 1) 5)) hx hb hrt (fun t ht hW => ⟨_, rfl, (congrArg nI (by unfold m_cnt; (repeat' split) <;> omega)), ht⟩) (fun _ h => nomatch h) dX5_counted_86
  · skip
    refine lv_iload_n hx hb dX5_counted_0 rfl (lv_at hl 1 rfl) ?_
    refine lv_tableIn (tgt := 87) (off := 86) hx hb dX5_counted_1 (by decide) (by decide) (by decide) (by decide) ?_
    refine lv_aload_n hx hb dX5_counted_87 rfl (lv_at hl 0 rfl) ?_
    refine va_get (D := D) (ci := 5) (v := .ref (q 1)) (C := RX5) (T := TX5) (N := 10) hx hb hts inX5_counted_X5 hown hK hP 0 rfl rfl 0 (by decide) (hts (.fieldLink RX5 7 "OddNoticeModel" "now" "[I") (List.mem_of_getElem? (i := 1) (by decide +kernel))) (fun _ h9 => h9) rfl dX5_counted_88 ?_
    refine o_const (k := 2) hx hb dX5_counted_91 (by decide) ?_
    refine o_iald (v := nI (v 1 2)) hx hb hK hP 1 0 rfl rfl (Nat.le_of_ble_eq_true rfl) (Nat.le_of_ble_eq_true rfl) rfl dX5_counted_92 ?_
    exact W.iret (v := nI (v 1 2)) hx hb hrt (fun t ht hW => ⟨_, rfl, (congrArg nI (by unfold m_cnt; (repeat' split) <;> omega)), ht⟩) (fun _ h => nomatch h) dX5_counted_93
  · skip
    refine lv_iload_n hx hb dX5_counted_0 rfl (lv_at hl 1 rfl) ?_
    refine lv_tableIn (tgt := 94) (off := 93) hx hb dX5_counted_1 (by decide) (by decide) (by decide) (by decide) ?_
    refine lv_aload_n hx hb dX5_counted_94 rfl (lv_at hl 0 rfl) ?_
    refine va_get (D := D) (ci := 5) (v := .ref (q 1)) (C := RX5) (T := TX5) (N := 10) hx hb hts inX5_counted_X5 hown hK hP 0 rfl rfl 0 (by decide) (hts (.fieldLink RX5 7 "OddNoticeModel" "now" "[I") (List.mem_of_getElem? (i := 1) (by decide +kernel))) (fun _ h9 => h9) rfl dX5_counted_95 ?_
    refine o_const (k := 1) hx hb dX5_counted_98 (by decide) ?_
    refine o_iald (v := nI (v 1 1)) hx hb hK hP 1 0 rfl rfl (Nat.le_of_ble_eq_true rfl) (Nat.le_of_ble_eq_true rfl) rfl dX5_counted_99 ?_
    exact W.iret (v := nI (v 1 1)) hx hb hrt (fun t ht hW => ⟨_, rfl, (congrArg nI (by unfold m_cnt; (repeat' split) <;> omega)), ht⟩) (fun _ h => nomatch h) dX5_counted_100
  · skip
    refine lv_iload_n hx hb dX5_counted_0 rfl (lv_at hl 1 rfl) ?_
    refine lv_tableOut (tgt := 101) hx hb dX5_counted_1 (by decide) (by decide) ?_
    refine lv_aload_n hx hb dX5_counted_101 rfl (lv_at hl 0 rfl) ?_
    refine va_get (D := D) (ci := 5) (v := .int (nI (v 0 0))) (C := RX5) (T := TX5) (N := 10) hx hb hts inX5_counted_X5 hown hK hP 0 rfl rfl 2 (by decide) (hts (.fieldLink RX5 30 "OddNoticeModel" "states" "I") (List.mem_of_getElem? (i := 2) (by decide +kernel))) (fun _ h9 => h9) rfl dX5_counted_102 ?_
    exact W.iret (v := nI (v 0 0)) hx hb hrt (fun t ht hW => ⟨_, rfl, (congrArg nI (by unfold m_cnt; (repeat' split) <;> omega)), ht⟩) (fun _ h => nomatch h) dX5_counted_105
theorem inX5_count_X5 : ∀ w ∈ wsX50, w ∈ wsX5_count := by decide +kernel
set_option maxHeartbeats 4000000 in
set_option maxRecDepth 100000 in
theorem k_X5_count (l : Launch) (D : va_G) (cI cR cS cL : ClassId) (sz : Nat) (q : Nat → Nat) (v : Nat → Nat → Nat) (b : Nat) (k : Nat) (hI : m_I b (v 1)) (hb : b < 2 ^ 28) (hk : k < 2 ^ 32) : Met l yX5_count wsX5_count ({ frames := 4, cells := 0, slots := 0, locals := 87 }) (va_Pc [.ref (q 0), .int (nI k)] (o_B D (o_T cI cR cS cL) (wM q cI v) sz)) (va_Qi (fun rz (_ : Unit) => rz = nI (if k < 9 then m_cnt (v 1) (v 0 0) k else 0)) (fun (_ : Unit) t => va_P D vwCl (wM q cI (va_up v 0 (va_up (v 0) 2 (if k < 9 then 0 else 1)))) t.heap) (va_A (wM q cI v) sz)) 0 0 (va_A (wM q cI v) sz) := by
  refine Met.ofW (cc := cX5_count) (maxL := 2) (ret := (some .int)) (by decide) rfl ?_
  intro p e s m args below meth cd s₁ B hml hv
  obtain ⟨rfl, hsz, hP, hK, hD0, hN⟩ := hv
  have hx := B.exec
  have hb := B.bytes
  have hrt := B.returns
  have hts := atoms_spec (ws := wsX5_count) B.pre
  have hown : s.vm.findClass RX5 = some m.cls := findClass_of_methodNamed B.named
  have hlocks := B.notSynchronized
  subst hsz
  have hD := hD0.self (sz := s.heap.size)
  generalize hAe : va_A (wM q cI v) s.heap.size = A at hD ⊢
  have hA : ∀ q : Nat, s.heap.size ≤ q → A q := fun q h => by rw [← hAe]; exact Or.inr h
  have hS : va_S A s.heap s.heap [] := va_S.rf
  have hl := lv_entry ([.ref (q 0), .int (nI k)]) (n := 2) (Nat.le_of_ble_eq_true rfl)
  rw [lg_entry_eq]
  generalize (lg_sl ([.ref (q 0), .int (nI k)]) ++ List.replicate (2 - (lg_sl ([.ref (q 0), .int (nI k)])).length) Slot.unset).toArray = ls at hl ⊢
  have hl : lv_has ls 2 [(0, .ref (q 0)), (1, .int (nI k))] := hl
  refine lv_aload_n hx hb dX5_count_0 rfl (lv_at hl 0 rfl) ?_
  refine o_const (k := 0) hx hb dX5_count_1 (by decide) ?_
  refine va_put (D := D) (ci := 5) (v := .int (nI 0)) (ty := .int) (C := RX5) (T := TX5) (N := 10) hx hb hts inX5_count_X5 tyX5 tyX5_ok nmX5 hown hK hP hD hS 0 rfl rfl 5 (by decide) (hts (.fieldLink RX5 22 "OddNoticeModel" "thrown" "I") (List.mem_of_getElem? (i := 1) (by decide +kernel))) (fun _ h9 => h9) rfl (by decide +kernel) rfl rfl (Nat.le_of_ble_eq_true rfl) dX5_count_2 (fun H locs hP hD hS => ?_)
  have hP : va_P D vwCl (wM q cI (va_up v 0 (va_up (v 0) 2 0))) H := hP
  have hD : va_D A (wM q cI (va_up v 0 (va_up (v 0) 2 0))) := hD
  refine lv_iload_n hx hb dX5_count_5 rfl (lv_at hl 1 rfl) ?_
  refine o_const (k := 0) hx hb dX5_count_6 (by decide) ?_
  refine o_bipush (k := 8) hx hb dX5_count_7 (by decide) ?_
  refine o_ri (va_runS (As := [.int (nI k), .int (nI 0), .int (nI 8)]) (rest := []) ⟨hx, hb, hml, hown, hts⟩ (k_X5_in l D cI cR cS cL k 0 8 (by show k < 2 ^ 32; first | assumption | omega) (by show 0 < 2 ^ 31; first | assumption | omega) (by show 8 < 2 ^ 31; first | assumption | omega)) (va_cwS 3 hts gX5_count_X5_in rfl rfl rfl (by decide +kernel) ⟨Nat.le_of_ble_eq_true rfl, Nat.le_of_ble_eq_true rfl⟩) (o_pR hK hN (hP.sub (ws' := []) [] rfl)) rfl rfl hl.1 rfl (lv_room (Nat.le_of_ble_eq_true rfl)) dX5_count_9 ⟨Nat.zero_le _, Nat.zero_le _⟩) (fun r_2 e_1 => ?_)
  have e_1 : r_2 = nI (bn (0 ≤ k ∧ k ≤ 8)) := e_1
  subst e_1
  refine o_ifz (tgt := 23) hx hb dX5_count_12 (by decide) (fun c_3 => ?_) (fun c_3 => ?_)
  · skip
    refine lv_aload_n hx hb dX5_count_23 rfl (lv_at hl 0 rfl) ?_
    refine o_const (k := 1) hx hb dX5_count_24 (by decide) ?_
    refine o_wi (va_runV (As := [.int (nI 1)]) (rest := []) ⟨hx, hb, hml, hown, hts⟩ (k_X5_fails l D cI cR cS cL H.size q (va_up v 0 (va_up (v 0) 2 0)) 1 ) (cwV 1 hts gX5_count_X5_fails rfl rfl rfl (by decide +kernel) ⟨Nat.le_of_ble_eq_true rfl, Nat.le_of_ble_eq_true rfl⟩) (o_v (o_pB hK hN hP hD) (va_recv hK hP (ci := 5) (q0 := 0) rfl rfl)) rfl rfl hl.1 rfl (lv_room (Nat.le_of_ble_eq_true rfl)) dX5_count_25 ⟨Nat.zero_le _, Nat.zero_le _⟩) hP hD hS hA [0, 1, 2, 3, 4] (by decide) rfl (fun _ => rfl) (fun r_5 _ H locs e_4 hP hD hS => ?_)
    have e_4 : r_5 = nI 0 := e_4
    subst e_4
    have hP : va_P D vwCl (wM q cI (va_up v 0 (va_up (v 0) 2 1))) H := hP
    have hD : va_D A (wM q cI (va_up v 0 (va_up (v 0) 2 1))) := hD
    have w_6 : (wM q cI (va_up v 0 (va_up (v 0) 2 (if k < 9 then 0 else 1)))) = (wM q cI (va_up v 0 (va_up (v 0) 2 1))) := (by rw [show (if k < 9 then 0 else 1) = 1 from by (repeat' split) <;> omega])
    rw [← w_6] at hP
    exact W.iret (v := nI 0) hx hb hrt (fun t ht hW => ⟨⟨_, (), rfl, (congrArg nI (by (repeat' split) <;> first | rfl | omega)), by show va_P D vwCl _ t.heap; rw [ht]; exact hP⟩, hS.F ht⟩) hS.2.2 dX5_count_28
  · skip
    refine lv_aload_n hx hb dX5_count_15 rfl (lv_at hl 0 rfl) ?_
    refine lv_iload_n hx hb dX5_count_16 rfl (lv_at hl 1 rfl) ?_
    refine o_ri (va_runV (As := [.int (nI k)]) (rest := []) ⟨hx, hb, hml, hown, hts⟩ (k_X5_counted l D cI cR cS cL q (va_up v 0 (va_up (v 0) 2 0)) b k (hI) (by show b < 2 ^ 28; first | assumption | omega) (by show k < 9; first | assumption | omega)) (cwV 1 hts gX5_count_X5_counted rfl rfl rfl (by decide +kernel) ⟨Nat.le_of_ble_eq_true rfl, Nat.le_of_ble_eq_true rfl⟩) (o_v (o_pR hK hN hP) (va_recv hK hP (ci := 5) (q0 := 0) rfl rfl)) rfl rfl hl.1 rfl (lv_room (Nat.le_of_ble_eq_true rfl)) dX5_count_17 ⟨Nat.zero_le _, Nat.zero_le _⟩) (fun r_8 e_7 => ?_)
    have e_7 : r_8 = nI (m_cnt (v 1) (v 0 0) k) := e_7
    subst e_7
    refine lv_goto (tgt := 28) hx hb dX5_count_20 (by decide) ?_
    have w_9 : (wM q cI (va_up v 0 (va_up (v 0) 2 (if k < 9 then 0 else 1)))) = (wM q cI (va_up v 0 (va_up (v 0) 2 0))) := (by rw [show (if k < 9 then 0 else 1) = 0 from by (repeat' split) <;> omega])
    rw [← w_9] at hP
    exact W.iret (v := nI (m_cnt (v 1) (v 0 0) k)) hx hb hrt (fun t ht hW => ⟨⟨_, (), rfl, (congrArg nI (by (repeat' split) <;> first | rfl | omega)), by show va_P D vwCl _ t.heap; rw [ht]; exact hP⟩, hS.F ht⟩) hS.2.2 dX5_count_28
theorem inX5_tries_X5 : ∀ w ∈ wsX50, w ∈ wsX5_tries := by decide +kernel
set_option maxHeartbeats 4000000 in
set_option maxRecDepth 100000 in
theorem k_X5_tries (l : Launch) (D : va_G) (cI cR cS cL : ClassId) (q : Nat → Nat) (v : Nat → Nat → Nat) (b : Nat) (r : Nat) (hI : m_I b (v 1)) (hb : b < 2 ^ 28) (hr : r < 4) : Met l yX5_tries wsX5_tries ({ frames := 2, cells := 0, slots := 0, locals := 43 }) (va_Pc [.ref (q 0), .int (nI r)] (o_R D (o_T cI cR cS cL) (wM q cI v))) (vp_Si (fun rz => rz = nI (m_tries (v 1) r))) 0 0 (fun _ => False) := by
  refine Met.ofW (cc := cX5_tries) (maxL := 4) (ret := (some .int)) (by decide) rfl ?_
  intro p e s m args below meth cd s₁ B hml hv
  obtain ⟨rfl, hP, hK, hN⟩ := hv
  have hx := B.exec
  have hb := B.bytes
  have hrt := B.returns
  have hts := atoms_spec (ws := wsX5_tries) B.pre
  have hown : s.vm.findClass RX5 = some m.cls := findClass_of_methodNamed B.named
  have hlocks := B.notSynchronized
  have hl := lv_entry ([.ref (q 0), .int (nI r)]) (n := 4) (Nat.le_of_ble_eq_true rfl)
  rw [lg_entry_eq]
  generalize (lg_sl ([.ref (q 0), .int (nI r)]) ++ List.replicate (4 - (lg_sl ([.ref (q 0), .int (nI r)])).length) Slot.unset).toArray = ls at hl ⊢
  have hl : lv_has ls 4 [(0, .ref (q 0)), (1, .int (nI r))] := hl
  have hIc := hI
  obtain ⟨⟨i1, hw, i3, i4, i5⟩, ⟨i6, i7, i8, i9, i10⟩, i11⟩ := hI
  have i12 := i11 r hr
  refine lv_aload_n hx hb dX5_tries_0 rfl (lv_at hl 0 rfl) ?_
  refine lv_iload_n hx hb dX5_tries_1 rfl (lv_at hl 1 rfl) ?_
  refine o_ri (va_runV (As := [.int (nI r)]) (rest := []) ⟨hx, hb, hml, hown, hts⟩ (k_X5_ofReading l D cI cR cS cL q v r (by show r < 4; first | assumption | omega) (by show ∀ k, v 1 k < 2 ^ 32; first | assumption | omega) (by show v 1 1 < 2 ^ 31; first | assumption | omega) (by show v 1 (15 + 17 * r + 3) < 2 ^ 31; first | assumption | omega)) (cwV 1 hts gX5_tries_X5_ofReading rfl rfl rfl (by decide +kernel) ⟨Nat.le_of_ble_eq_true rfl, Nat.le_of_ble_eq_true rfl⟩) (o_v (o_pR hK hN hP) (va_recv hK hP (ci := 5) (q0 := 0) rfl rfl)) rfl rfl hl.1 rfl (lv_room (Nat.le_of_ble_eq_true rfl)) dX5_tries_2 ⟨Nat.zero_le _, Nat.zero_le _⟩) (fun r_2 e_1 => ?_)
  have e_1 : r_2 = nI (m_ofr (v 1) r) := e_1
  subst e_1
  have gv_3 := m_ofr_le (v 1) r
  refine lv_istore_n (lv' := [(2, .int (nI (m_ofr (v 1) r))), (0, .ref (q 0)), (1, .int (nI r))]) hx hb dX5_tries_5 rfl hl (by decide) rfl (fun ls hl => ?_)
  refine lv_iload_n hx hb dX5_tries_6 rfl (lv_at hl 0 rfl) ?_
  refine o_const (k := 2) hx hb dX5_tries_7 (by decide) ?_
  refine o_icmp_ne (tgt := 13) hx hb dX5_tries_8 (by decide) (by omega) (Nat.le_of_ble_eq_true rfl) (fun c_4 => ?_) (fun c_4 => ?_)
  · skip
    refine lv_aload_n hx hb dX5_tries_13 rfl (lv_at hl 1 rfl) ?_
    refine lv_iload_n hx hb dX5_tries_14 rfl (lv_at hl 2 rfl) ?_
    refine o_const (k := 0) hx hb dX5_tries_15 (by decide) ?_
    refine o_ri (va_runV (As := [.int (nI r), .int (nI 0)]) (rest := []) ⟨hx, hb, hml, hown, hts⟩ (k_X5_of l D cI cR cS cL q v r 0 (by show r < 4; first | assumption | omega) (by show 0 < 17; first | assumption | omega)) (cwV 2 hts gX5_tries_X5_of rfl rfl rfl (by decide +kernel) ⟨Nat.le_of_ble_eq_true rfl, Nat.le_of_ble_eq_true rfl⟩) (o_v (o_pR hK hN hP) (va_recv hK hP (ci := 5) (q0 := 0) rfl rfl)) rfl rfl hl.1 rfl (lv_room (Nat.le_of_ble_eq_true rfl)) dX5_tries_16 ⟨Nat.zero_le _, Nat.zero_le _⟩) (fun r_6 e_5 => ?_)
    have e_5 : r_6 = nI (v 1 (15 + 17 * r)) := e_5
    subst e_5
    refine o_const (k := 1) hx hb dX5_tries_19 (by decide) ?_
    refine o_icmp_ne (tgt := 57) hx hb dX5_tries_20 (by decide) (by omega) (Nat.le_of_ble_eq_true rfl) (fun c_7 => ?_) (fun c_7 => ?_)
    · skip
      refine o_const (k := 0) hx hb dX5_tries_57 (by decide) ?_
      refine lv_istore_n (lv' := [(3, .int (nI 0)), (2, .int (nI (m_ofr (v 1) r))), (0, .ref (q 0)), (1, .int (nI r))]) hx hb dX5_tries_58 rfl hl (by decide) rfl (fun ls hl => ?_)
      refine lv_iload_n hx hb dX5_tries_59 rfl (lv_at hl 0 rfl) ?_
      refine o_if_eq (tgt := 67) hx hb dX5_tries_60 (by decide) (Nat.le_of_ble_eq_true rfl) (fun _ => ?_) (fun c0 => absurd c0 (by decide))
      refine o_const (k := 1) hx hb dX5_tries_67 (by decide) ?_
      exact W.iret (v := nI 1) hx hb hrt (fun t ht hW => ⟨_, rfl, (congrArg nI (by unfold m_tries; (repeat' split) <;> omega)), ht⟩) (fun _ h => nomatch h) dX5_tries_68
    · skip
      refine lv_iload_n hx hb dX5_tries_23 rfl (lv_at hl 0 rfl) ?_
      refine o_const (k := 1) hx hb dX5_tries_24 (by decide) ?_
      refine o_icmp_ne (tgt := 46) hx hb dX5_tries_25 (by decide) (by omega) (Nat.le_of_ble_eq_true rfl) (fun c_8 => ?_) (fun c_8 => ?_)
      · skip
        refine lv_aload_n hx hb dX5_tries_46 rfl (lv_at hl 1 rfl) ?_
        refine o_ri (va_runV (As := []) (rest := []) ⟨hx, hb, hml, hown, hts⟩ (k_X5_isOdd l D cI cR cS cL q v (by show v 1 0 < 2 ^ 31; first | assumption | omega)) (cwV 0 hts gX5_tries_X5_isOdd rfl rfl rfl (by decide +kernel) ⟨Nat.le_of_ble_eq_true rfl, Nat.le_of_ble_eq_true rfl⟩) (o_v (o_pR hK hN hP) (va_recv hK hP (ci := 5) (q0 := 0) rfl rfl)) rfl rfl hl.1 rfl (lv_room (Nat.le_of_ble_eq_true rfl)) dX5_tries_47 ⟨Nat.zero_le _, Nat.zero_le _⟩) (fun r_10 e_9 => ?_)
        have e_9 : r_10 = nI (bn (v 1 0 % 2 = 1)) := e_9
        subst e_9
        refine o_ifz (tgt := 57) hx hb dX5_tries_50 (by decide) (fun c_11 => ?_) (fun c_11 => ?_)
        · skip
          refine o_const (k := 0) hx hb dX5_tries_57 (by decide) ?_
          refine lv_istore_n (lv' := [(3, .int (nI 0)), (2, .int (nI (m_ofr (v 1) r))), (0, .ref (q 0)), (1, .int (nI r))]) hx hb dX5_tries_58 rfl hl (by decide) rfl (fun ls hl => ?_)
          refine lv_iload_n hx hb dX5_tries_59 rfl (lv_at hl 0 rfl) ?_
          refine o_if_eq (tgt := 67) hx hb dX5_tries_60 (by decide) (Nat.le_of_ble_eq_true rfl) (fun _ => ?_) (fun c0 => absurd c0 (by decide))
          refine o_const (k := 1) hx hb dX5_tries_67 (by decide) ?_
          exact W.iret (v := nI 1) hx hb hrt (fun t ht hW => ⟨_, rfl, (congrArg nI (by unfold m_tries; (repeat' split) <;> omega)), ht⟩) (fun _ h => nomatch h) dX5_tries_68
        · skip
          refine o_const (k := 1) hx hb dX5_tries_53 (by decide) ?_
          refine lv_goto (tgt := 58) hx hb dX5_tries_54 (by decide) ?_
          refine lv_istore_n (lv' := [(3, .int (nI 1)), (2, .int (nI (m_ofr (v 1) r))), (0, .ref (q 0)), (1, .int (nI r))]) hx hb dX5_tries_58 rfl hl (by decide) rfl (fun ls hl => ?_)
          refine lv_iload_n hx hb dX5_tries_59 rfl (lv_at hl 0 rfl) ?_
          refine o_if_eq (tgt := 67) hx hb dX5_tries_60 (by decide) (Nat.le_of_ble_eq_true rfl) (fun c0 => absurd c0 (by decide)) (fun _ => ?_)
          refine o_const (k := 0) hx hb dX5_tries_63 (by decide) ?_
          refine lv_goto (tgt := 68) hx hb dX5_tries_64 (by decide) ?_
          exact W.iret (v := nI 0) hx hb hrt (fun t ht hW => ⟨_, rfl, (congrArg nI (by unfold m_tries; (repeat' split) <;> omega)), ht⟩) (fun _ h => nomatch h) dX5_tries_68
      · skip
        refine lv_aload_n hx hb dX5_tries_28 rfl (lv_at hl 1 rfl) ?_
        refine lv_iload_n hx hb dX5_tries_29 rfl (lv_at hl 2 rfl) ?_
        refine o_const (k := 1) hx hb dX5_tries_30 (by decide) ?_
        refine o_ri (va_runV (As := [.int (nI r), .int (nI 1)]) (rest := []) ⟨hx, hb, hml, hown, hts⟩ (k_X5_of l D cI cR cS cL q v r 1 (by show r < 4; first | assumption | omega) (by show 1 < 17; first | assumption | omega)) (cwV 2 hts gX5_tries_X5_of rfl rfl rfl (by decide +kernel) ⟨Nat.le_of_ble_eq_true rfl, Nat.le_of_ble_eq_true rfl⟩) (o_v (o_pR hK hN hP) (va_recv hK hP (ci := 5) (q0 := 0) rfl rfl)) rfl rfl hl.1 rfl (lv_room (Nat.le_of_ble_eq_true rfl)) dX5_tries_31 ⟨Nat.zero_le _, Nat.zero_le _⟩) (fun r_13 e_12 => ?_)
        have e_12 : r_13 = nI (v 1 (15 + 17 * r + 1)) := e_12
        subst e_12
        refine lv_aload_n hx hb dX5_tries_34 rfl (lv_at hl 1 rfl) ?_
        refine va_get (D := D) (ci := 5) (v := .ref (q 1)) (C := RX5) (T := TX5) (N := 10) hx hb hts inX5_tries_X5 hown hK hP 0 rfl rfl 0 (by decide) (hts (.fieldLink RX5 7 "OddNoticeModel" "now" "[I") (List.mem_of_getElem? (i := 1) (by decide +kernel))) (fun _ h9 => h9) rfl dX5_tries_35 ?_
        refine o_const (k := 0) hx hb dX5_tries_38 (by decide) ?_
        refine o_iald (v := nI (v 1 0)) hx hb hK hP 1 0 rfl rfl (Nat.le_of_ble_eq_true rfl) (Nat.le_of_ble_eq_true rfl) rfl dX5_tries_39 ?_
        have f_14 := hw 0
        refine o_icmp_eq (tgt := 57) hx hb dX5_tries_40 (by decide) (by omega) (by omega) (fun c_15 => ?_) (fun c_15 => ?_)
        · skip
          refine o_const (k := 0) hx hb dX5_tries_57 (by decide) ?_
          refine lv_istore_n (lv' := [(3, .int (nI 0)), (2, .int (nI (m_ofr (v 1) r))), (0, .ref (q 0)), (1, .int (nI r))]) hx hb dX5_tries_58 rfl hl (by decide) rfl (fun ls hl => ?_)
          refine lv_iload_n hx hb dX5_tries_59 rfl (lv_at hl 0 rfl) ?_
          refine o_if_eq (tgt := 67) hx hb dX5_tries_60 (by decide) (Nat.le_of_ble_eq_true rfl) (fun _ => ?_) (fun c0 => absurd c0 (by decide))
          refine o_const (k := 1) hx hb dX5_tries_67 (by decide) ?_
          exact W.iret (v := nI 1) hx hb hrt (fun t ht hW => ⟨_, rfl, (congrArg nI (by unfold m_tries; (repeat' split) <;> omega)), ht⟩) (fun _ h => nomatch h) dX5_tries_68
        · skip
          refine lv_goto (tgt := 53) hx hb dX5_tries_43 (by decide) ?_
          refine o_const (k := 1) hx hb dX5_tries_53 (by decide) ?_
          refine lv_goto (tgt := 58) hx hb dX5_tries_54 (by decide) ?_
          refine lv_istore_n (lv' := [(3, .int (nI 1)), (2, .int (nI (m_ofr (v 1) r))), (0, .ref (q 0)), (1, .int (nI r))]) hx hb dX5_tries_58 rfl hl (by decide) rfl (fun ls hl => ?_)
          refine lv_iload_n hx hb dX5_tries_59 rfl (lv_at hl 0 rfl) ?_
          refine o_if_eq (tgt := 67) hx hb dX5_tries_60 (by decide) (Nat.le_of_ble_eq_true rfl) (fun c0 => absurd c0 (by decide)) (fun _ => ?_)
          refine o_const (k := 0) hx hb dX5_tries_63 (by decide) ?_
          refine lv_goto (tgt := 68) hx hb dX5_tries_64 (by decide) ?_
          exact W.iret (v := nI 0) hx hb hrt (fun t ht hW => ⟨_, rfl, (congrArg nI (by unfold m_tries; (repeat' split) <;> omega)), ht⟩) (fun _ h => nomatch h) dX5_tries_68
  · skip
    refine o_const (k := 4294967295) hx hb dX5_tries_11 (by decide) ?_
    exact W.iret (v := nI 4294967295) hx hb hrt (fun t ht hW => ⟨_, rfl, (congrArg nI (by unfold m_tries; (repeat' split) <;> omega)), ht⟩) (fun _ h => nomatch h) dX5_tries_12
theorem inX5_ifRead_X5 : ∀ w ∈ wsX50, w ∈ wsX5_ifRead := by decide +kernel
set_option maxHeartbeats 4000000 in
set_option maxRecDepth 100000 in
theorem k_X5_ifRead (l : Launch) (D : va_G) (cI cR cS cL : ClassId) (sz : Nat) (q : Nat → Nat) (v : Nat → Nat → Nat) (b : Nat) (r : Nat) (hI : m_I b (v 1)) (hb : b < 2 ^ 28) (hr : r < 2 ^ 32) : Met l yX5_ifRead wsX5_ifRead ({ frames := 3, cells := 0, slots := 0, locals := 66 }) (va_Pc [.ref (q 0), .int (nI r)] (o_B D (o_T cI cR cS cL) (wM q cI v) sz)) (va_Qi (fun rz (_ : Unit) => rz = nI (if r < 4 then m_tries (v 1) r else 0)) (fun (_ : Unit) t => va_P D vwCl (wM q cI (va_up v 0 (va_up (v 0) 2 (if r < 4 then 0 else 1)))) t.heap) (va_A (wM q cI v) sz)) 0 0 (va_A (wM q cI v) sz) := by
  refine Met.ofW (cc := cX5_ifRead) (maxL := 2) (ret := (some .int)) (by decide) rfl ?_
  intro p e s m args below meth cd s₁ B hml hv
  obtain ⟨rfl, hsz, hP, hK, hD0, hN⟩ := hv
  have hx := B.exec
  have hb := B.bytes
  have hrt := B.returns
  have hts := atoms_spec (ws := wsX5_ifRead) B.pre
  have hown : s.vm.findClass RX5 = some m.cls := findClass_of_methodNamed B.named
  have hlocks := B.notSynchronized
  subst hsz
  have hD := hD0.self (sz := s.heap.size)
  generalize hAe : va_A (wM q cI v) s.heap.size = A at hD ⊢
  have hA : ∀ q : Nat, s.heap.size ≤ q → A q := fun q h => by rw [← hAe]; exact Or.inr h
  have hS : va_S A s.heap s.heap [] := va_S.rf
  have hl := lv_entry ([.ref (q 0), .int (nI r)]) (n := 2) (Nat.le_of_ble_eq_true rfl)
  rw [lg_entry_eq]
  generalize (lg_sl ([.ref (q 0), .int (nI r)]) ++ List.replicate (2 - (lg_sl ([.ref (q 0), .int (nI r)])).length) Slot.unset).toArray = ls at hl ⊢
  have hl : lv_has ls 2 [(0, .ref (q 0)), (1, .int (nI r))] := hl
  refine lv_aload_n hx hb dX5_ifRead_0 rfl (lv_at hl 0 rfl) ?_
  refine o_const (k := 0) hx hb dX5_ifRead_1 (by decide) ?_
  refine va_put (D := D) (ci := 5) (v := .int (nI 0)) (ty := .int) (C := RX5) (T := TX5) (N := 10) hx hb hts inX5_ifRead_X5 tyX5 tyX5_ok nmX5 hown hK hP hD hS 0 rfl rfl 5 (by decide) (hts (.fieldLink RX5 22 "OddNoticeModel" "thrown" "I") (List.mem_of_getElem? (i := 1) (by decide +kernel))) (fun _ h9 => h9) rfl (by decide +kernel) rfl rfl (Nat.le_of_ble_eq_true rfl) dX5_ifRead_2 (fun H locs hP hD hS => ?_)
  have hP : va_P D vwCl (wM q cI (va_up v 0 (va_up (v 0) 2 0))) H := hP
  have hD : va_D A (wM q cI (va_up v 0 (va_up (v 0) 2 0))) := hD
  refine lv_iload_n hx hb dX5_ifRead_5 rfl (lv_at hl 1 rfl) ?_
  refine o_ri (va_runS (As := [.int (nI r)]) (rest := []) ⟨hx, hb, hml, hown, hts⟩ (k_X5_isReader l D cI cR cS cL r (by show r < 2 ^ 32; first | assumption | omega)) (va_cwS 1 hts gX5_ifRead_X5_isReader rfl rfl rfl (by decide +kernel) ⟨Nat.le_of_ble_eq_true rfl, Nat.le_of_ble_eq_true rfl⟩) (o_pR hK hN (hP.sub (ws' := []) [] rfl)) rfl rfl hl.1 rfl (lv_room (Nat.le_of_ble_eq_true rfl)) dX5_ifRead_6 ⟨Nat.zero_le _, Nat.zero_le _⟩) (fun r_2 e_1 => ?_)
  have e_1 : r_2 = nI (bn (r < 4)) := e_1
  subst e_1
  refine o_ifz (tgt := 20) hx hb dX5_ifRead_9 (by decide) (fun c_3 => ?_) (fun c_3 => ?_)
  · skip
    refine lv_aload_n hx hb dX5_ifRead_20 rfl (lv_at hl 0 rfl) ?_
    refine o_const (k := 1) hx hb dX5_ifRead_21 (by decide) ?_
    refine o_wi (va_runV (As := [.int (nI 1)]) (rest := []) ⟨hx, hb, hml, hown, hts⟩ (k_X5_fails l D cI cR cS cL H.size q (va_up v 0 (va_up (v 0) 2 0)) 1 ) (cwV 1 hts gX5_ifRead_X5_fails rfl rfl rfl (by decide +kernel) ⟨Nat.le_of_ble_eq_true rfl, Nat.le_of_ble_eq_true rfl⟩) (o_v (o_pB hK hN hP hD) (va_recv hK hP (ci := 5) (q0 := 0) rfl rfl)) rfl rfl hl.1 rfl (lv_room (Nat.le_of_ble_eq_true rfl)) dX5_ifRead_22 ⟨Nat.zero_le _, Nat.zero_le _⟩) hP hD hS hA [0, 1, 2, 3, 4] (by decide) rfl (fun _ => rfl) (fun r_5 _ H locs e_4 hP hD hS => ?_)
    have e_4 : r_5 = nI 0 := e_4
    subst e_4
    have hP : va_P D vwCl (wM q cI (va_up v 0 (va_up (v 0) 2 1))) H := hP
    have hD : va_D A (wM q cI (va_up v 0 (va_up (v 0) 2 1))) := hD
    have w_6 : (wM q cI (va_up v 0 (va_up (v 0) 2 (if r < 4 then 0 else 1)))) = (wM q cI (va_up v 0 (va_up (v 0) 2 1))) := (by rw [show (if r < 4 then 0 else 1) = 1 from by (repeat' split) <;> omega])
    rw [← w_6] at hP
    exact W.iret (v := nI 0) hx hb hrt (fun t ht hW => ⟨⟨_, (), rfl, (congrArg nI (by (repeat' split) <;> first | rfl | omega)), by show va_P D vwCl _ t.heap; rw [ht]; exact hP⟩, hS.F ht⟩) hS.2.2 dX5_ifRead_25
  · skip
    refine lv_aload_n hx hb dX5_ifRead_12 rfl (lv_at hl 0 rfl) ?_
    refine lv_iload_n hx hb dX5_ifRead_13 rfl (lv_at hl 1 rfl) ?_
    refine o_ri (va_runV (As := [.int (nI r)]) (rest := []) ⟨hx, hb, hml, hown, hts⟩ (k_X5_tries l D cI cR cS cL q (va_up v 0 (va_up (v 0) 2 0)) b r (hI) (by show b < 2 ^ 28; first | assumption | omega) (by show r < 4; first | assumption | omega)) (cwV 1 hts gX5_ifRead_X5_tries rfl rfl rfl (by decide +kernel) ⟨Nat.le_of_ble_eq_true rfl, Nat.le_of_ble_eq_true rfl⟩) (o_v (o_pR hK hN hP) (va_recv hK hP (ci := 5) (q0 := 0) rfl rfl)) rfl rfl hl.1 rfl (lv_room (Nat.le_of_ble_eq_true rfl)) dX5_ifRead_14 ⟨Nat.zero_le _, Nat.zero_le _⟩) (fun r_8 e_7 => ?_)
    have e_7 : r_8 = nI (m_tries (v 1) r) := e_7
    subst e_7
    have gv_9 := m_tries_or (v 1) r
    refine lv_goto (tgt := 25) hx hb dX5_ifRead_17 (by decide) ?_
    have w_10 : (wM q cI (va_up v 0 (va_up (v 0) 2 (if r < 4 then 0 else 1)))) = (wM q cI (va_up v 0 (va_up (v 0) 2 0))) := (by rw [show (if r < 4 then 0 else 1) = 0 from by (repeat' split) <;> omega])
    rw [← w_10] at hP
    exact W.iret (v := nI (m_tries (v 1) r)) hx hb hrt (fun t ht hW => ⟨⟨_, (), rfl, (congrArg nI (by (repeat' split) <;> first | rfl | omega)), by show va_P D vwCl _ t.heap; rw [ht]; exact hP⟩, hS.F ht⟩) hS.2.2 dX5_ifRead_25
theorem inX5_clerksIn_X5 : ∀ w ∈ wsX50, w ∈ wsX5_clerksIn := by decide +kernel
set_option maxHeartbeats 4000000 in
set_option maxRecDepth 100000 in
theorem k_X5_clerksIn (l : Launch) (D : va_G) (cI cR cS cL : ClassId) (q : Nat → Nat) (v : Nat → Nat → Nat) (b : Nat) (hI : m_I b (v 1)) (hb : b < 2 ^ 28) : Met l yX5_clerksIn wsX5_clerksIn ({ frames := 1, cells := 0, slots := 0, locals := 20 }) (va_Pc [.ref (q 0)] (o_R D (o_T cI cR cS cL) (wM q cI v))) (vp_Si (fun rz => rz = nI (if v 1 0 % 2 = 1 then 1 + v 1 4 else 0))) 0 0 (fun _ => False) := by
  refine Met.ofW (cc := cX5_clerksIn) (maxL := 1) (ret := (some .int)) (by decide) rfl ?_
  intro p e s m args below meth cd s₁ B hml hv
  obtain ⟨rfl, hP, hK, hN⟩ := hv
  have hx := B.exec
  have hb := B.bytes
  have hrt := B.returns
  have hts := atoms_spec (ws := wsX5_clerksIn) B.pre
  have hown : s.vm.findClass RX5 = some m.cls := findClass_of_methodNamed B.named
  have hlocks := B.notSynchronized
  have hl := lv_entry ([.ref (q 0)]) (n := 1) (Nat.le_of_ble_eq_true rfl)
  rw [lg_entry_eq]
  generalize (lg_sl ([.ref (q 0)]) ++ List.replicate (1 - (lg_sl ([.ref (q 0)])).length) Slot.unset).toArray = ls at hl ⊢
  have hl : lv_has ls 1 [(0, .ref (q 0))] := hl
  have hIc := hI
  obtain ⟨⟨i1, hw, i3, i4, i5⟩, ⟨i6, i7, i8, i9, i10⟩, i11⟩ := hI
  refine lv_aload_n hx hb dX5_clerksIn_0 rfl (lv_at hl 0 rfl) ?_
  refine o_ri (va_runV (As := []) (rest := []) ⟨hx, hb, hml, hown, hts⟩ (k_X5_isOdd l D cI cR cS cL q v (by show v 1 0 < 2 ^ 31; first | assumption | omega)) (cwV 0 hts gX5_clerksIn_X5_isOdd rfl rfl rfl (by decide +kernel) ⟨Nat.le_of_ble_eq_true rfl, Nat.le_of_ble_eq_true rfl⟩) (o_v (o_pR hK hN hP) (va_recv hK hP (ci := 5) (q0 := 0) rfl rfl)) rfl rfl hl.1 rfl (lv_room (Nat.le_of_ble_eq_true rfl)) dX5_clerksIn_1 ⟨Nat.zero_le _, Nat.zero_le _⟩) (fun r_2 e_1 => ?_)
  have e_1 : r_2 = nI (bn (v 1 0 % 2 = 1)) := e_1
  subst e_1
  refine o_ifz (tgt := 18) hx hb dX5_clerksIn_4 (by decide) (fun c_3 => ?_) (fun c_3 => ?_)
  · skip
    refine o_const (k := 0) hx hb dX5_clerksIn_18 (by decide) ?_
    exact W.iret (v := nI 0) hx hb hrt (fun t ht hW => ⟨_, rfl, (congrArg nI (by (repeat' split) <;> first | rfl | omega)), ht⟩) (fun _ h => nomatch h) dX5_clerksIn_19
  · skip
    refine o_const (k := 1) hx hb dX5_clerksIn_7 (by decide) ?_
    refine lv_aload_n hx hb dX5_clerksIn_8 rfl (lv_at hl 0 rfl) ?_
    refine va_get (D := D) (ci := 5) (v := .ref (q 1)) (C := RX5) (T := TX5) (N := 10) hx hb hts inX5_clerksIn_X5 hown hK hP 0 rfl rfl 0 (by decide) (hts (.fieldLink RX5 7 "OddNoticeModel" "now" "[I") (List.mem_of_getElem? (i := 1) (by decide +kernel))) (fun _ h9 => h9) rfl dX5_clerksIn_9 ?_
    refine o_const (k := 4) hx hb dX5_clerksIn_12 (by decide) ?_
    refine o_iald (v := nI (v 1 4)) hx hb hK hP 1 0 rfl rfl (Nat.le_of_ble_eq_true rfl) (Nat.le_of_ble_eq_true rfl) rfl dX5_clerksIn_13 ?_
    refine o_iadd (a := 1) (b := (v 1 4)) (k := (1 + (v 1 4))) hx hb dX5_clerksIn_14 rfl ?_
    refine lv_goto (tgt := 19) hx hb dX5_clerksIn_15 (by decide) ?_
    exact W.iret (v := nI (1 + (v 1 4))) hx hb hrt (fun t ht hW => ⟨_, rfl, (congrArg nI (by (repeat' split) <;> first | rfl | omega)), ht⟩) (fun _ h => nomatch h) dX5_clerksIn_19
theorem inX5_busy_X5 : ∀ w ∈ wsX50, w ∈ wsX5_busy := by decide +kernel
set_option maxHeartbeats 4000000 in
set_option maxRecDepth 100000 in
theorem k_X5_busy (l : Launch) (D : va_G) (cI cR cS cL : ClassId) (sz : Nat) (q : Nat → Nat) (v : Nat → Nat → Nat) (b : Nat) (hI : m_I b (v 1)) (hb : b < 2 ^ 28) : Met l yX5_busy wsX5_busy ({ frames := 2, cells := 0, slots := 0, locals := 40 }) (va_Pc [.ref (q 0)] (o_B D (o_T cI cR cS cL) (wM q cI v) sz)) (va_Qi (fun rz (_ : Unit) => rz = nI (if v 1 0 % 2 = 1 then 1 + v 1 4 else 0)) (fun (_ : Unit) t => va_P D vwCl (wM q cI (va_up v 0 (va_up (v 0) 2 0))) t.heap) (va_A (wM q cI v) sz)) 0 0 (va_A (wM q cI v) sz) := by
  refine Met.ofW (cc := cX5_busy) (maxL := 1) (ret := (some .int)) (by decide) rfl ?_
  intro p e s m args below meth cd s₁ B hml hv
  obtain ⟨rfl, hsz, hP, hK, hD0, hN⟩ := hv
  have hx := B.exec
  have hb := B.bytes
  have hrt := B.returns
  have hts := atoms_spec (ws := wsX5_busy) B.pre
  have hown : s.vm.findClass RX5 = some m.cls := findClass_of_methodNamed B.named
  have hlocks := B.notSynchronized
  subst hsz
  have hD := hD0.self (sz := s.heap.size)
  generalize hAe : va_A (wM q cI v) s.heap.size = A at hD ⊢
  have hA : ∀ q : Nat, s.heap.size ≤ q → A q := fun q h => by rw [← hAe]; exact Or.inr h
  have hS : va_S A s.heap s.heap [] := va_S.rf
  have hl := lv_entry ([.ref (q 0)]) (n := 1) (Nat.le_of_ble_eq_true rfl)
  rw [lg_entry_eq]
  generalize (lg_sl ([.ref (q 0)]) ++ List.replicate (1 - (lg_sl ([.ref (q 0)])).length) Slot.unset).toArray = ls at hl ⊢
  have hl : lv_has ls 1 [(0, .ref (q 0))] := hl
  refine lv_aload_n hx hb dX5_busy_0 rfl (lv_at hl 0 rfl) ?_
  refine o_const (k := 0) hx hb dX5_busy_1 (by decide) ?_
  refine va_put (D := D) (ci := 5) (v := .int (nI 0)) (ty := .int) (C := RX5) (T := TX5) (N := 10) hx hb hts inX5_busy_X5 tyX5 tyX5_ok nmX5 hown hK hP hD hS 0 rfl rfl 5 (by decide) (hts (.fieldLink RX5 22 "OddNoticeModel" "thrown" "I") (List.mem_of_getElem? (i := 1) (by decide +kernel))) (fun _ h9 => h9) rfl (by decide +kernel) rfl rfl (Nat.le_of_ble_eq_true rfl) dX5_busy_2 (fun H locs hP hD hS => ?_)
  have hP : va_P D vwCl (wM q cI (va_up v 0 (va_up (v 0) 2 0))) H := hP
  have hD : va_D A (wM q cI (va_up v 0 (va_up (v 0) 2 0))) := hD
  refine lv_aload_n hx hb dX5_busy_5 rfl (lv_at hl 0 rfl) ?_
  refine o_ri (va_runV (As := []) (rest := []) ⟨hx, hb, hml, hown, hts⟩ (k_X5_clerksIn l D cI cR cS cL q (va_up v 0 (va_up (v 0) 2 0)) b (hI) (by show b < 2 ^ 28; first | assumption | omega)) (cwV 0 hts gX5_busy_X5_clerksIn rfl rfl rfl (by decide +kernel) ⟨Nat.le_of_ble_eq_true rfl, Nat.le_of_ble_eq_true rfl⟩) (o_v (o_pR hK hN hP) (va_recv hK hP (ci := 5) (q0 := 0) rfl rfl)) rfl rfl hl.1 rfl (lv_room (Nat.le_of_ble_eq_true rfl)) dX5_busy_6 ⟨Nat.zero_le _, Nat.zero_le _⟩) (fun r_2 e_1 => ?_)
  have e_1 : r_2 = nI (if v 1 0 % 2 = 1 then 1 + v 1 4 else 0) := e_1
  subst e_1
  exact W.iret (v := nI (if v 1 0 % 2 = 1 then 1 + v 1 4 else 0)) hx hb hrt (fun t ht hW => ⟨⟨_, (), rfl, rfl, by show va_P D vwCl _ t.heap; rw [ht]; exact hP⟩, hS.F ht⟩) hS.2.2 dX5_busy_9
