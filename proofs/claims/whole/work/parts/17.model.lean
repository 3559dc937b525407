set_option maxHeartbeats 4000000 in
set_option maxRecDepth 100000 in
theorem k_Jxe99ae_isNaN_b9ae7 (l : Launch) (D : va_G) (cI cR cS cL : ClassId) (x : UInt64) (hx0 : vf_n64 x) : Met l yJxe99ae_isNaN_b9ae7 wsJxe99ae_isNaN_b9ae7 ({ frames := 0, cells := 0, slots := 0, locals := 0 }) (va_Pc [.double x] (o_R D (o_T cI cR cS cL) [])) (vp_Si (fun rz => rz = nI 0)) 0 0 (fun _ => False) := by
  refine va_MetF (cc := cJxe99ae_isNaN_b9ae7) (maxL := 2) (ret := (some .boolean)) (by decide +kernel) rfl ?_
  intro p e s m args below meth cd s₁ B hml hv
  obtain ⟨rfl, hP, hK, hN⟩ := hv
  have hx := B.exec
  have hb := B.bytes
  have hrt := B.returns
  have hts := atoms_spec (ws := wsJxe99ae_isNaN_b9ae7) B.pre
  have hown : s.vm.findClass RJxe99ae = some m.cls := findClass_of_methodNamed B.named
  have hlocks := B.notSynchronized
  have hl := lv_entry ([.double x]) (n := 2) (Nat.le_of_ble_eq_true rfl)
  rw [lg_entry_eq]
  generalize (lg_sl ([.double x]) ++ List.replicate (2 - (lg_sl ([.double x])).length) Slot.unset).toArray = ls at hl ⊢
  have hl : lv_has ls 2 [(0, .double x)] := hl
  refine lv_dload_n hx hb dJxe99ae_isNaN_b9ae7_0 rfl (lv_at hl 0 rfl) ?_
  refine lv_dload_n hx hb dJxe99ae_isNaN_b9ae7_1 rfl (lv_at hl 0 rfl) ?_
  refine lv_dcmp hx hb dJxe99ae_isNaN_b9ae7_2 ?_
  refine lv_if_eq (tgt := 10) hx hb dJxe99ae_isNaN_b9ae7_3 (by decide) (fun _ => ?_) (fun c0 => absurd c0 (fun z => z (o_dcmp_self hx0)))
  refine o_const (k := 0) hx hb dJxe99ae_isNaN_b9ae7_10 (by decide) ?_
  exact W.zret (v := nI 0) hx hb hrt rfl (fun t ht hW => ⟨_, rfl, rfl, ht⟩) (fun _ h => nomatch h) dJxe99ae_isNaN_b9ae7_11
set_option maxHeartbeats 4000000 in
set_option maxRecDepth 100000 in
theorem k_Jxe99ae_doubleToLongBits_ccdee (l : Launch) (D : va_G) (cI cR cS cL : ClassId) (x : UInt64) (hx0 : vf_n64 x) : Met l yJxe99ae_doubleToLongBits_ccdee wsJxe99ae_doubleToLongBits_ccdee ({ frames := 1, cells := 0, slots := 0, locals := 21 }) (va_Pc [.double x] (o_R D (o_T cI cR cS cL) [])) (vp_Sl (fun rz => rz = x.toInt64)) 0 0 (fun _ => False) := by
  refine va_MetF (cc := cJxe99ae_doubleToLongBits_ccdee) (maxL := 2) (ret := (some .long)) (by decide +kernel) rfl ?_
  intro p e s m args below meth cd s₁ B hml hv
  obtain ⟨rfl, hP, hK, hN⟩ := hv
  have hx := B.exec
  have hb := B.bytes
  have hrt := B.returns
  have hts := atoms_spec (ws := wsJxe99ae_doubleToLongBits_ccdee) B.pre
  have hown : s.vm.findClass RJxe99ae = some m.cls := findClass_of_methodNamed B.named
  have hlocks := B.notSynchronized
  have hl := lv_entry ([.double x]) (n := 2) (Nat.le_of_ble_eq_true rfl)
  rw [lg_entry_eq]
  generalize (lg_sl ([.double x]) ++ List.replicate (2 - (lg_sl ([.double x])).length) Slot.unset).toArray = ls at hl ⊢
  have hl : lv_has ls 2 [(0, .double x)] := hl
  refine lv_dload_n hx hb dJxe99ae_doubleToLongBits_ccdee_0 rfl (lv_at hl 0 rfl) ?_
  refine o_ri (va_runS (As := [.double x]) (rest := []) ⟨hx, hb, hml, hown, hts⟩ (k_Jxe99ae_isNaN_b9ae7 l D cI cR cS cL x (by show vf_n64 x; first | assumption | omega)) (va_cwS 1 hts gJxe99ae_doubleToLongBits_ccdee_Jxe99ae_isNaN_b9ae7 rfl rfl rfl (by decide +kernel) ⟨Nat.le_of_ble_eq_true rfl, Nat.le_of_ble_eq_true rfl⟩) (o_pR hK hN (hP.sub (ws' := []) [] rfl)) rfl rfl hl.1 rfl (lv_room (Nat.le_of_ble_eq_true rfl)) dJxe99ae_doubleToLongBits_ccdee_1 ⟨Nat.zero_le _, Nat.zero_le _⟩) (fun r_2 e_1 => ?_)
  have e_1 : r_2 = nI 0 := e_1
  subst e_1
  refine o_if_ne (tgt := 12) hx hb dJxe99ae_doubleToLongBits_ccdee_4 (by decide) (Nat.le_of_ble_eq_true rfl) (fun c0 => absurd c0 (by decide)) (fun _ => ?_)
  refine lv_dload_n hx hb dJxe99ae_doubleToLongBits_ccdee_7 rfl (lv_at hl 0 rfl) ?_
  refine vn_d2l (b := x) hx hb (hml.trans hl.1.symm) hown (hts (.methodLink RJxe99ae 134 ⟨"java/lang/Double", "doubleToRawLongBits", "(D)J"⟩) (List.mem_of_getElem? (i := 1) (by decide +kernel))) (hts (.native ⟨"java/lang/Double", "doubleToRawLongBits", "(D)J"⟩) (List.mem_of_getElem? (i := 2) (by decide +kernel))) (hts (.static ⟨"java/lang/Double", "doubleToRawLongBits", "(D)J"⟩) (List.mem_of_getElem? (i := 3) (by decide +kernel))) (hts (.initialized "java/lang/Double") (List.mem_of_getElem? (i := 4) (by decide +kernel))) (Nat.le_of_ble_eq_true rfl) (Nat.le_of_ble_eq_true rfl) dJxe99ae_doubleToLongBits_ccdee_8 ?_
  exact W.lret (v := x.toInt64) hx hb hrt (fun t ht hW => ⟨_, rfl, rfl, ht⟩) (fun _ h => nomatch h) dJxe99ae_doubleToLongBits_ccdee_11
set_option maxHeartbeats 4000000 in
set_option maxRecDepth 100000 in
theorem k_X5_share (l : Launch) (D : va_G) (cI cR cS cL : ClassId) (q : Nat → Nat) (v : Nat → Nat → Nat) (b : Nat) (hI : m_I b (v 1)) (hb : b < 2 ^ 28) : Met l yX5_share wsX5_share ({ frames := 3, cells := 0, slots := 0, locals := 66 }) (va_Pc [.ref (q 0)] (o_R D (o_T cI cR cS cL) (wM q cI v))) (vp_Sd (fun rz => rz = (m_share (v 1)))) 0 0 (fun _ => False) := by
  refine Met.ofW (cc := cX5_share) (maxL := 3) (ret := (some .double)) (by decide) rfl ?_
  intro p e s m args below meth cd s₁ B hml hv
  obtain ⟨rfl, hP, hK, hN⟩ := hv
  have hx := B.exec
  have hb := B.bytes
  have hrt := B.returns
  have hts := atoms_spec (ws := wsX5_share) B.pre
  have hown : s.vm.findClass RX5 = some m.cls := findClass_of_methodNamed B.named
  have hlocks := B.notSynchronized
  have hl := lv_entry ([.ref (q 0)]) (n := 3) (Nat.le_of_ble_eq_true rfl)
  rw [lg_entry_eq]
  generalize (lg_sl ([.ref (q 0)]) ++ List.replicate (3 - (lg_sl ([.ref (q 0)])).length) Slot.unset).toArray = ls at hl ⊢
  have hl : lv_has ls 3 [(0, .ref (q 0))] := hl
  have hIc := hI
  obtain ⟨⟨i1, hw, i3, i4, i5⟩, ⟨i6, i7, i8, i9, i10⟩, i11⟩ := hI
  refine lv_aload_n hx hb dX5_share_0 rfl (lv_at hl 0 rfl) ?_
  refine o_const (k := 5) hx hb dX5_share_1 (by decide) ?_
  refine o_ri (va_runV (As := [.int (nI 5)]) (rest := []) ⟨hx, hb, hml, hown, hts⟩ (k_X5_ofAll l D cI cR cS cL q v b 5 (by show m_I b (v 1); first | assumption | omega) (by show b < 2 ^ 28; first | assumption | omega) (by show 5 = 0 ∨ 5 = 4 ∨ 5 = 5; first | assumption | omega)) (cwV 1 hts gX5_share_X5_ofAll rfl rfl rfl (by decide +kernel) ⟨Nat.le_of_ble_eq_true rfl, Nat.le_of_ble_eq_true rfl⟩) (o_v (o_pR hK hN hP) (va_recv hK hP (ci := 5) (q0 := 0) rfl rfl)) rfl rfl hl.1 rfl (lv_room (Nat.le_of_ble_eq_true rfl)) dX5_share_2 ⟨Nat.zero_le _, Nat.zero_le _⟩) (fun r_2 e_1 => ?_)
  have e_1 : r_2 = nI (m_all (v 1) 5) := e_1
  subst e_1
  refine lv_istore_n (lv' := [(1, .int (nI (m_all (v 1) 5))), (0, .ref (q 0))]) hx hb dX5_share_5 rfl hl (by decide) rfl (fun ls hl => ?_)
  refine lv_iload_n hx hb dX5_share_6 rfl (lv_at hl 0 rfl) ?_
  refine lv_aload_n hx hb dX5_share_7 rfl (lv_at hl 1 rfl) ?_
  refine o_const (k := 4) hx hb dX5_share_8 (by decide) ?_
  refine o_ri (va_runV (As := [.int (nI 4)]) (rest := [.int (nI (m_all (v 1) 5))]) ⟨hx, hb, hml, hown, hts⟩ (k_X5_ofAll l D cI cR cS cL q v b 4 (by show m_I b (v 1); first | assumption | omega) (by show b < 2 ^ 28; first | assumption | omega) (by show 4 = 0 ∨ 4 = 4 ∨ 4 = 5; first | assumption | omega)) (cwV 1 hts gX5_share_X5_ofAll rfl rfl rfl (by decide +kernel) ⟨Nat.le_of_ble_eq_true rfl, Nat.le_of_ble_eq_true rfl⟩) (o_v (o_pR hK hN hP) (va_recv hK hP (ci := 5) (q0 := 0) rfl rfl)) rfl rfl hl.1 rfl (lv_room (Nat.le_of_ble_eq_true rfl)) dX5_share_9 ⟨Nat.zero_le _, Nat.zero_le _⟩) (fun r_4 e_3 => ?_)
  have e_3 : r_4 = nI (m_all (v 1) 4) := e_3
  subst e_3
  refine o_iadd (a := (m_all (v 1) 5)) (b := (m_all (v 1) 4)) (k := ((m_all (v 1) 5) + (m_all (v 1) 4))) hx hb dX5_share_12 rfl ?_
  refine lv_istore_n (lv' := [(2, .int (nI ((m_all (v 1) 5) + (m_all (v 1) 4)))), (1, .int (nI (m_all (v 1) 5))), (0, .ref (q 0))]) hx hb dX5_share_13 rfl hl (by decide) rfl (fun ls hl => ?_)
  have ha4 := m_all_le hIc (Or.inl rfl)
  have ha5 := m_all_le hIc (Or.inr rfl)
  refine lv_iload_n hx hb dX5_share_14 rfl (lv_at hl 0 rfl) ?_
  refine o_if_ne (tgt := 22) hx hb dX5_share_15 (by decide) (by omega) (fun c_5 => ?_) (fun c_5 => ?_)
  · skip
    refine lv_iload_n hx hb dX5_share_22 rfl (lv_at hl 1 rfl) ?_
    refine lv_i2d hx hb dX5_share_23 ?_
    refine lv_iload_n hx hb dX5_share_24 rfl (lv_at hl 0 rfl) ?_
    refine lv_i2d hx hb dX5_share_25 ?_
    refine lv_ddiv hx hb dX5_share_26 (o_div_n (by omega) (by omega)) ?_
    exact W.dret (v := (FP.ddiv (FP.i2d (nI (m_all (v 1) 5))) (FP.i2d (nI ((m_all (v 1) 5) + (m_all (v 1) 4)))))) hx hb hrt (fun t ht hW => ⟨_, rfl, (by unfold m_share; rw [if_neg (by omega)]), ht⟩) (fun _ h => nomatch h) dX5_share_27
  · skip
    refine lv_dconst1 hx hb dX5_share_18 ?_
    refine lv_goto (tgt := 27) hx hb dX5_share_19 (by decide) ?_
    exact W.dret (v := FP.dconst1) hx hb hrt (fun t ht hW => ⟨_, rfl, (by unfold m_share; rw [if_pos (by omega)]), ht⟩) (fun _ h => nomatch h) dX5_share_27
theorem inX5_wellShare_X5 : ∀ w ∈ wsX50, w ∈ wsX5_wellShare := by decide +kernel
set_option maxHeartbeats 4000000 in
set_option maxRecDepth 100000 in
theorem k_X5_wellShare (l : Launch) (D : va_G) (cI cR cS cL : ClassId) (sz : Nat) (q : Nat → Nat) (v : Nat → Nat → Nat) (b : Nat) (hI : m_I b (v 1)) (hb : b < 2 ^ 28) : Met l yX5_wellShare wsX5_wellShare ({ frames := 4, cells := 0, slots := 0, locals := 88 }) (va_Pc [.ref (q 0)] (o_B D (o_T cI cR cS cL) (wM q cI v) sz)) (va_Qd (fun rz (_ : Unit) => rz = (m_share (v 1))) (fun (_ : Unit) t => va_P D vwCl (wM q cI (va_up v 0 (va_up (v 0) 2 0))) t.heap) (va_A (wM q cI v) sz)) 0 0 (va_A (wM q cI v) sz) := by
  refine Met.ofW (cc := cX5_wellShare) (maxL := 1) (ret := (some .double)) (by decide) rfl ?_
  intro p e s m args below meth cd s₁ B hml hv
  obtain ⟨rfl, hsz, hP, hK, hD0, hN⟩ := hv
  have hx := B.exec
  have hb := B.bytes
  have hrt := B.returns
  have hts := atoms_spec (ws := wsX5_wellShare) B.pre
  have hown : s.vm.findClass RX5 = some m.cls := findClass_of_methodNamed B.named
  have hlocks := B.notSynchronized
  subst hsz
  have hD := hD0.self (sz := s.heap.size)
  generalize hAe : va_A (wM q cI v) s.heap.size = A at hD ⊢
  have hA : ∀ q : Nat, s.heap.size ≤ q → A q := fun q h => by rw [← hAe]; exact Or.inr h
  have hS : va_S A s.heap s.heap [] := va_S.rf
  have hl := lv_entry ([.ref (q 0)]) (n := 1) (Nat.le_of_ble_eq_true rfl)
  rw [lg_entry_eq]
  generalize (lg_sl ([.ref (q 0)]) ++ List.replicate (1 - (lg_sl ([.ref (q 0)])).length) Slot.unset).toArray = ls at hl ⊢
  have hl : lv_has ls 1 [(0, .ref (q 0))] := hl
  refine lv_aload_n hx hb dX5_wellShare_0 rfl (lv_at hl 0 rfl) ?_
  refine o_const (k := 0) hx hb dX5_wellShare_1 (by decide) ?_
  refine va_put (D := D) (ci := 5) (v := .int (nI 0)) (ty := .int) (C := RX5) (T := TX5) (N := 10) hx hb hts inX5_wellShare_X5 tyX5 tyX5_ok nmX5 hown hK hP hD hS 0 rfl rfl 5 (by decide) (hts (.fieldLink RX5 22 "OddNoticeModel" "thrown" "I") (List.mem_of_getElem? (i := 1) (by decide +kernel))) (fun _ h9 => h9) rfl (by decide +kernel) rfl rfl (Nat.le_of_ble_eq_true rfl) dX5_wellShare_2 (fun H locs hP hD hS => ?_)
  have hP : va_P D vwCl (wM q cI (va_up v 0 (va_up (v 0) 2 0))) H := hP
  have hD : va_D A (wM q cI (va_up v 0 (va_up (v 0) 2 0))) := hD
  refine lv_aload_n hx hb dX5_wellShare_5 rfl (lv_at hl 0 rfl) ?_
  refine o_rd (va_runV (As := []) (rest := []) ⟨hx, hb, hml, hown, hts⟩ (k_X5_share l D cI cR cS cL q (va_up v 0 (va_up (v 0) 2 0)) b (by show m_I b (v 1); first | assumption | omega) (by show b < 2 ^ 28; first | assumption | omega)) (cwV 0 hts gX5_wellShare_X5_share rfl rfl rfl (by decide +kernel) ⟨Nat.le_of_ble_eq_true rfl, Nat.le_of_ble_eq_true rfl⟩) (o_v (o_pR hK hN hP) (va_recv hK hP (ci := 5) (q0 := 0) rfl rfl)) rfl rfl hl.1 rfl (lv_room (Nat.le_of_ble_eq_true rfl)) dX5_wellShare_6 ⟨Nat.zero_le _, Nat.zero_le _⟩) (fun r_2 e_1 => ?_)
  have e_1 : r_2 = (m_share (v 1)) := e_1
  subst e_1
  exact W.dret (v := (m_share (v 1))) hx hb hrt (fun t ht hW => ⟨⟨_, (), rfl, rfl, by show va_P D vwCl _ t.heap; rw [ht]; exact hP⟩, hS.F ht⟩) hS.2.2 dX5_wellShare_9
theorem inX5_digest_X5 : ∀ w ∈ wsX50, w ∈ wsX5_digest := by decide +kernel
set_option maxHeartbeats 4000000 in
set_option maxRecDepth 100000 in
theorem k_X5_digest (l : Launch) (D : va_G) (cI cR cS cL : ClassId) (sz : Nat) (q : Nat → Nat) (v : Nat → Nat → Nat) (b : Nat) (hI : m_I b (v 1)) (hb : b < 2 ^ 28) (h2 : v 0 1 ≤ 60) : Met l yX5_digest wsX5_digest ({ frames := 4, cells := 0, slots := 0, locals := 93 }) (va_Pc [.ref (q 0)] (o_B D (o_T cI cR cS cL) (wM q cI v) sz)) (va_Ql (fun rz (_ : Unit) => rz = (m_dig v)) (fun (_ : Unit) t => va_P D vwCl (wM q cI (va_up v 0 (va_up (v 0) 2 0))) t.heap) (va_A (wM q cI v) sz)) 0 0 (va_A (wM q cI v) sz) := by
  refine Met.ofW (cc := cX5_digest) (maxL := 5) (ret := (some .long)) (by decide) rfl ?_
  intro p e s m args below meth cd s₁ B hml hv
  obtain ⟨rfl, hsz, hP, hK, hD0, hN⟩ := hv
  have hx := B.exec
  have hb := B.bytes
  have hrt := B.returns
  have hts := atoms_spec (ws := wsX5_digest) B.pre
  have hown : s.vm.findClass RX5 = some m.cls := findClass_of_methodNamed B.named
  have hlocks := B.notSynchronized
  subst hsz
  have hD := hD0.self (sz := s.heap.size)
  generalize hAe : va_A (wM q cI v) s.heap.size = A at hD ⊢
  have hA : ∀ q : Nat, s.heap.size ≤ q → A q := fun q h => by rw [← hAe]; exact Or.inr h
  have hS : va_S A s.heap s.heap [] := va_S.rf
  have hl := lv_entry ([.ref (q 0)]) (n := 5) (Nat.le_of_ble_eq_true rfl)
  rw [lg_entry_eq]
  generalize (lg_sl ([.ref (q 0)]) ++ List.replicate (5 - (lg_sl ([.ref (q 0)])).length) Slot.unset).toArray = ls at hl ⊢
  have hl : lv_has ls 5 [(0, .ref (q 0))] := hl
  have hIc := hI
  obtain ⟨⟨i1, hw, i3, i4, i5⟩, ⟨i6, i7, i8, i9, i10⟩, i11⟩ := hI
  refine lv_aload_n hx hb dX5_digest_0 rfl (lv_at hl 0 rfl) ?_
  refine o_const (k := 0) hx hb dX5_digest_1 (by decide) ?_
  refine va_put (D := D) (ci := 5) (v := .int (nI 0)) (ty := .int) (C := RX5) (T := TX5) (N := 10) hx hb hts inX5_digest_X5 tyX5 tyX5_ok nmX5 hown hK hP hD hS 0 rfl rfl 5 (by decide) (hts (.fieldLink RX5 22 "OddNoticeModel" "thrown" "I") (List.mem_of_getElem? (i := 1) (by decide +kernel))) (fun _ h9 => h9) rfl (by decide +kernel) rfl rfl (Nat.le_of_ble_eq_true rfl) dX5_digest_2 (fun H locs hP hD hS => ?_)
  have hP : va_P D vwCl (wM q cI (va_up v 0 (va_up (v 0) 2 0))) H := hP
  have hD : va_D A (wM q cI (va_up v 0 (va_up (v 0) 2 0))) := hD
  refine lv_ldc2 (v := (3359)) hx hb hown (hts (.constantLong RX5 151 (3359)) (List.mem_of_getElem? (i := 2) (by decide +kernel))) dX5_digest_5 ?_
  refine lv_lstore_n (lv' := [(1, .long (3359)), (0, .ref (q 0))]) hx hb dX5_digest_8 rfl hl (by decide) rfl (fun ls hl => ?_)
  refine o_const (k := 0) hx hb dX5_digest_9 (by decide) ?_
  refine lv_istore_n (lv' := [(3, .int (nI 0)), (1, .long (3359)), (0, .ref (q 0))]) hx hb dX5_digest_10 rfl hl (by decide) rfl (fun ls hl => ?_)
  have lp_1 : ∀ (fu : Nat) (j1 : Nat), j1 ≤ 9 → 9 - j1 < fu → ∀ (ls : Array Slot) (hl : lv_has ls 5 [(3, .int (nI j1)), (1, .long (o_fold (m_g1 (v 1) (v 0 0)) 3359 j1)), (0, .ref (q 0))]), W p l e (headSpec wsX5_digest ({ frames := 4, cells := 0, slots := 0, locals := 93 })).room s m ([.ref (q 0)] : List Value).toArray below meth cd H locs 0 0 (MQ below (va_Ql (fun rz (_ : Unit) => rz = (m_dig v)) (fun (_ : Unit) t => va_P D vwCl (wM q cI (va_up v 0 (va_up (v 0) 2 0))) t.heap) A) ([.ref (q 0)] : List Value).toArray s 0 0 A) (F0 m 11 ls []) := by
    intro fu
    induction fu with
    | zero => intro j1 hj1 hm; exact absurd hm (Nat.not_lt_zero _)
    | succ fu ih_1 =>
      intro j1 hj1 hm_1 ls hl
      refine lv_iload_n hx hb dX5_digest_11 rfl (lv_at hl 0 rfl) ?_
      refine o_bipush (k := 9) hx hb dX5_digest_12 (by decide) ?_
      refine o_icmp_ge (tgt := 36) hx hb dX5_digest_14 (by decide) (by omega) (Nat.le_of_ble_eq_true rfl) (fun c_1 => ?_) (fun c_1 => ?_)
      · skip
        refine o_const (k := 0) hx hb dX5_digest_36 (by decide) ?_
        refine lv_istore_n (lv' := [(3, .int (nI 0)), (1, .long (o_fold (m_g1 (v 1) (v 0 0)) 3359 j1)), (0, .ref (q 0))]) hx hb dX5_digest_37 rfl hl (by decide) rfl (fun ls hl => ?_)
        have lp_2 : ∀ (fu : Nat) (j2 : Nat), j2 ≤ 5 → 5 - j2 < fu → ∀ (ls : Array Slot) (hl : lv_has ls 5 [(3, .int (nI j2)), (1, .long (o_fold (m_g2 (v 1)) (o_fold (m_g1 (v 1) (v 0 0)) 3359 j1) j2)), (0, .ref (q 0))]), W p l e (headSpec wsX5_digest ({ frames := 4, cells := 0, slots := 0, locals := 93 })).room s m ([.ref (q 0)] : List Value).toArray below meth cd H locs 0 0 (MQ below (va_Ql (fun rz (_ : Unit) => rz = (m_dig v)) (fun (_ : Unit) t => va_P D vwCl (wM q cI (va_up v 0 (va_up (v 0) 2 0))) t.heap) A) ([.ref (q 0)] : List Value).toArray s 0 0 A) (F0 m 38 ls []) := by
          intro fu
          induction fu with
          | zero => intro j2 hj2 hm; exact absurd hm (Nat.not_lt_zero _)
          | succ fu ih_2 =>
            intro j2 hj2 hm_2 ls hl
            refine lv_iload_n hx hb dX5_digest_38 rfl (lv_at hl 0 rfl) ?_
            refine o_const (k := 5) hx hb dX5_digest_39 (by decide) ?_
            refine o_icmp_ge (tgt := 66) hx hb dX5_digest_40 (by decide) (by omega) (Nat.le_of_ble_eq_true rfl) (fun c_2 => ?_) (fun c_2 => ?_)
            · skip
              refine o_const (k := 0) hx hb dX5_digest_66 (by decide) ?_
              refine lv_istore_n (lv' := [(3, .int (nI 0)), (1, .long (o_fold (m_g2 (v 1)) (o_fold (m_g1 (v 1) (v 0 0)) 3359 j1) j2)), (0, .ref (q 0))]) hx hb dX5_digest_67 rfl hl (by decide) rfl (fun ls hl => ?_)
              have lp_3 : ∀ (fu : Nat) (j3 : Nat), j3 ≤ 9 → 9 - j3 < fu → ∀ (ls : Array Slot) (hl : lv_has ls 5 [(3, .int (nI j3)), (1, .long (o_fold (m_g3 (v 1)) (o_fold (m_g2 (v 1)) (o_fold (m_g1 (v 1) (v 0 0)) 3359 j1) j2) j3)), (0, .ref (q 0))]), W p l e (headSpec wsX5_digest ({ frames := 4, cells := 0, slots := 0, locals := 93 })).room s m ([.ref (q 0)] : List Value).toArray below meth cd H locs 0 0 (MQ below (va_Ql (fun rz (_ : Unit) => rz = (m_dig v)) (fun (_ : Unit) t => va_P D vwCl (wM q cI (va_up v 0 (va_up (v 0) 2 0))) t.heap) A) ([.ref (q 0)] : List Value).toArray s 0 0 A) (F0 m 68 ls []) := by
                intro fu
                induction fu with
                | zero => intro j3 hj3 hm; exact absurd hm (Nat.not_lt_zero _)
                | succ fu ih_3 =>
                  intro j3 hj3 hm_3 ls hl
                  refine lv_iload_n hx hb dX5_digest_68 rfl (lv_at hl 0 rfl) ?_
                  refine o_bipush (k := 9) hx hb dX5_digest_69 (by decide) ?_
                  refine o_icmp_ge (tgt := 98) hx hb dX5_digest_71 (by decide) (by omega) (Nat.le_of_ble_eq_true rfl) (fun c_3 => ?_) (fun c_3 => ?_)
                  · skip
                    refine o_const (k := 0) hx hb dX5_digest_98 (by decide) ?_
                    refine lv_istore_n (lv' := [(3, .int (nI 0)), (1, .long (o_fold (m_g3 (v 1)) (o_fold (m_g2 (v 1)) (o_fold (m_g1 (v 1) (v 0 0)) 3359 j1) j2) j3)), (0, .ref (q 0))]) hx hb dX5_digest_99 rfl hl (by decide) rfl (fun ls hl => ?_)
                    have lp_4 : ∀ (fu : Nat) (j4 : Nat), j4 ≤ 4 → 4 - j4 < fu → ∀ (ls : Array Slot) (hl : lv_has ls 5 [(3, .int (nI j4)), (1, .long (o_folh (m_hr (v 1)) (o_fold (m_g3 (v 1)) (o_fold (m_g2 (v 1)) (o_fold (m_g1 (v 1) (v 0 0)) 3359 j1) j2) j3) j4)), (0, .ref (q 0))]), W p l e (headSpec wsX5_digest ({ frames := 4, cells := 0, slots := 0, locals := 93 })).room s m ([.ref (q 0)] : List Value).toArray below meth cd H locs 0 0 (MQ below (va_Ql (fun rz (_ : Unit) => rz = (m_dig v)) (fun (_ : Unit) t => va_P D vwCl (wM q cI (va_up v 0 (va_up (v 0) 2 0))) t.heap) A) ([.ref (q 0)] : List Value).toArray s 0 0 A) (F0 m 100 ls []) := by
                      intro fu
                      induction fu with
                      | zero => intro j4 hj4 hm; exact absurd hm (Nat.not_lt_zero _)
                      | succ fu ih_4 =>
                        intro j4 hj4 hm_4 ls hl
                        refine lv_iload_n hx hb dX5_digest_100 rfl (lv_at hl 0 rfl) ?_
                        refine o_const (k := 4) hx hb dX5_digest_101 (by decide) ?_
                        refine o_icmp_ge (tgt := 196) hx hb dX5_digest_102 (by decide) (by omega) (Nat.le_of_ble_eq_true rfl) (fun c_4 => ?_) (fun c_4 => ?_)
                        · skip
                          refine o_bipush (k := 15) hx hb dX5_digest_196 (by decide) ?_
                          refine lv_istore_n (lv' := [(3, .int (nI 15)), (1, .long (o_folh (m_hr (v 1)) (o_fold (m_g3 (v 1)) (o_fold (m_g2 (v 1)) (o_fold (m_g1 (v 1) (v 0 0)) 3359 j1) j2) j3) j4)), (0, .ref (q 0))]) hx hb dX5_digest_198 rfl hl (by decide) rfl (fun ls hl => ?_)
                          have lp_5 : ∀ (fu : Nat) (j7 : Nat), j7 ≤ 16 → 16 - j7 < fu → ∀ (ls : Array Slot) (hl : lv_has ls 5 [(3, .int (nI (m_dn j7))), (1, .long (o_folh (m_hk (v 1)) (o_folh (m_hr (v 1)) (o_fold (m_g3 (v 1)) (o_fold (m_g2 (v 1)) (o_fold (m_g1 (v 1) (v 0 0)) 3359 j1) j2) j3) j4) j7)), (0, .ref (q 0))]), W p l e (headSpec wsX5_digest ({ frames := 4, cells := 0, slots := 0, locals := 93 })).room s m ([.ref (q 0)] : List Value).toArray below meth cd H locs 0 0 (MQ below (va_Ql (fun rz (_ : Unit) => rz = (m_dig v)) (fun (_ : Unit) t => va_P D vwCl (wM q cI (va_up v 0 (va_up (v 0) 2 0))) t.heap) A) ([.ref (q 0)] : List Value).toArray s 0 0 A) (F0 m 199 ls []) := by
                            intro fu
                            induction fu with
                            | zero => intro j7 hj7 hm; exact absurd hm (Nat.not_lt_zero _)
                            | succ fu ih_5 =>
                              intro j7 hj7 hm_5 ls hl
                              have hdn := m_dn_or j7
                              have hng := m_ng_or (v 1 0 / 2) (m_dn j7)
                              refine lv_iload_n hx hb dX5_digest_199 rfl (lv_at hl 0 rfl) ?_
                              refine o_if_lt_s (tgt := 275) hx hb dX5_digest_200 (by decide) (by omega) (fun c_5 => ?_) (fun c_5 => ?_)
                              · skip
                                refine lv_ldc2 (v := (31)) hx hb hown (hts (.constantLong RX5 153 (31)) (List.mem_of_getElem? (i := 3) (by decide +kernel))) dX5_digest_275 ?_
                                refine lv_lload_n hx hb dX5_digest_278 rfl (lv_at hl 1 rfl) ?_
                                refine lv_lmul hx hb dX5_digest_279 ?_
                                refine lv_aload_n hx hb dX5_digest_280 rfl (lv_at hl 2 rfl) ?_
                                refine o_ri (va_runV (As := []) (rest := [.long ((31) * (o_folh (m_hk (v 1)) (o_folh (m_hr (v 1)) (o_fold (m_g3 (v 1)) (o_fold (m_g2 (v 1)) (o_fold (m_g1 (v 1) (v 0 0)) 3359 j1) j2) j3) j4) j7))]) ⟨hx, hb, hml, hown, hts⟩ (k_X5_clerksIn l D cI cR cS cL q (va_up v 0 (va_up (v 0) 2 0)) b (by show m_I b (v 1); first | assumption | omega) (by show b < 2 ^ 28; first | assumption | omega)) (cwV 0 hts gX5_digest_X5_clerksIn rfl rfl rfl (by decide +kernel) ⟨Nat.le_of_ble_eq_true rfl, Nat.le_of_ble_eq_true rfl⟩) (o_v (o_pR hK hN hP) (va_recv hK hP (ci := 5) (q0 := 0) rfl rfl)) rfl rfl hl.1 rfl (lv_room (Nat.le_of_ble_eq_true rfl)) dX5_digest_281 ⟨Nat.zero_le _, Nat.zero_le _⟩) (fun r_7 e_6 => ?_)
                                have e_6 : r_7 = nI (if v 1 0 % 2 = 1 then 1 + v 1 4 else 0) := e_6
                                subst e_6
                                refine lv_i2l (v := (nI (if v 1 0 % 2 = 1 then 1 + v 1 4 else 0)).toInt64) hx hb dX5_digest_284 rfl ?_
                                refine lv_ladd hx hb dX5_digest_285 ?_
                                refine lv_lstore_n (lv' := [(1, .long (((31) * (o_folh (m_hk (v 1)) (o_folh (m_hr (v 1)) (o_fold (m_g3 (v 1)) (o_fold (m_g2 (v 1)) (o_fold (m_g1 (v 1) (v 0 0)) 3359 j1) j2) j3) j4) j7)) + (nI (if v 1 0 % 2 = 1 then 1 + v 1 4 else 0)).toInt64)), (3, .int (nI (m_dn j7))), (0, .ref (q 0))]) hx hb dX5_digest_286 rfl hl (by decide) rfl (fun ls hl => ?_)
                                refine lv_ldc2 (v := (31)) hx hb hown (hts (.constantLong RX5 153 (31)) (List.mem_of_getElem? (i := 3) (by decide +kernel))) dX5_digest_287 ?_
                                refine lv_ldc2 (v := (31)) hx hb hown (hts (.constantLong RX5 153 (31)) (List.mem_of_getElem? (i := 3) (by decide +kernel))) dX5_digest_290 ?_
                                refine lv_lload_n hx hb dX5_digest_293 rfl (lv_at hl 0 rfl) ?_
                                refine lv_lmul hx hb dX5_digest_294 ?_
                                refine lv_aload_n hx hb dX5_digest_295 rfl (lv_at hl 2 rfl) ?_
                                refine o_rd (va_runV (As := []) (rest := [.long ((31) * (((31) * (o_folh (m_hk (v 1)) (o_folh (m_hr (v 1)) (o_fold (m_g3 (v 1)) (o_fold (m_g2 (v 1)) (o_fold (m_g1 (v 1) (v 0 0)) 3359 j1) j2) j3) j4) j7)) + (nI (if v 1 0 % 2 = 1 then 1 + v 1 4 else 0)).toInt64)), .long (31)]) ⟨hx, hb, hml, hown, hts⟩ (k_X5_share l D cI cR cS cL q (va_up v 0 (va_up (v 0) 2 0)) b (by show m_I b (v 1); first | assumption | omega) (by show b < 2 ^ 28; first | assumption | omega)) (cwV 0 hts gX5_digest_X5_share rfl rfl rfl (by decide +kernel) ⟨Nat.le_of_ble_eq_true rfl, Nat.le_of_ble_eq_true rfl⟩) (o_v (o_pR hK hN hP) (va_recv hK hP (ci := 5) (q0 := 0) rfl rfl)) rfl rfl hl.1 rfl (lv_room (Nat.le_of_ble_eq_true rfl)) dX5_digest_296 ⟨Nat.zero_le _, Nat.zero_le _⟩) (fun r_9 e_8 => ?_)
                                have e_8 : r_9 = (m_share (v 1)) := e_8
                                subst e_8
                                refine o_rl (va_runS (As := [.double (m_share (v 1))]) (rest := [.long ((31) * (((31) * (o_folh (m_hk (v 1)) (o_folh (m_hr (v 1)) (o_fold (m_g3 (v 1)) (o_fold (m_g2 (v 1)) (o_fold (m_g1 (v 1) (v 0 0)) 3359 j1) j2) j3) j4) j7)) + (nI (if v 1 0 % 2 = 1 then 1 + v 1 4 else 0)).toInt64)), .long (31)]) ⟨hx, hb, hml, hown, hts⟩ (k_Jxe99ae_doubleToLongBits_ccdee l D cI cR cS cL (m_share (v 1)) (m_share_n hIc (by assumption))) (va_cwS 1 hts gX5_digest_Jxe99ae_doubleToLongBits_ccdee rfl rfl rfl (by decide +kernel) ⟨Nat.le_of_ble_eq_true rfl, Nat.le_of_ble_eq_true rfl⟩) (o_pR hK hN (hP.sub (ws' := []) [] rfl)) rfl rfl hl.1 rfl (lv_room (Nat.le_of_ble_eq_true rfl)) dX5_digest_299 ⟨Nat.zero_le _, Nat.zero_le _⟩) (fun r_11 e_10 => ?_)
                                have e_10 : r_11 = (m_share (v 1)).toInt64 := e_10
                                subst e_10
                                refine lv_ladd hx hb dX5_digest_302 ?_
                                refine lv_lmul hx hb dX5_digest_303 ?_
                                refine lv_aload_n hx hb dX5_digest_304 rfl (lv_at hl 2 rfl) ?_
                                refine va_get (D := D) (ci := 5) (v := .int (nI (v 0 1))) (C := RX5) (T := TX5) (N := 10) hx hb hts inX5_digest_X5 hown hK hP 0 rfl rfl 4 (by decide) (hts (.fieldLink RX5 86 "OddNoticeModel" "typed" "I") (List.mem_of_getElem? (i := 5) (by decide +kernel))) (fun _ h9 => h9) rfl dX5_digest_305 ?_
                                refine lv_i2l (v := (nI (v 0 1)).toInt64) hx hb dX5_digest_308 rfl ?_
                                refine lv_ladd hx hb dX5_digest_309 ?_
                                refine lv_lstore_n (lv' := [(1, .long (((31) * (((31) * (((31) * (o_folh (m_hk (v 1)) (o_folh (m_hr (v 1)) (o_fold (m_g3 (v 1)) (o_fold (m_g2 (v 1)) (o_fold (m_g1 (v 1) (v 0 0)) 3359 j1) j2) j3) j4) j7)) + (nI (if v 1 0 % 2 = 1 then 1 + v 1 4 else 0)).toInt64)) + (m_share (v 1)).toInt64)) + (nI (v 0 1)).toInt64)), (3, .int (nI (m_dn j7))), (0, .ref (q 0))]) hx hb dX5_digest_310 rfl hl (by decide) rfl (fun ls hl => ?_)
                                refine o_const (k := 0) hx hb dX5_digest_311 (by decide) ?_
                                refine lv_istore_n (lv' := [(3, .int (nI 0)), (1, .long (((31) * (((31) * (((31) * (o_folh (m_hk (v 1)) (o_folh (m_hr (v 1)) (o_fold (m_g3 (v 1)) (o_fold (m_g2 (v 1)) (o_fold (m_g1 (v 1) (v 0 0)) 3359 j1) j2) j3) j4) j7)) + (nI (if v 1 0 % 2 = 1 then 1 + v 1 4 else 0)).toInt64)) + (m_share (v 1)).toInt64)) + (nI (v 0 1)).toInt64)), (0, .ref (q 0))]) hx hb dX5_digest_312 rfl hl (by decide) rfl (fun ls hl => ?_)
                                have lp_6 : ∀ (fu : Nat) (j8 : Nat), j8 ≤ v 0 1 → v 0 1 - j8 < fu → ∀ (ls : Array Slot) (hl : lv_has ls 5 [(3, .int (nI j8)), (1, .long (o_fold (v 3) (31 * (31 * (31 * (o_folh (m_hk (v 1)) (o_folh (m_hr (v 1)) (o_fold (m_g3 (v 1)) (o_fold (m_g2 (v 1)) (o_fold (m_g1 (v 1) (v 0 0)) 3359 j1) j2) j3) j4) j7) + (nI (if v 1 0 % 2 = 1 then 1 + v 1 4 else 0)).toInt64) + (m_share (v 1)).toInt64) + (nI (v 0 1)).toInt64) j8)), (0, .ref (q 0))]), W p l e (headSpec wsX5_digest ({ frames := 4, cells := 0, slots := 0, locals := 93 })).room s m ([.ref (q 0)] : List Value).toArray below meth cd H locs 0 0 (MQ below (va_Ql (fun rz (_ : Unit) => rz = (m_dig v)) (fun (_ : Unit) t => va_P D vwCl (wM q cI (va_up v 0 (va_up (v 0) 2 0))) t.heap) A) ([.ref (q 0)] : List Value).toArray s 0 0 A) (F0 m 313 ls []) := by
                                  intro fu
                                  induction fu with
                                  | zero => intro j8 hj8 hm; exact absurd hm (Nat.not_lt_zero _)
                                  | succ fu ih_6 =>
                                    intro j8 hj8 hm_6 ls hl
                                    refine lv_iload_n hx hb dX5_digest_313 rfl (lv_at hl 0 rfl) ?_
                                    refine lv_aload_n hx hb dX5_digest_314 rfl (lv_at hl 2 rfl) ?_
                                    refine va_get (D := D) (ci := 5) (v := .int (nI (v 0 1))) (C := RX5) (T := TX5) (N := 10) hx hb hts inX5_digest_X5 hown hK hP 0 rfl rfl 4 (by decide) (hts (.fieldLink RX5 86 "OddNoticeModel" "typed" "I") (List.mem_of_getElem? (i := 5) (by decide +kernel))) (fun _ h9 => h9) rfl dX5_digest_315 ?_
                                    refine o_icmp_ge (tgt := 341) hx hb dX5_digest_318 (by decide) (by omega) (by omega) (fun c_12 => ?_) (fun c_12 => ?_)
                                    · skip
                                      refine lv_lload_n hx hb dX5_digest_341 rfl (lv_at hl 1 rfl) ?_
                                      exact W.lret (v := (o_fold (v 3) (31 * (31 * (31 * (o_folh (m_hk (v 1)) (o_folh (m_hr (v 1)) (o_fold (m_g3 (v 1)) (o_fold (m_g2 (v 1)) (o_fold (m_g1 (v 1) (v 0 0)) 3359 j1) j2) j3) j4) j7) + (nI (if v 1 0 % 2 = 1 then 1 + v 1 4 else 0)).toInt64) + (m_share (v 1)).toInt64) + (nI (v 0 1)).toInt64) j8)) hx hb hrt (fun t ht hW => ⟨⟨_, (), rfl, (by unfold m_dig; rw [show j1 = 9 by omega, show j2 = 5 by omega, show j3 = 9 by omega, show j4 = 4 by omega, show j7 = 16 by omega, show j8 = v 0 1 by omega]), by show va_P D vwCl _ t.heap; rw [ht]; exact hP⟩, hS.F ht⟩) hS.2.2 dX5_digest_342
                                    · skip
                                      refine lv_ldc2 (v := (31)) hx hb hown (hts (.constantLong RX5 153 (31)) (List.mem_of_getElem? (i := 3) (by decide +kernel))) dX5_digest_321 ?_
                                      refine lv_lload_n hx hb dX5_digest_324 rfl (lv_at hl 1 rfl) ?_
                                      refine lv_lmul hx hb dX5_digest_325 ?_
                                      refine lv_aload_n hx hb dX5_digest_326 rfl (lv_at hl 2 rfl) ?_
                                      refine va_get (D := D) (ci := 5) (v := .ref (q 3)) (C := RX5) (T := TX5) (N := 10) hx hb hts inX5_digest_X5 hown hK hP 0 rfl rfl 3 (by decide) (hts (.fieldLink RX5 16 "OddNoticeModel" "text" "[I") (List.mem_of_getElem? (i := 6) (by decide +kernel))) (fun _ h9 => h9) rfl dX5_digest_327 ?_
                                      refine lv_iload_n hx hb dX5_digest_330 rfl (lv_at hl 0 rfl) ?_
                                      refine o_iald (v := nI (v 3 j8)) hx hb hK hP 3 0 rfl rfl (by omega) (Nat.le_of_ble_eq_true rfl) rfl dX5_digest_331 ?_
                                      refine lv_i2l (v := (nI (v 3 j8)).toInt64) hx hb dX5_digest_332 rfl ?_
                                      refine lv_ladd hx hb dX5_digest_333 ?_
                                      refine lv_lstore_n (lv' := [(1, .long (((31) * (o_fold (v 3) (31 * (31 * (31 * (o_folh (m_hk (v 1)) (o_folh (m_hr (v 1)) (o_fold (m_g3 (v 1)) (o_fold (m_g2 (v 1)) (o_fold (m_g1 (v 1) (v 0 0)) 3359 j1) j2) j3) j4) j7) + (nI (if v 1 0 % 2 = 1 then 1 + v 1 4 else 0)).toInt64) + (m_share (v 1)).toInt64) + (nI (v 0 1)).toInt64) j8)) + (nI (v 3 j8)).toInt64)), (3, .int (nI j8)), (0, .ref (q 0))]) hx hb dX5_digest_334 rfl hl (by decide) rfl (fun ls hl => ?_)
                                      refine lv_iinc (v := nI (j8 + 1)) (lv' := [(3, .int (nI (j8 + 1))), (1, .long (((31) * (o_fold (v 3) (31 * (31 * (31 * (o_folh (m_hk (v 1)) (o_folh (m_hr (v 1)) (o_fold (m_g3 (v 1)) (o_fold (m_g2 (v 1)) (o_fold (m_g1 (v 1) (v 0 0)) 3359 j1) j2) j3) j4) j7) + (nI (if v 1 0 % 2 = 1 then 1 + v 1 4 else 0)).toInt64) + (m_share (v 1)).toInt64) + (nI (v 0 1)).toInt64) j8)) + (nI (v 3 j8)).toInt64)), (0, .ref (q 0))]) hx hb dX5_digest_335 hl (k := 1) rfl (o_inc1 _) (by decide) rfl (fun ls hl => ?_)
                                      refine lv_goto (tgt := 313) hx hb dX5_digest_338 (by decide) ?_
                                      have q_13 : ((((31) * (o_fold (v 3) (31 * (31 * (31 * (o_folh (m_hk (v 1)) (o_folh (m_hr (v 1)) (o_fold (m_g3 (v 1)) (o_fold (m_g2 (v 1)) (o_fold (m_g1 (v 1) (v 0 0)) 3359 j1) j2) j3) j4) j7) + (nI (if v 1 0 % 2 = 1 then 1 + v 1 4 else 0)).toInt64) + (m_share (v 1)).toInt64) + (nI (v 0 1)).toInt64) j8)) + (nI (v 3 j8)).toInt64) : Int64) = (o_fold (v 3) (31 * (31 * (31 * (o_folh (m_hk (v 1)) (o_folh (m_hr (v 1)) (o_fold (m_g3 (v 1)) (o_fold (m_g2 (v 1)) (o_fold (m_g1 (v 1) (v 0 0)) 3359 j1) j2) j3) j4) j7) + (nI (if v 1 0 % 2 = 1 then 1 + v 1 4 else 0)).toInt64) + (m_share (v 1)).toInt64) + (nI (v 0 1)).toInt64) (j8 + 1)) := by rfl
                                      have hl := o_lvset hl 1 rfl (congrArg Value.long q_13)
                                      exact ih_6  (j8 + 1) (by omega) (by omega) ls (lv_sub hl [0, 1, 2] rfl)
                                have q_14 : ((((31) * (((31) * (((31) * (o_folh (m_hk (v 1)) (o_folh (m_hr (v 1)) (o_fold (m_g3 (v 1)) (o_fold (m_g2 (v 1)) (o_fold (m_g1 (v 1) (v 0 0)) 3359 j1) j2) j3) j4) j7)) + (nI (if v 1 0 % 2 = 1 then 1 + v 1 4 else 0)).toInt64)) + (m_share (v 1)).toInt64)) + (nI (v 0 1)).toInt64) : Int64) = (o_fold (v 3) (31 * (31 * (31 * (o_folh (m_hk (v 1)) (o_folh (m_hr (v 1)) (o_fold (m_g3 (v 1)) (o_fold (m_g2 (v 1)) (o_fold (m_g1 (v 1) (v 0 0)) 3359 j1) j2) j3) j4) j7) + (nI (if v 1 0 % 2 = 1 then 1 + v 1 4 else 0)).toInt64) + (m_share (v 1)).toInt64) + (nI (v 0 1)).toInt64) 0) := by rfl
                                have hl := o_lvset hl 1 rfl (congrArg Value.long q_14)
                                exact lp_6 _ 0 (Nat.zero_le _) (Nat.lt_succ_self _) ls (lv_sub hl [0, 1, 2] rfl)
                              · skip
                                refine o_const (k := 0) hx hb dX5_digest_203 (by decide) ?_
                                refine lv_istore (lv' := [(4, .int (nI 0)), (3, .int (nI (m_dn j7))), (1, .long (o_folh (m_hk (v 1)) (o_folh (m_hr (v 1)) (o_fold (m_g3 (v 1)) (o_fold (m_g2 (v 1)) (o_fold (m_g1 (v 1) (v 0 0)) 3359 j1) j2) j3) j4) j7)), (0, .ref (q 0))]) hx hb dX5_digest_204 hl (by decide) rfl (fun ls hl => ?_)
                                refine lv_iload hx hb dX5_digest_206 (lv_at hl 0 rfl) ?_
                                refine o_const (k := 5) hx hb dX5_digest_208 (by decide) ?_
                                refine o_icmp_ge (tgt := 269) hx hb dX5_digest_209 (by decide) (Nat.le_of_ble_eq_true rfl) (Nat.le_of_ble_eq_true rfl) (fun c0 => absurd c0 (by decide)) (fun _ => ?_)
                                refine lv_aload_n hx hb dX5_digest_212 rfl (lv_at hl 3 rfl) ?_
                                refine lv_aload_n hx hb dX5_digest_213 rfl (lv_at hl 3 rfl) ?_
                                refine va_get (D := D) (ci := 5) (v := .ref (q 1)) (C := RX5) (T := TX5) (N := 10) hx hb hts inX5_digest_X5 hown hK hP 0 rfl rfl 0 (by decide) (hts (.fieldLink RX5 7 "OddNoticeModel" "now" "[I") (List.mem_of_getElem? (i := 4) (by decide +kernel))) (fun _ h9 => h9) rfl dX5_digest_214 ?_
                                refine o_const (k := 0) hx hb dX5_digest_217 (by decide) ?_
                                refine o_iald (v := nI (v 1 0)) hx hb hK hP 1 0 rfl rfl (Nat.le_of_ble_eq_true rfl) (Nat.le_of_ble_eq_true rfl) rfl dX5_digest_218 ?_
                                refine o_const (k := 2) hx hb dX5_digest_219 (by decide) ?_
                                refine o_idiv (a := (v 1 0)) (b := 2) (k := ((v 1 0) / 2)) hx hb dX5_digest_220 (by omega) (by decide) (Nat.le_of_ble_eq_true rfl) rfl ?_
                                refine lv_iload_n hx hb dX5_digest_221 rfl (lv_at hl 1 rfl) ?_
                                refine lv_isub hx hb dX5_digest_222 ?_
                                refine o_ti (m_ng_eq (by omega) (by omega)) ?_
                                refine o_ri (va_runV (As := [.int (nI (m_ng (v 1 0 / 2) (m_dn j7)))]) (rest := []) ⟨hx, hb, hml, hown, hts⟩ (k_X5_isKept l D cI cR cS cL q (va_up v 0 (va_up (v 0) 2 0)) (m_ng (v 1 0 / 2) (m_dn j7)) (by show v 1 0 < 2 ^ 30; first | assumption | omega) (by show (m_ng (v 1 0 / 2) (m_dn j7)) < 2 ^ 32; first | assumption | omega)) (cwV 1 hts gX5_digest_X5_isKept rfl rfl rfl (by decide +kernel) ⟨Nat.le_of_ble_eq_true rfl, Nat.le_of_ble_eq_true rfl⟩) (o_v (o_pR hK hN hP) (va_recv hK hP (ci := 5) (q0 := 0) rfl rfl)) rfl rfl hl.1 rfl (lv_room (Nat.le_of_ble_eq_true rfl)) dX5_digest_223 ⟨Nat.zero_le _, Nat.zero_le _⟩) (fun r_16 e_15 => ?_)
                                have e_15 : r_16 = nI (bn ((m_ng (v 1 0 / 2) (m_dn j7)) ≤ v 1 0 / 2 ∧ v 1 0 / 2 - (m_ng (v 1 0 / 2) (m_dn j7)) < 16)) := e_15
                                subst e_15
                                refine o_ifz (tgt := 269) hx hb dX5_digest_226 (by decide) (fun c_17 => ?_) (fun c_17 => ?_)
                                · skip
                                  refine lv_iinc (v := nI (m_dn (j7 + 1))) (lv' := [(3, .int (nI (m_dn (j7 + 1)))), (4, .int (nI 0)), (1, .long (o_folh (m_hk (v 1)) (o_folh (m_hr (v 1)) (o_fold (m_g3 (v 1)) (o_fold (m_g2 (v 1)) (o_fold (m_g1 (v 1) (v 0 0)) 3359 j1) j2) j3) j4) j7)), (0, .ref (q 0))]) hx hb dX5_digest_269 hl (k := 1) rfl (m_dn_s (by omega)) (by decide) rfl (fun ls hl => ?_)
                                  refine lv_goto (tgt := 199) hx hb dX5_digest_272 (by decide) ?_
                                  have q_18 : ((o_folh (m_hk (v 1)) (o_folh (m_hr (v 1)) (o_fold (m_g3 (v 1)) (o_fold (m_g2 (v 1)) (o_fold (m_g1 (v 1) (v 0 0)) 3359 j1) j2) j3) j4) j7) : Int64) = (o_folh (m_hk (v 1)) (o_folh (m_hr (v 1)) (o_fold (m_g3 (v 1)) (o_fold (m_g2 (v 1)) (o_fold (m_g1 (v 1) (v 0 0)) 3359 j1) j2) j3) j4) (j7 + 1)) := by exact Eq.symm (show o_folh (m_hk (v 1)) (o_folh (m_hr (v 1)) (o_fold (m_g3 (v 1)) (o_fold (m_g2 (v 1)) (o_fold (m_g1 (v 1) (v 0 0)) 3359 j1) j2) j3) j4) (j7 + 1) = _ from if_neg c_17)
                                  have hl := o_lvset hl 2 rfl (congrArg Value.long q_18)
                                  exact ih_5  (j7 + 1) (by omega) (by omega) ls (lv_sub hl [0, 2, 3] rfl)
                                · skip
                                  refine lv_ldc2 (v := (31)) hx hb hown (hts (.constantLong RX5 153 (31)) (List.mem_of_getElem? (i := 3) (by decide +kernel))) dX5_digest_229 ?_
                                  refine lv_lload_n hx hb dX5_digest_232 rfl (lv_at hl 2 rfl) ?_
                                  refine lv_lmul hx hb dX5_digest_233 ?_
                                  refine lv_aload_n hx hb dX5_digest_234 rfl (lv_at hl 3 rfl) ?_
                                  refine va_get (D := D) (ci := 5) (v := .ref (q 1)) (C := RX5) (T := TX5) (N := 10) hx hb hts inX5_digest_X5 hown hK hP 0 rfl rfl 0 (by decide) (hts (.fieldLink RX5 7 "OddNoticeModel" "now" "[I") (List.mem_of_getElem? (i := 4) (by decide +kernel))) (fun _ h9 => h9) rfl dX5_digest_235 ?_
                                  refine o_bipush (k := 83) hx hb dX5_digest_238 (by decide) ?_
                                  refine o_const (k := 5) hx hb dX5_digest_240 (by decide) ?_
                                  refine lv_aload_n hx hb dX5_digest_241 rfl (lv_at hl 3 rfl) ?_
                                  refine va_get (D := D) (ci := 5) (v := .ref (q 1)) (C := RX5) (T := TX5) (N := 10) hx hb hts inX5_digest_X5 hown hK hP 0 rfl rfl 0 (by decide) (hts (.fieldLink RX5 7 "OddNoticeModel" "now" "[I") (List.mem_of_getElem? (i := 4) (by decide +kernel))) (fun _ h9 => h9) rfl dX5_digest_242 ?_
                                  refine o_const (k := 0) hx hb dX5_digest_245 (by decide) ?_
                                  refine o_iald (v := nI (v 1 0)) hx hb hK hP 1 0 rfl rfl (Nat.le_of_ble_eq_true rfl) (Nat.le_of_ble_eq_true rfl) rfl dX5_digest_246 ?_
                                  refine o_const (k := 2) hx hb dX5_digest_247 (by decide) ?_
                                  refine o_idiv (a := (v 1 0)) (b := 2) (k := ((v 1 0) / 2)) hx hb dX5_digest_248 (by omega) (by decide) (Nat.le_of_ble_eq_true rfl) rfl ?_
                                  refine lv_iload_n hx hb dX5_digest_249 rfl (lv_at hl 1 rfl) ?_
                                  refine lv_isub hx hb dX5_digest_250 ?_
                                  refine o_ti (m_ng_eq (by omega) (by omega)) ?_
                                  refine o_bipush (k := 16) hx hb dX5_digest_251 (by decide) ?_
                                  refine o_irem (a := (m_ng (v 1 0 / 2) (m_dn j7))) (b := 16) (k := ((m_ng (v 1 0 / 2) (m_dn j7)) % 16)) hx hb dX5_digest_253 (by omega) (by decide) (Nat.le_of_ble_eq_true rfl) rfl ?_
                                  refine o_imul (a := 5) (b := ((m_ng (v 1 0 / 2) (m_dn j7)) % 16)) (k := (5 * ((m_ng (v 1 0 / 2) (m_dn j7)) % 16))) hx hb dX5_digest_254 rfl ?_
                                  refine o_iadd (a := 83) (b := (5 * ((m_ng (v 1 0 / 2) (m_dn j7)) % 16))) (k := (83 + 5 * ((m_ng (v 1 0 / 2) (m_dn j7)) % 16))) hx hb dX5_digest_255 rfl ?_
                                  refine lv_iload hx hb dX5_digest_256 (lv_at hl 0 rfl) ?_
                                  refine o_iadd (a := (83 + 5 * ((m_ng (v 1 0 / 2) (m_dn j7)) % 16))) (b := 0) (k := (83 + 5 * ((m_ng (v 1 0 / 2) (m_dn j7)) % 16))) hx hb dX5_digest_258 rfl ?_
                                  refine o_iald (v := nI (v 1 (83 + 5 * ((m_ng (v 1 0 / 2) (m_dn j7)) % 16)))) hx hb hK hP 1 0 rfl rfl (by omega) (Nat.le_of_ble_eq_true rfl) rfl dX5_digest_259 ?_
                                  refine lv_i2l (v := (nI (v 1 (83 + 5 * ((m_ng (v 1 0 / 2) (m_dn j7)) % 16)))).toInt64) hx hb dX5_digest_260 rfl ?_
                                  refine lv_ladd hx hb dX5_digest_261 ?_
                                  refine lv_lstore_n (lv' := [(1, .long (((31) * (o_folh (m_hk (v 1)) (o_folh (m_hr (v 1)) (o_fold (m_g3 (v 1)) (o_fold (m_g2 (v 1)) (o_fold (m_g1 (v 1) (v 0 0)) 3359 j1) j2) j3) j4) j7)) + (nI (v 1 (83 + 5 * ((m_ng (v 1 0 / 2) (m_dn j7)) % 16)))).toInt64)), (4, .int (nI 0)), (3, .int (nI (m_dn j7))), (0, .ref (q 0))]) hx hb dX5_digest_262 rfl hl (by decide) rfl (fun ls hl => ?_)
                                  refine lv_iinc (v := nI 1) (lv' := [(4, .int (nI 1)), (1, .long (((31) * (o_folh (m_hk (v 1)) (o_folh (m_hr (v 1)) (o_fold (m_g3 (v 1)) (o_fold (m_g2 (v 1)) (o_fold (m_g1 (v 1) (v 0 0)) 3359 j1) j2) j3) j4) j7)) + (nI (v 1 (83 + 5 * ((m_ng (v 1 0 / 2) (m_dn j7)) % 16)))).toInt64)), (3, .int (nI (m_dn j7))), (0, .ref (q 0))]) hx hb dX5_digest_263 hl (k := 1) rfl (by decide) (by decide) rfl (fun ls hl => ?_)
                                  refine lv_goto (tgt := 206) hx hb dX5_digest_266 (by decide) ?_
                                  refine lv_iload hx hb dX5_digest_206 (lv_at hl 0 rfl) ?_
                                  refine o_const (k := 5) hx hb dX5_digest_208 (by decide) ?_
                                  refine o_icmp_ge (tgt := 269) hx hb dX5_digest_209 (by decide) (Nat.le_of_ble_eq_true rfl) (Nat.le_of_ble_eq_true rfl) (fun c0 => absurd c0 (by decide)) (fun _ => ?_)
                                  refine lv_aload_n hx hb dX5_digest_212 rfl (lv_at hl 3 rfl) ?_
                                  refine lv_aload_n hx hb dX5_digest_213 rfl (lv_at hl 3 rfl) ?_
                                  refine va_get (D := D) (ci := 5) (v := .ref (q 1)) (C := RX5) (T := TX5) (N := 10) hx hb hts inX5_digest_X5 hown hK hP 0 rfl rfl 0 (by decide) (hts (.fieldLink RX5 7 "OddNoticeModel" "now" "[I") (List.mem_of_getElem? (i := 4) (by decide +kernel))) (fun _ h9 => h9) rfl dX5_digest_214 ?_
                                  refine o_const (k := 0) hx hb dX5_digest_217 (by decide) ?_
                                  refine o_iald (v := nI (v 1 0)) hx hb hK hP 1 0 rfl rfl (Nat.le_of_ble_eq_true rfl) (Nat.le_of_ble_eq_true rfl) rfl dX5_digest_218 ?_
                                  refine o_const (k := 2) hx hb dX5_digest_219 (by decide) ?_
                                  refine o_idiv (a := (v 1 0)) (b := 2) (k := ((v 1 0) / 2)) hx hb dX5_digest_220 (by omega) (by decide) (Nat.le_of_ble_eq_true rfl) rfl ?_
                                  refine lv_iload_n hx hb dX5_digest_221 rfl (lv_at hl 2 rfl) ?_
                                  refine lv_isub hx hb dX5_digest_222 ?_
                                  refine o_ti (m_ng_eq (by omega) (by omega)) ?_
                                  refine o_ri (va_runV (As := [.int (nI (m_ng (v 1 0 / 2) (m_dn j7)))]) (rest := []) ⟨hx, hb, hml, hown, hts⟩ (k_X5_isKept l D cI cR cS cL q (va_up v 0 (va_up (v 0) 2 0)) (m_ng (v 1 0 / 2) (m_dn j7)) (by show v 1 0 < 2 ^ 30; first | assumption | omega) (by show (m_ng (v 1 0 / 2) (m_dn j7)) < 2 ^ 32; first | assumption | omega)) (cwV 1 hts gX5_digest_X5_isKept rfl rfl rfl (by decide +kernel) ⟨Nat.le_of_ble_eq_true rfl, Nat.le_of_ble_eq_true rfl⟩) (o_v (o_pR hK hN hP) (va_recv hK hP (ci := 5) (q0 := 0) rfl rfl)) rfl rfl hl.1 rfl (lv_room (Nat.le_of_ble_eq_true rfl)) dX5_digest_223 ⟨Nat.zero_le _, Nat.zero_le _⟩) (fun r_20 e_19 => ?_)
                                  have e_19 : r_20 = nI (bn ((m_ng (v 1 0 / 2) (m_dn j7)) ≤ v 1 0 / 2 ∧ v 1 0 / 2 - (m_ng (v 1 0 / 2) (m_dn j7)) < 16)) := e_19
                                  subst e_19
                                  refine o_ifz (tgt := 269) hx hb dX5_digest_226 (by decide) (fun z => absurd c_17 z) (fun _ => ?_)
                                  refine lv_ldc2 (v := (31)) hx hb hown (hts (.constantLong RX5 153 (31)) (List.mem_of_getElem? (i := 3) (by decide +kernel))) dX5_digest_229 ?_
                                  refine lv_lload_n hx hb dX5_digest_232 rfl (lv_at hl 1 rfl) ?_
                                  refine lv_lmul hx hb dX5_digest_233 ?_
                                  refine lv_aload_n hx hb dX5_digest_234 rfl (lv_at hl 3 rfl) ?_
                                  refine va_get (D := D) (ci := 5) (v := .ref (q 1)) (C := RX5) (T := TX5) (N := 10) hx hb hts inX5_digest_X5 hown hK hP 0 rfl rfl 0 (by decide) (hts (.fieldLink RX5 7 "OddNoticeModel" "now" "[I") (List.mem_of_getElem? (i := 4) (by decide +kernel))) (fun _ h9 => h9) rfl dX5_digest_235 ?_
                                  refine o_bipush (k := 83) hx hb dX5_digest_238 (by decide) ?_
                                  refine o_const (k := 5) hx hb dX5_digest_240 (by decide) ?_
                                  refine lv_aload_n hx hb dX5_digest_241 rfl (lv_at hl 3 rfl) ?_
                                  refine va_get (D := D) (ci := 5) (v := .ref (q 1)) (C := RX5) (T := TX5) (N := 10) hx hb hts inX5_digest_X5 hown hK hP 0 rfl rfl 0 (by decide) (hts (.fieldLink RX5 7 "OddNoticeModel" "now" "[I") (List.mem_of_getElem? (i := 4) (by decide +kernel))) (fun _ h9 => h9) rfl dX5_digest_242 ?_
                                  refine o_const (k := 0) hx hb dX5_digest_245 (by decide) ?_
                                  refine o_iald (v := nI (v 1 0)) hx hb hK hP 1 0 rfl rfl (Nat.le_of_ble_eq_true rfl) (Nat.le_of_ble_eq_true rfl) rfl dX5_digest_246 ?_
                                  refine o_const (k := 2) hx hb dX5_digest_247 (by decide) ?_
                                  refine o_idiv (a := (v 1 0)) (b := 2) (k := ((v 1 0) / 2)) hx hb dX5_digest_248 (by omega) (by decide) (Nat.le_of_ble_eq_true rfl) rfl ?_
                                  refine lv_iload_n hx hb dX5_digest_249 rfl (lv_at hl 2 rfl) ?_
                                  refine lv_isub hx hb dX5_digest_250 ?_
                                  refine o_ti (m_ng_eq (by omega) (by omega)) ?_
                                  refine o_bipush (k := 16) hx hb dX5_digest_251 (by decide) ?_
                                  refine o_irem (a := (m_ng (v 1 0 / 2) (m_dn j7))) (b := 16) (k := ((m_ng (v 1 0 / 2) (m_dn j7)) % 16)) hx hb dX5_digest_253 (by omega) (by decide) (Nat.le_of_ble_eq_true rfl) rfl ?_
                                  refine o_imul (a := 5) (b := ((m_ng (v 1 0 / 2) (m_dn j7)) % 16)) (k := (5 * ((m_ng (v 1 0 / 2) (m_dn j7)) % 16))) hx hb dX5_digest_254 rfl ?_
                                  refine o_iadd (a := 83) (b := (5 * ((m_ng (v 1 0 / 2) (m_dn j7)) % 16))) (k := (83 + 5 * ((m_ng (v 1 0 / 2) (m_dn j7)) % 16))) hx hb dX5_digest_255 rfl ?_
                                  refine lv_iload hx hb dX5_digest_256 (lv_at hl 0 rfl) ?_
                                  refine o_iadd (a := (83 + 5 * ((m_ng (v 1 0 / 2) (m_dn j7)) % 16))) (b := 1) (k := (83 + 5 * ((m_ng (v 1 0 / 2) (m_dn j7)) % 16) + 1)) hx hb dX5_digest_258 rfl ?_
                                  refine o_iald (v := nI (v 1 (83 + 5 * ((m_ng (v 1 0 / 2) (m_dn j7)) % 16) + 1))) hx hb hK hP 1 0 rfl rfl (by omega) (Nat.le_of_ble_eq_true rfl) rfl dX5_digest_259 ?_
                                  refine lv_i2l (v := (nI (v 1 (83 + 5 * ((m_ng (v 1 0 / 2) (m_dn j7)) % 16) + 1))).toInt64) hx hb dX5_digest_260 rfl ?_
                                  refine lv_ladd hx hb dX5_digest_261 ?_
                                  refine lv_lstore_n (lv' := [(1, .long (((31) * (((31) * (o_folh (m_hk (v 1)) (o_folh (m_hr (v 1)) (o_fold (m_g3 (v 1)) (o_fold (m_g2 (v 1)) (o_fold (m_g1 (v 1) (v 0 0)) 3359 j1) j2) j3) j4) j7)) + (nI (v 1 (83 + 5 * ((m_ng (v 1 0 / 2) (m_dn j7)) % 16)))).toInt64)) + (nI (v 1 (83 + 5 * ((m_ng (v 1 0 / 2) (m_dn j7)) % 16) + 1))).toInt64)), (4, .int (nI 1)), (3, .int (nI (m_dn j7))), (0, .ref (q 0))]) hx hb dX5_digest_262 rfl hl (by decide) rfl (fun ls hl => ?_)
                                  refine lv_iinc (v := nI 2) (lv' := [(4, .int (nI 2)), (1, .long (((31) * (((31) * (o_folh (m_hk (v 1)) (o_folh (m_hr (v 1)) (o_fold (m_g3 (v 1)) (o_fold (m_g2 (v 1)) (o_fold (m_g1 (v 1) (v 0 0)) 3359 j1) j2) j3) j4) j7)) + (nI (v 1 (83 + 5 * ((m_ng (v 1 0 / 2) (m_dn j7)) % 16)))).toInt64)) + (nI (v 1 (83 + 5 * ((m_ng (v 1 0 / 2) (m_dn j7)) % 16) + 1))).toInt64)), (3, .int (nI (m_dn j7))), (0, .ref (q 0))]) hx hb dX5_digest_263 hl (k := 1) rfl (by decide) (by decide) rfl (fun ls hl => ?_)
                                  refine lv_goto (tgt := 206) hx hb dX5_digest_266 (by decide) ?_
                                  refine lv_iload hx hb dX5_digest_206 (lv_at hl 0 rfl) ?_
                                  refine o_const (k := 5) hx hb dX5_digest_208 (by decide) ?_
                                  refine o_icmp_ge (tgt := 269) hx hb dX5_digest_209 (by decide) (Nat.le_of_ble_eq_true rfl) (Nat.le_of_ble_eq_true rfl) (fun c0 => absurd c0 (by decide)) (fun _ => ?_)
                                  refine lv_aload_n hx hb dX5_digest_212 rfl (lv_at hl 3 rfl) ?_
                                  refine lv_aload_n hx hb dX5_digest_213 rfl (lv_at hl 3 rfl) ?_
                                  refine va_get (D := D) (ci := 5) (v := .ref (q 1)) (C := RX5) (T := TX5) (N := 10) hx hb hts inX5_digest_X5 hown hK hP 0 rfl rfl 0 (by decide) (hts (.fieldLink RX5 7 "OddNoticeModel" "now" "[I") (List.mem_of_getElem? (i := 4) (by decide +kernel))) (fun _ h9 => h9) rfl dX5_digest_214 ?_
                                  refine o_const (k := 0) hx hb dX5_digest_217 (by decide) ?_
                                  refine o_iald (v := nI (v 1 0)) hx hb hK hP 1 0 rfl rfl (Nat.le_of_ble_eq_true rfl) (Nat.le_of_ble_eq_true rfl) rfl dX5_digest_218 ?_
                                  refine o_const (k := 2) hx hb dX5_digest_219 (by decide) ?_
                                  refine o_idiv (a := (v 1 0)) (b := 2) (k := ((v 1 0) / 2)) hx hb dX5_digest_220 (by omega) (by decide) (Nat.le_of_ble_eq_true rfl) rfl ?_
                                  refine lv_iload_n hx hb dX5_digest_221 rfl (lv_at hl 2 rfl) ?_
                                  refine lv_isub hx hb dX5_digest_222 ?_
                                  refine o_ti (m_ng_eq (by omega) (by omega)) ?_
                                  refine o_ri (va_runV (As := [.int (nI (m_ng (v 1 0 / 2) (m_dn j7)))]) (rest := []) ⟨hx, hb, hml, hown, hts⟩ (k_X5_isKept l D cI cR cS cL q (va_up v 0 (va_up (v 0) 2 0)) (m_ng (v 1 0 / 2) (m_dn j7)) (by show v 1 0 < 2 ^ 30; first | assumption | omega) (by show (m_ng (v 1 0 / 2) (m_dn j7)) < 2 ^ 32; first | assumption | omega)) (cwV 1 hts gX5_digest_X5_isKept rfl rfl rfl (by decide +kernel) ⟨Nat.le_of_ble_eq_true rfl, Nat.le_of_ble_eq_true rfl⟩) (o_v (o_pR hK hN hP) (va_recv hK hP (ci := 5) (q0 := 0) rfl rfl)) rfl rfl hl.1 rfl (lv_room (Nat.le_of_ble_eq_true rfl)) dX5_digest_223 ⟨Nat.zero_le _, Nat.zero_le _⟩) (fun r_22 e_21 => ?_)
                                  have e_21 : r_22 = nI (bn ((m_ng (v 1 0 / 2) (m_dn j7)) ≤ v 1 0 / 2 ∧ v 1 0 / 2 - (m_ng (v 1 0 / 2) (m_dn j7)) < 16)) := e_21
                                  subst e_21
                                  refine o_ifz (tgt := 269) hx hb dX5_digest_226 (by decide) (fun z => absurd c_17 z) (fun _ => ?_)
                                  refine lv_ldc2 (v := (31)) hx hb hown (hts (.constantLong RX5 153 (31)) (List.mem_of_getElem? (i := 3) (by decide +kernel))) dX5_digest_229 ?_
                                  refine lv_lload_n hx hb dX5_digest_232 rfl (lv_at hl 1 rfl) ?_
                                  refine lv_lmul hx hb dX5_digest_233 ?_
                                  refine lv_aload_n hx hb dX5_digest_234 rfl (lv_at hl 3 rfl) ?_
                                  refine va_get (D := D) (ci := 5) (v := .ref (q 1)) (C := RX5) (T := TX5) (N := 10) hx hb hts inX5_digest_X5 hown hK hP 0 rfl rfl 0 (by decide) (hts (.fieldLink RX5 7 "OddNoticeModel" "now" "[I") (List.mem_of_getElem? (i := 4) (by decide +kernel))) (fun _ h9 => h9) rfl dX5_digest_235 ?_
                                  refine o_bipush (k := 83) hx hb dX5_digest_238 (by decide) ?_
                                  refine o_const (k := 5) hx hb dX5_digest_240 (by decide) ?_
                                  refine lv_aload_n hx hb dX5_digest_241 rfl (lv_at hl 3 rfl) ?_
                                  refine va_get (D := D) (ci := 5) (v := .ref (q 1)) (C := RX5) (T := TX5) (N := 10) hx hb hts inX5_digest_X5 hown hK hP 0 rfl rfl 0 (by decide) (hts (.fieldLink RX5 7 "OddNoticeModel" "now" "[I") (List.mem_of_getElem? (i := 4) (by decide +kernel))) (fun _ h9 => h9) rfl dX5_digest_242 ?_
                                  refine o_const (k := 0) hx hb dX5_digest_245 (by decide) ?_
                                  refine o_iald (v := nI (v 1 0)) hx hb hK hP 1 0 rfl rfl (Nat.le_of_ble_eq_true rfl) (Nat.le_of_ble_eq_true rfl) rfl dX5_digest_246 ?_
                                  refine o_const (k := 2) hx hb dX5_digest_247 (by decide) ?_
                                  refine o_idiv (a := (v 1 0)) (b := 2) (k := ((v 1 0) / 2)) hx hb dX5_digest_248 (by omega) (by decide) (Nat.le_of_ble_eq_true rfl) rfl ?_
                                  refine lv_iload_n hx hb dX5_digest_249 rfl (lv_at hl 2 rfl) ?_
                                  refine lv_isub hx hb dX5_digest_250 ?_
                                  refine o_ti (m_ng_eq (by omega) (by omega)) ?_
                                  refine o_bipush (k := 16) hx hb dX5_digest_251 (by decide) ?_
                                  refine o_irem (a := (m_ng (v 1 0 / 2) (m_dn j7))) (b := 16) (k := ((m_ng (v 1 0 / 2) (m_dn j7)) % 16)) hx hb dX5_digest_253 (by omega) (by decide) (Nat.le_of_ble_eq_true rfl) rfl ?_
                                  refine o_imul (a := 5) (b := ((m_ng (v 1 0 / 2) (m_dn j7)) % 16)) (k := (5 * ((m_ng (v 1 0 / 2) (m_dn j7)) % 16))) hx hb dX5_digest_254 rfl ?_
                                  refine o_iadd (a := 83) (b := (5 * ((m_ng (v 1 0 / 2) (m_dn j7)) % 16))) (k := (83 + 5 * ((m_ng (v 1 0 / 2) (m_dn j7)) % 16))) hx hb dX5_digest_255 rfl ?_
                                  refine lv_iload hx hb dX5_digest_256 (lv_at hl 0 rfl) ?_
                                  refine o_iadd (a := (83 + 5 * ((m_ng (v 1 0 / 2) (m_dn j7)) % 16))) (b := 2) (k := (83 + 5 * ((m_ng (v 1 0 / 2) (m_dn j7)) % 16) + 2)) hx hb dX5_digest_258 rfl ?_
                                  refine o_iald (v := nI (v 1 (83 + 5 * ((m_ng (v 1 0 / 2) (m_dn j7)) % 16) + 2))) hx hb hK hP 1 0 rfl rfl (by omega) (Nat.le_of_ble_eq_true rfl) rfl dX5_digest_259 ?_
                                  refine lv_i2l (v := (nI (v 1 (83 + 5 * ((m_ng (v 1 0 / 2) (m_dn j7)) % 16) + 2))).toInt64) hx hb dX5_digest_260 rfl ?_
                                  refine lv_ladd hx hb dX5_digest_261 ?_
                                  refine lv_lstore_n (lv' := [(1, .long (((31) * (((31) * (((31) * (o_folh (m_hk (v 1)) (o_folh (m_hr (v 1)) (o_fold (m_g3 (v 1)) (o_fold (m_g2 (v 1)) (o_fold (m_g1 (v 1) (v 0 0)) 3359 j1) j2) j3) j4) j7)) + (nI (v 1 (83 + 5 * ((m_ng (v 1 0 / 2) (m_dn j7)) % 16)))).toInt64)) + (nI (v 1 (83 + 5 * ((m_ng (v 1 0 / 2) (m_dn j7)) % 16) + 1))).toInt64)) + (nI (v 1 (83 + 5 * ((m_ng (v 1 0 / 2) (m_dn j7)) % 16) + 2))).toInt64)), (4, .int (nI 2)), (3, .int (nI (m_dn j7))), (0, .ref (q 0))]) hx hb dX5_digest_262 rfl hl (by decide) rfl (fun ls hl => ?_)
                                  refine lv_iinc (v := nI 3) (lv' := [(4, .int (nI 3)), (1, .long (((31) * (((31) * (((31) * (o_folh (m_hk (v 1)) (o_folh (m_hr (v 1)) (o_fold (m_g3 (v 1)) (o_fold (m_g2 (v 1)) (o_fold (m_g1 (v 1) (v 0 0)) 3359 j1) j2) j3) j4) j7)) + (nI (v 1 (83 + 5 * ((m_ng (v 1 0 / 2) (m_dn j7)) % 16)))).toInt64)) + (nI (v 1 (83 + 5 * ((m_ng (v 1 0 / 2) (m_dn j7)) % 16) + 1))).toInt64)) + (nI (v 1 (83 + 5 * ((m_ng (v 1 0 / 2) (m_dn j7)) % 16) + 2))).toInt64)), (3, .int (nI (m_dn j7))), (0, .ref (q 0))]) hx hb dX5_digest_263 hl (k := 1) rfl (by decide) (by decide) rfl (fun ls hl => ?_)
                                  refine lv_goto (tgt := 206) hx hb dX5_digest_266 (by decide) ?_
                                  refine lv_iload hx hb dX5_digest_206 (lv_at hl 0 rfl) ?_
                                  refine o_const (k := 5) hx hb dX5_digest_208 (by decide) ?_
                                  refine o_icmp_ge (tgt := 269) hx hb dX5_digest_209 (by decide) (Nat.le_of_ble_eq_true rfl) (Nat.le_of_ble_eq_true rfl) (fun c0 => absurd c0 (by decide)) (fun _ => ?_)
                                  refine lv_aload_n hx hb dX5_digest_212 rfl (lv_at hl 3 rfl) ?_
                                  refine lv_aload_n hx hb dX5_digest_213 rfl (lv_at hl 3 rfl) ?_
                                  refine va_get (D := D) (ci := 5) (v := .ref (q 1)) (C := RX5) (T := TX5) (N := 10) hx hb hts inX5_digest_X5 hown hK hP 0 rfl rfl 0 (by decide) (hts (.fieldLink RX5 7 "OddNoticeModel" "now" "[I") (List.mem_of_getElem? (i := 4) (by decide +kernel))) (fun _ h9 => h9) rfl dX5_digest_214 ?_
                                  refine o_const (k := 0) hx hb dX5_digest_217 (by decide) ?_
                                  refine o_iald (v := nI (v 1 0)) hx hb hK hP 1 0 rfl rfl (Nat.le_of_ble_eq_true rfl) (Nat.le_of_ble_eq_true rfl) rfl dX5_digest_218 ?_
                                  refine o_const (k := 2) hx hb dX5_digest_219 (by decide) ?_
                                  refine o_idiv (a := (v 1 0)) (b := 2) (k := ((v 1 0) / 2)) hx hb dX5_digest_220 (by omega) (by decide) (Nat.le_of_ble_eq_true rfl) rfl ?_
                                  refine lv_iload_n hx hb dX5_digest_221 rfl (lv_at hl 2 rfl) ?_
                                  refine lv_isub hx hb dX5_digest_222 ?_
                                  refine o_ti (m_ng_eq (by omega) (by omega)) ?_
                                  refine o_ri (va_runV (As := [.int (nI (m_ng (v 1 0 / 2) (m_dn j7)))]) (rest := []) ⟨hx, hb, hml, hown, hts⟩ (k_X5_isKept l D cI cR cS cL q (va_up v 0 (va_up (v 0) 2 0)) (m_ng (v 1 0 / 2) (m_dn j7)) (by show v 1 0 < 2 ^ 30; first | assumption | omega) (by show (m_ng (v 1 0 / 2) (m_dn j7)) < 2 ^ 32; first | assumption | omega)) (cwV 1 hts gX5_digest_X5_isKept rfl rfl rfl (by decide +kernel) ⟨Nat.le_of_ble_eq_true rfl, Nat.le_of_ble_eq_true rfl⟩) (o_v (o_pR hK hN hP) (va_recv hK hP (ci := 5) (q0 := 0) rfl rfl)) rfl rfl hl.1 rfl (lv_room (Nat.le_of_ble_eq_true rfl)) dX5_digest_223 ⟨Nat.zero_le _, Nat.zero_le _⟩) (fun r_24 e_23 => ?_)
                                  have e_23 : r_24 = nI (bn ((m_ng (v 1 0 / 2) (m_dn j7)) ≤ v 1 0 / 2 ∧ v 1 0 / 2 - (m_ng (v 1 0 / 2) (m_dn j7)) < 16)) := e_23
                                  subst e_23
                                  refine o_ifz (tgt := 269) hx hb dX5_digest_226 (by decide) (fun z => absurd c_17 z) (fun _ => ?_)
                                  refine lv_ldc2 (v := (31)) hx hb hown (hts (.constantLong RX5 153 (31)) (List.mem_of_getElem? (i := 3) (by decide +kernel))) dX5_digest_229 ?_
                                  refine lv_lload_n hx hb dX5_digest_232 rfl (lv_at hl 1 rfl) ?_
                                  refine lv_lmul hx hb dX5_digest_233 ?_
                                  refine lv_aload_n hx hb dX5_digest_234 rfl (lv_at hl 3 rfl) ?_
                                  refine va_get (D := D) (ci := 5) (v := .ref (q 1)) (C := RX5) (T := TX5) (N := 10) hx hb hts inX5_digest_X5 hown hK hP 0 rfl rfl 0 (by decide) (hts (.fieldLink RX5 7 "OddNoticeModel" "now" "[I") (List.mem_of_getElem? (i := 4) (by decide +kernel))) (fun _ h9 => h9) rfl dX5_digest_235 ?_
                                  refine o_bipush (k := 83) hx hb dX5_digest_238 (by decide) ?_
                                  refine o_const (k := 5) hx hb dX5_digest_240 (by decide) ?_
                                  refine lv_aload_n hx hb dX5_digest_241 rfl (lv_at hl 3 rfl) ?_
                                  refine va_get (D := D) (ci := 5) (v := .ref (q 1)) (C := RX5) (T := TX5) (N := 10) hx hb hts inX5_digest_X5 hown hK hP 0 rfl rfl 0 (by decide) (hts (.fieldLink RX5 7 "OddNoticeModel" "now" "[I") (List.mem_of_getElem? (i := 4) (by decide +kernel))) (fun _ h9 => h9) rfl dX5_digest_242 ?_
                                  refine o_const (k := 0) hx hb dX5_digest_245 (by decide) ?_
                                  refine o_iald (v := nI (v 1 0)) hx hb hK hP 1 0 rfl rfl (Nat.le_of_ble_eq_true rfl) (Nat.le_of_ble_eq_true rfl) rfl dX5_digest_246 ?_
                                  refine o_const (k := 2) hx hb dX5_digest_247 (by decide) ?_
                                  refine o_idiv (a := (v 1 0)) (b := 2) (k := ((v 1 0) / 2)) hx hb dX5_digest_248 (by omega) (by decide) (Nat.le_of_ble_eq_true rfl) rfl ?_
                                  refine lv_iload_n hx hb dX5_digest_249 rfl (lv_at hl 2 rfl) ?_
                                  refine lv_isub hx hb dX5_digest_250 ?_
                                  refine o_ti (m_ng_eq (by omega) (by omega)) ?_
                                  refine o_bipush (k := 16) hx hb dX5_digest_251 (by decide) ?_
                                  refine o_irem (a := (m_ng (v 1 0 / 2) (m_dn j7))) (b := 16) (k := ((m_ng (v 1 0 / 2) (m_dn j7)) % 16)) hx hb dX5_digest_253 (by omega) (by decide) (Nat.le_of_ble_eq_true rfl) rfl ?_
                                  refine o_imul (a := 5) (b := ((m_ng (v 1 0 / 2) (m_dn j7)) % 16)) (k := (5 * ((m_ng (v 1 0 / 2) (m_dn j7)) % 16))) hx hb dX5_digest_254 rfl ?_
                                  refine o_iadd (a := 83) (b := (5 * ((m_ng (v 1 0 / 2) (m_dn j7)) % 16))) (k := (83 + 5 * ((m_ng (v 1 0 / 2) (m_dn j7)) % 16))) hx hb dX5_digest_255 rfl ?_
                                  refine lv_iload hx hb dX5_digest_256 (lv_at hl 0 rfl) ?_
                                  refine o_iadd (a := (83 + 5 * ((m_ng (v 1 0 / 2) (m_dn j7)) % 16))) (b := 3) (k := (83 + 5 * ((m_ng (v 1 0 / 2) (m_dn j7)) % 16) + 3)) hx hb dX5_digest_258 rfl ?_
                                  refine o_iald (v := nI (v 1 (83 + 5 * ((m_ng (v 1 0 / 2) (m_dn j7)) % 16) + 3))) hx hb hK hP 1 0 rfl rfl (by omega) (Nat.le_of_ble_eq_true rfl) rfl dX5_digest_259 ?_
                                  refine lv_i2l (v := (nI (v 1 (83 + 5 * ((m_ng (v 1 0 / 2) (m_dn j7)) % 16) + 3))).toInt64) hx hb dX5_digest_260 rfl ?_
                                  refine lv_ladd hx hb dX5_digest_261 ?_
                                  refine lv_lstore_n (lv' := [(1, .long (((31) * (((31) * (((31) * (((31) * (o_folh (m_hk (v 1)) (o_folh (m_hr (v 1)) (o_fold (m_g3 (v 1)) (o_fold (m_g2 (v 1)) (o_fold (m_g1 (v 1) (v 0 0)) 3359 j1) j2) j3) j4) j7)) + (nI (v 1 (83 + 5 * ((m_ng (v 1 0 / 2) (m_dn j7)) % 16)))).toInt64)) + (nI (v 1 (83 + 5 * ((m_ng (v 1 0 / 2) (m_dn j7)) % 16) + 1))).toInt64)) + (nI (v 1 (83 + 5 * ((m_ng (v 1 0 / 2) (m_dn j7)) % 16) + 2))).toInt64)) + (nI (v 1 (83 + 5 * ((m_ng (v 1 0 / 2) (m_dn j7)) % 16) + 3))).toInt64)), (4, .int (nI 3)), (3, .int (nI (m_dn j7))), (0, .ref (q 0))]) hx hb dX5_digest_262 rfl hl (by decide) rfl (fun ls hl => ?_)
                                  refine lv_iinc (v := nI 4) (lv' := [(4, .int (nI 4)), (1, .long (((31) * (((31) * (((31) * (((31) * (o_folh (m_hk (v 1)) (o_folh (m_hr (v 1)) (o_fold (m_g3 (v 1)) (o_fold (m_g2 (v 1)) (o_fold (m_g1 (v 1) (v 0 0)) 3359 j1) j2) j3) j4) j7)) + (nI (v 1 (83 + 5 * ((m_ng (v 1 0 / 2) (m_dn j7)) % 16)))).toInt64)) + (nI (v 1 (83 + 5 * ((m_ng (v 1 0 / 2) (m_dn j7)) % 16) + 1))).toInt64)) + (nI (v 1 (83 + 5 * ((m_ng (v 1 0 / 2) (m_dn j7)) % 16) + 2))).toInt64)) + (nI (v 1 (83 + 5 * ((m_ng (v 1 0 / 2) (m_dn j7)) % 16) + 3))).toInt64)), (3, .int (nI (m_dn j7))), (0, .ref (q 0))]) hx hb dX5_digest_263 hl (k := 1) rfl (by decide) (by decide) rfl (fun ls hl => ?_)
                                  refine lv_goto (tgt := 206) hx hb dX5_digest_266 (by decide) ?_
                                  refine lv_iload hx hb dX5_digest_206 (lv_at hl 0 rfl) ?_
                                  refine o_const (k := 5) hx hb dX5_digest_208 (by decide) ?_
                                  refine o_icmp_ge (tgt := 269) hx hb dX5_digest_209 (by decide) (Nat.le_of_ble_eq_true rfl) (Nat.le_of_ble_eq_true rfl) (fun c0 => absurd c0 (by decide)) (fun _ => ?_)
                                  refine lv_aload_n hx hb dX5_digest_212 rfl (lv_at hl 3 rfl) ?_
                                  refine lv_aload_n hx hb dX5_digest_213 rfl (lv_at hl 3 rfl) ?_
                                  refine va_get (D := D) (ci := 5) (v := .ref (q 1)) (C := RX5) (T := TX5) (N := 10) hx hb hts inX5_digest_X5 hown hK hP 0 rfl rfl 0 (by decide) (hts (.fieldLink RX5 7 "OddNoticeModel" "now" "[I") (List.mem_of_getElem? (i := 4) (by decide +kernel))) (fun _ h9 => h9) rfl dX5_digest_214 ?_
                                  refine o_const (k := 0) hx hb dX5_digest_217 (by decide) ?_
                                  refine o_iald (v := nI (v 1 0)) hx hb hK hP 1 0 rfl rfl (Nat.le_of_ble_eq_true rfl) (Nat.le_of_ble_eq_true rfl) rfl dX5_digest_218 ?_
                                  refine o_const (k := 2) hx hb dX5_digest_219 (by decide) ?_
                                  refine o_idiv (a := (v 1 0)) (b := 2) (k := ((v 1 0) / 2)) hx hb dX5_digest_220 (by omega) (by decide) (Nat.le_of_ble_eq_true rfl) rfl ?_
                                  refine lv_iload_n hx hb dX5_digest_221 rfl (lv_at hl 2 rfl) ?_
                                  refine lv_isub hx hb dX5_digest_222 ?_
                                  refine o_ti (m_ng_eq (by omega) (by omega)) ?_
                                  refine o_ri (va_runV (As := [.int (nI (m_ng (v 1 0 / 2) (m_dn j7)))]) (rest := []) ⟨hx, hb, hml, hown, hts⟩ (k_X5_isKept l D cI cR cS cL q (va_up v 0 (va_up (v 0) 2 0)) (m_ng (v 1 0 / 2) (m_dn j7)) (by show v 1 0 < 2 ^ 30; first | assumption | omega) (by show (m_ng (v 1 0 / 2) (m_dn j7)) < 2 ^ 32; first | assumption | omega)) (cwV 1 hts gX5_digest_X5_isKept rfl rfl rfl (by decide +kernel) ⟨Nat.le_of_ble_eq_true rfl, Nat.le_of_ble_eq_true rfl⟩) (o_v (o_pR hK hN hP) (va_recv hK hP (ci := 5) (q0 := 0) rfl rfl)) rfl rfl hl.1 rfl (lv_room (Nat.le_of_ble_eq_true rfl)) dX5_digest_223 ⟨Nat.zero_le _, Nat.zero_le _⟩) (fun r_26 e_25 => ?_)
                                  have e_25 : r_26 = nI (bn ((m_ng (v 1 0 / 2) (m_dn j7)) ≤ v 1 0 / 2 ∧ v 1 0 / 2 - (m_ng (v 1 0 / 2) (m_dn j7)) < 16)) := e_25
                                  subst e_25
                                  refine o_ifz (tgt := 269) hx hb dX5_digest_226 (by decide) (fun z => absurd c_17 z) (fun _ => ?_)
                                  refine lv_ldc2 (v := (31)) hx hb hown (hts (.constantLong RX5 153 (31)) (List.mem_of_getElem? (i := 3) (by decide +kernel))) dX5_digest_229 ?_
                                  refine lv_lload_n hx hb dX5_digest_232 rfl (lv_at hl 1 rfl) ?_
                                  refine lv_lmul hx hb dX5_digest_233 ?_
                                  refine lv_aload_n hx hb dX5_digest_234 rfl (lv_at hl 3 rfl) ?_
                                  refine va_get (D := D) (ci := 5) (v := .ref (q 1)) (C := RX5) (T := TX5) (N := 10) hx hb hts inX5_digest_X5 hown hK hP 0 rfl rfl 0 (by decide) (hts (.fieldLink RX5 7 "OddNoticeModel" "now" "[I") (List.mem_of_getElem? (i := 4) (by decide +kernel))) (fun _ h9 => h9) rfl dX5_digest_235 ?_
                                  refine o_bipush (k := 83) hx hb dX5_digest_238 (by decide) ?_
                                  refine o_const (k := 5) hx hb dX5_digest_240 (by decide) ?_
                                  refine lv_aload_n hx hb dX5_digest_241 rfl (lv_at hl 3 rfl) ?_
                                  refine va_get (D := D) (ci := 5) (v := .ref (q 1)) (C := RX5) (T := TX5) (N := 10) hx hb hts inX5_digest_X5 hown hK hP 0 rfl rfl 0 (by decide) (hts (.fieldLink RX5 7 "OddNoticeModel" "now" "[I") (List.mem_of_getElem? (i := 4) (by decide +kernel))) (fun _ h9 => h9) rfl dX5_digest_242 ?_
                                  refine o_const (k := 0) hx hb dX5_digest_245 (by decide) ?_
                                  refine o_iald (v := nI (v 1 0)) hx hb hK hP 1 0 rfl rfl (Nat.le_of_ble_eq_true rfl) (Nat.le_of_ble_eq_true rfl) rfl dX5_digest_246 ?_
                                  refine o_const (k := 2) hx hb dX5_digest_247 (by decide) ?_
                                  refine o_idiv (a := (v 1 0)) (b := 2) (k := ((v 1 0) / 2)) hx hb dX5_digest_248 (by omega) (by decide) (Nat.le_of_ble_eq_true rfl) rfl ?_
                                  refine lv_iload_n hx hb dX5_digest_249 rfl (lv_at hl 2 rfl) ?_
                                  refine lv_isub hx hb dX5_digest_250 ?_
                                  refine o_ti (m_ng_eq (by omega) (by omega)) ?_
                                  refine o_bipush (k := 16) hx hb dX5_digest_251 (by decide) ?_
                                  refine o_irem (a := (m_ng (v 1 0 / 2) (m_dn j7))) (b := 16) (k := ((m_ng (v 1 0 / 2) (m_dn j7)) % 16)) hx hb dX5_digest_253 (by omega) (by decide) (Nat.le_of_ble_eq_true rfl) rfl ?_
                                  refine o_imul (a := 5) (b := ((m_ng (v 1 0 / 2) (m_dn j7)) % 16)) (k := (5 * ((m_ng (v 1 0 / 2) (m_dn j7)) % 16))) hx hb dX5_digest_254 rfl ?_
                                  refine o_iadd (a := 83) (b := (5 * ((m_ng (v 1 0 / 2) (m_dn j7)) % 16))) (k := (83 + 5 * ((m_ng (v 1 0 / 2) (m_dn j7)) % 16))) hx hb dX5_digest_255 rfl ?_
                                  refine lv_iload hx hb dX5_digest_256 (lv_at hl 0 rfl) ?_
                                  refine o_iadd (a := (83 + 5 * ((m_ng (v 1 0 / 2) (m_dn j7)) % 16))) (b := 4) (k := (83 + 5 * ((m_ng (v 1 0 / 2) (m_dn j7)) % 16) + 4)) hx hb dX5_digest_258 rfl ?_
                                  refine o_iald (v := nI (v 1 (83 + 5 * ((m_ng (v 1 0 / 2) (m_dn j7)) % 16) + 4))) hx hb hK hP 1 0 rfl rfl (by omega) (Nat.le_of_ble_eq_true rfl) rfl dX5_digest_259 ?_
                                  refine lv_i2l (v := (nI (v 1 (83 + 5 * ((m_ng (v 1 0 / 2) (m_dn j7)) % 16) + 4))).toInt64) hx hb dX5_digest_260 rfl ?_
                                  refine lv_ladd hx hb dX5_digest_261 ?_
                                  refine lv_lstore_n (lv' := [(1, .long (((31) * (((31) * (((31) * (((31) * (((31) * (o_folh (m_hk (v 1)) (o_folh (m_hr (v 1)) (o_fold (m_g3 (v 1)) (o_fold (m_g2 (v 1)) (o_fold (m_g1 (v 1) (v 0 0)) 3359 j1) j2) j3) j4) j7)) + (nI (v 1 (83 + 5 * ((m_ng (v 1 0 / 2) (m_dn j7)) % 16)))).toInt64)) + (nI (v 1 (83 + 5 * ((m_ng (v 1 0 / 2) (m_dn j7)) % 16) + 1))).toInt64)) + (nI (v 1 (83 + 5 * ((m_ng (v 1 0 / 2) (m_dn j7)) % 16) + 2))).toInt64)) + (nI (v 1 (83 + 5 * ((m_ng (v 1 0 / 2) (m_dn j7)) % 16) + 3))).toInt64)) + (nI (v 1 (83 + 5 * ((m_ng (v 1 0 / 2) (m_dn j7)) % 16) + 4))).toInt64)), (4, .int (nI 4)), (3, .int (nI (m_dn j7))), (0, .ref (q 0))]) hx hb dX5_digest_262 rfl hl (by decide) rfl (fun ls hl => ?_)
                                  refine lv_iinc (v := nI 5) (lv' := [(4, .int (nI 5)), (1, .long (((31) * (((31) * (((31) * (((31) * (((31) * (o_folh (m_hk (v 1)) (o_folh (m_hr (v 1)) (o_fold (m_g3 (v 1)) (o_fold (m_g2 (v 1)) (o_fold (m_g1 (v 1) (v 0 0)) 3359 j1) j2) j3) j4) j7)) + (nI (v 1 (83 + 5 * ((m_ng (v 1 0 / 2) (m_dn j7)) % 16)))).toInt64)) + (nI (v 1 (83 + 5 * ((m_ng (v 1 0 / 2) (m_dn j7)) % 16) + 1))).toInt64)) + (nI (v 1 (83 + 5 * ((m_ng (v 1 0 / 2) (m_dn j7)) % 16) + 2))).toInt64)) + (nI (v 1 (83 + 5 * ((m_ng (v 1 0 / 2) (m_dn j7)) % 16) + 3))).toInt64)) + (nI (v 1 (83 + 5 * ((m_ng (v 1 0 / 2) (m_dn j7)) % 16) + 4))).toInt64)), (3, .int (nI (m_dn j7))), (0, .ref (q 0))]) hx hb dX5_digest_263 hl (k := 1) rfl (by decide) (by decide) rfl (fun ls hl => ?_)
                                  refine lv_goto (tgt := 206) hx hb dX5_digest_266 (by decide) ?_
                                  refine lv_iload hx hb dX5_digest_206 (lv_at hl 0 rfl) ?_
                                  refine o_const (k := 5) hx hb dX5_digest_208 (by decide) ?_
                                  refine o_icmp_ge (tgt := 269) hx hb dX5_digest_209 (by decide) (Nat.le_of_ble_eq_true rfl) (Nat.le_of_ble_eq_true rfl) (fun _ => ?_) (fun c0 => absurd c0 (by decide))
                                  refine lv_iinc (v := nI (m_dn (j7 + 1))) (lv' := [(3, .int (nI (m_dn (j7 + 1)))), (4, .int (nI 5)), (1, .long (((31) * (((31) * (((31) * (((31) * (((31) * (o_folh (m_hk (v 1)) (o_folh (m_hr (v 1)) (o_fold (m_g3 (v 1)) (o_fold (m_g2 (v 1)) (o_fold (m_g1 (v 1) (v 0 0)) 3359 j1) j2) j3) j4) j7)) + (nI (v 1 (83 + 5 * ((m_ng (v 1 0 / 2) (m_dn j7)) % 16)))).toInt64)) + (nI (v 1 (83 + 5 * ((m_ng (v 1 0 / 2) (m_dn j7)) % 16) + 1))).toInt64)) + (nI (v 1 (83 + 5 * ((m_ng (v 1 0 / 2) (m_dn j7)) % 16) + 2))).toInt64)) + (nI (v 1 (83 + 5 * ((m_ng (v 1 0 / 2) (m_dn j7)) % 16) + 3))).toInt64)) + (nI (v 1 (83 + 5 * ((m_ng (v 1 0 / 2) (m_dn j7)) % 16) + 4))).toInt64)), (0, .ref (q 0))]) hx hb dX5_digest_269 hl (k := 2) rfl (m_dn_s (by omega)) (by decide) rfl (fun ls hl => ?_)
                                  refine lv_goto (tgt := 199) hx hb dX5_digest_272 (by decide) ?_
                                  have q_27 : ((((31) * (((31) * (((31) * (((31) * (((31) * (o_folh (m_hk (v 1)) (o_folh (m_hr (v 1)) (o_fold (m_g3 (v 1)) (o_fold (m_g2 (v 1)) (o_fold (m_g1 (v 1) (v 0 0)) 3359 j1) j2) j3) j4) j7)) + (nI (v 1 (83 + 5 * ((m_ng (v 1 0 / 2) (m_dn j7)) % 16)))).toInt64)) + (nI (v 1 (83 + 5 * ((m_ng (v 1 0 / 2) (m_dn j7)) % 16) + 1))).toInt64)) + (nI (v 1 (83 + 5 * ((m_ng (v 1 0 / 2) (m_dn j7)) % 16) + 2))).toInt64)) + (nI (v 1 (83 + 5 * ((m_ng (v 1 0 / 2) (m_dn j7)) % 16) + 3))).toInt64)) + (nI (v 1 (83 + 5 * ((m_ng (v 1 0 / 2) (m_dn j7)) % 16) + 4))).toInt64) : Int64) = (o_folh (m_hk (v 1)) (o_folh (m_hr (v 1)) (o_fold (m_g3 (v 1)) (o_fold (m_g2 (v 1)) (o_fold (m_g1 (v 1) (v 0 0)) 3359 j1) j2) j3) j4) (j7 + 1)) := by exact Eq.symm (show o_folh (m_hk (v 1)) (o_folh (m_hr (v 1)) (o_fold (m_g3 (v 1)) (o_fold (m_g2 (v 1)) (o_fold (m_g1 (v 1) (v 0 0)) 3359 j1) j2) j3) j4) (j7 + 1) = _ from if_pos c_17)
                                  have hl := o_lvset hl 2 rfl (congrArg Value.long q_27)
                                  exact ih_5  (j7 + 1) (by omega) (by omega) ls (lv_sub hl [0, 2, 3] rfl)
                          have q_28 : nI 15 = nI (m_dn 0) := by rfl
                          have hl := o_lvset hl 0 rfl (congrArg Value.int q_28)
                          have q_29 : ((o_folh (m_hr (v 1)) (o_fold (m_g3 (v 1)) (o_fold (m_g2 (v 1)) (o_fold (m_g1 (v 1) (v 0 0)) 3359 j1) j2) j3) j4) : Int64) = (o_folh (m_hk (v 1)) (o_folh (m_hr (v 1)) (o_fold (m_g3 (v 1)) (o_fold (m_g2 (v 1)) (o_fold (m_g1 (v 1) (v 0 0)) 3359 j1) j2) j3) j4) 0) := by rfl
                          have hl := o_lvset hl 1 rfl (congrArg Value.long q_29)
                          exact lp_5 _ 0 (Nat.zero_le _) (Nat.lt_succ_self _) ls (lv_sub hl [0, 1, 2] rfl)
                        · skip
                          refine o_const (k := 0) hx hb dX5_digest_105 (by decide) ?_
                          refine lv_istore (lv' := [(4, .int (nI 0)), (3, .int (nI j4)), (1, .long (o_folh (m_hr (v 1)) (o_fold (m_g3 (v 1)) (o_fold (m_g2 (v 1)) (o_fold (m_g1 (v 1) (v 0 0)) 3359 j1) j2) j3) j4)), (0, .ref (q 0))]) hx hb dX5_digest_106 hl (by decide) rfl (fun ls hl => ?_)
                          have lp_7 : ∀ (fu : Nat) (j5 : Nat), j5 ≤ 8 → 8 - j5 < fu → ∀ (ls : Array Slot) (hl : lv_has ls 5 [(4, .int (nI j5)), (3, .int (nI j4)), (1, .long (o_fold (m_g4 (v 1) j4) (o_folh (m_hr (v 1)) (o_fold (m_g3 (v 1)) (o_fold (m_g2 (v 1)) (o_fold (m_g1 (v 1) (v 0 0)) 3359 j1) j2) j3) j4) j5)), (0, .ref (q 0))]), W p l e (headSpec wsX5_digest ({ frames := 4, cells := 0, slots := 0, locals := 93 })).room s m ([.ref (q 0)] : List Value).toArray below meth cd H locs 0 0 (MQ below (va_Ql (fun rz (_ : Unit) => rz = (m_dig v)) (fun (_ : Unit) t => va_P D vwCl (wM q cI (va_up v 0 (va_up (v 0) 2 0))) t.heap) A) ([.ref (q 0)] : List Value).toArray s 0 0 A) (F0 m 108 ls []) := by
                            intro fu
                            induction fu with
                            | zero => intro j5 hj5 hm; exact absurd hm (Nat.not_lt_zero _)
                            | succ fu ih_7 =>
                              intro j5 hj5 hm_7 ls hl
                              refine lv_iload hx hb dX5_digest_108 (lv_at hl 0 rfl) ?_
                              refine o_bipush (k := 8) hx hb dX5_digest_110 (by decide) ?_
                              refine o_icmp_ge (tgt := 136) hx hb dX5_digest_112 (by decide) (by omega) (Nat.le_of_ble_eq_true rfl) (fun c_30 => ?_) (fun c_30 => ?_)
                              · skip
                                refine o_const (k := 0) hx hb dX5_digest_136 (by decide) ?_
                                refine lv_istore (lv' := [(4, .int (nI 0)), (3, .int (nI j4)), (1, .long (o_fold (m_g4 (v 1) j4) (o_folh (m_hr (v 1)) (o_fold (m_g3 (v 1)) (o_fold (m_g2 (v 1)) (o_fold (m_g1 (v 1) (v 0 0)) 3359 j1) j2) j3) j4) j5)), (0, .ref (q 0))]) hx hb dX5_digest_137 hl (by decide) rfl (fun ls hl => ?_)
                                have lp_8 : ∀ (fu : Nat) (j6 : Nat), j6 ≤ 5 → 5 - j6 < fu → ∀ (ls : Array Slot) (hl : lv_has ls 5 [(4, .int (nI j6)), (3, .int (nI j4)), (1, .long (o_fold (m_g5 (v 1) j4) (o_fold (m_g4 (v 1) j4) (o_folh (m_hr (v 1)) (o_fold (m_g3 (v 1)) (o_fold (m_g2 (v 1)) (o_fold (m_g1 (v 1) (v 0 0)) 3359 j1) j2) j3) j4) j5) j6)), (0, .ref (q 0))]), W p l e (headSpec wsX5_digest ({ frames := 4, cells := 0, slots := 0, locals := 93 })).room s m ([.ref (q 0)] : List Value).toArray below meth cd H locs 0 0 (MQ below (va_Ql (fun rz (_ : Unit) => rz = (m_dig v)) (fun (_ : Unit) t => va_P D vwCl (wM q cI (va_up v 0 (va_up (v 0) 2 0))) t.heap) A) ([.ref (q 0)] : List Value).toArray s 0 0 A) (F0 m 139 ls []) := by
                                  intro fu
                                  induction fu with
                                  | zero => intro j6 hj6 hm; exact absurd hm (Nat.not_lt_zero _)
                                  | succ fu ih_8 =>
                                    intro j6 hj6 hm_8 ls hl
                                    refine lv_iload hx hb dX5_digest_139 (lv_at hl 0 rfl) ?_
                                    refine o_const (k := 5) hx hb dX5_digest_141 (by decide) ?_
                                    refine o_icmp_ge (tgt := 166) hx hb dX5_digest_142 (by decide) (by omega) (Nat.le_of_ble_eq_true rfl) (fun c_31 => ?_) (fun c_31 => ?_)
                                    · skip
                                      refine lv_ldc2 (v := (31)) hx hb hown (hts (.constantLong RX5 153 (31)) (List.mem_of_getElem? (i := 3) (by decide +kernel))) dX5_digest_166 ?_
                                      refine lv_ldc2 (v := (31)) hx hb hown (hts (.constantLong RX5 153 (31)) (List.mem_of_getElem? (i := 3) (by decide +kernel))) dX5_digest_169 ?_
                                      refine lv_lload_n hx hb dX5_digest_172 rfl (lv_at hl 2 rfl) ?_
                                      refine lv_lmul hx hb dX5_digest_173 ?_
                                      refine lv_aload_n hx hb dX5_digest_174 rfl (lv_at hl 3 rfl) ?_
                                      refine lv_iload_n hx hb dX5_digest_175 rfl (lv_at hl 1 rfl) ?_
                                      refine o_ri (va_runV (As := [.int (nI j4)]) (rest := [.long ((31) * (o_fold (m_g5 (v 1) j4) (o_fold (m_g4 (v 1) j4) (o_folh (m_hr (v 1)) (o_fold (m_g3 (v 1)) (o_fold (m_g2 (v 1)) (o_fold (m_g1 (v 1) (v 0 0)) 3359 j1) j2) j3) j4) j5) j6)), .long (31)]) ⟨hx, hb, hml, hown, hts⟩ (k_X5_tries l D cI cR cS cL q (va_up v 0 (va_up (v 0) 2 0)) b j4 (by show m_I b (v 1); first | assumption | omega) (by show b < 2 ^ 28; first | assumption | omega) (by show j4 < 4; first | assumption | omega)) (cwV 1 hts gX5_digest_X5_tries rfl rfl rfl (by decide +kernel) ⟨Nat.le_of_ble_eq_true rfl, Nat.le_of_ble_eq_true rfl⟩) (o_v (o_pR hK hN hP) (va_recv hK hP (ci := 5) (q0 := 0) rfl rfl)) rfl rfl hl.1 rfl (lv_room (Nat.le_of_ble_eq_true rfl)) dX5_digest_176 ⟨Nat.zero_le _, Nat.zero_le _⟩) (fun r_33 e_32 => ?_)
                                      have e_32 : r_33 = nI (m_tries (v 1) j4) := e_32
                                      subst e_32
                                      have gv_34 := m_tries_or (v 1) j4
                                      refine lv_i2l (v := (nI (m_tries (v 1) j4)).toInt64) hx hb dX5_digest_179 rfl ?_
                                      refine lv_ladd hx hb dX5_digest_180 ?_
                                      refine lv_lmul hx hb dX5_digest_181 ?_
                                      refine lv_aload_n hx hb dX5_digest_182 rfl (lv_at hl 3 rfl) ?_
                                      refine lv_iload_n hx hb dX5_digest_183 rfl (lv_at hl 1 rfl) ?_
                                      refine o_ri (va_runV (As := [.int (nI j4)]) (rest := [.long ((31) * (((31) * (o_fold (m_g5 (v 1) j4) (o_fold (m_g4 (v 1) j4) (o_folh (m_hr (v 1)) (o_fold (m_g3 (v 1)) (o_fold (m_g2 (v 1)) (o_fold (m_g1 (v 1) (v 0 0)) 3359 j1) j2) j3) j4) j5) j6)) + (nI (m_tries (v 1) j4)).toInt64))]) ⟨hx, hb, hml, hown, hts⟩ (k_X5_halves l D cI cR cS cL q (va_up v 0 (va_up (v 0) 2 0)) b j4 (by show m_I b (v 1); first | assumption | omega) (by show b < 2 ^ 28; first | assumption | omega) (by show j4 < 4; first | assumption | omega)) (cwV 1 hts gX5_digest_X5_halves rfl rfl rfl (by decide +kernel) ⟨Nat.le_of_ble_eq_true rfl, Nat.le_of_ble_eq_true rfl⟩) (o_v (o_pR hK hN hP) (va_recv hK hP (ci := 5) (q0 := 0) rfl rfl)) rfl rfl hl.1 rfl (lv_room (Nat.le_of_ble_eq_true rfl)) dX5_digest_184 ⟨Nat.zero_le _, Nat.zero_le _⟩) (fun r_36 e_35 => ?_)
                                      have e_35 : r_36 = nI (m_half (v 1) j4) := e_35
                                      subst e_35
                                      have gv_37 := m_half_le (v 1) j4
                                      refine lv_i2l (v := (nI (m_half (v 1) j4)).toInt64) hx hb dX5_digest_187 rfl ?_
                                      refine lv_ladd hx hb dX5_digest_188 ?_
                                      refine lv_lstore_n (lv' := [(1, .long (((31) * (((31) * (o_fold (m_g5 (v 1) j4) (o_fold (m_g4 (v 1) j4) (o_folh (m_hr (v 1)) (o_fold (m_g3 (v 1)) (o_fold (m_g2 (v 1)) (o_fold (m_g1 (v 1) (v 0 0)) 3359 j1) j2) j3) j4) j5) j6)) + (nI (m_tries (v 1) j4)).toInt64)) + (nI (m_half (v 1) j4)).toInt64)), (4, .int (nI j6)), (3, .int (nI j4)), (0, .ref (q 0))]) hx hb dX5_digest_189 rfl hl (by decide) rfl (fun ls hl => ?_)
                                      refine lv_iinc (v := nI (j4 + 1)) (lv' := [(3, .int (nI (j4 + 1))), (1, .long (((31) * (((31) * (o_fold (m_g5 (v 1) j4) (o_fold (m_g4 (v 1) j4) (o_folh (m_hr (v 1)) (o_fold (m_g3 (v 1)) (o_fold (m_g2 (v 1)) (o_fold (m_g1 (v 1) (v 0 0)) 3359 j1) j2) j3) j4) j5) j6)) + (nI (m_tries (v 1) j4)).toInt64)) + (nI (m_half (v 1) j4)).toInt64)), (4, .int (nI j6)), (0, .ref (q 0))]) hx hb dX5_digest_190 hl (k := 2) rfl (o_inc1 _) (by decide) rfl (fun ls hl => ?_)
                                      refine lv_goto (tgt := 100) hx hb dX5_digest_193 (by decide) ?_
                                      have q_38 : ((((31) * (((31) * (o_fold (m_g5 (v 1) j4) (o_fold (m_g4 (v 1) j4) (o_folh (m_hr (v 1)) (o_fold (m_g3 (v 1)) (o_fold (m_g2 (v 1)) (o_fold (m_g1 (v 1) (v 0 0)) 3359 j1) j2) j3) j4) j5) j6)) + (nI (m_tries (v 1) j4)).toInt64)) + (nI (m_half (v 1) j4)).toInt64) : Int64) = (o_folh (m_hr (v 1)) (o_fold (m_g3 (v 1)) (o_fold (m_g2 (v 1)) (o_fold (m_g1 (v 1) (v 0 0)) 3359 j1) j2) j3) (j4 + 1)) := by exact (show _ = m_hr (v 1) j4 (o_folh (m_hr (v 1)) (o_fold (m_g3 (v 1)) (o_fold (m_g2 (v 1)) (o_fold (m_g1 (v 1) (v 0 0)) 3359 j1) j2) j3) j4) from by unfold m_hr; rw [show 8 = j5 by omega, show 5 = j6 by omega])
                                      have hl := o_lvset hl 1 rfl (congrArg Value.long q_38)
                                      exact ih_4  (j4 + 1) (by omega) (by omega) ls (lv_sub hl [0, 1, 3] rfl)
                                    · skip
                                      refine lv_ldc2 (v := (31)) hx hb hown (hts (.constantLong RX5 153 (31)) (List.mem_of_getElem? (i := 3) (by decide +kernel))) dX5_digest_145 ?_
                                      refine lv_lload_n hx hb dX5_digest_148 rfl (lv_at hl 2 rfl) ?_
                                      refine lv_lmul hx hb dX5_digest_149 ?_
                                      refine lv_aload_n hx hb dX5_digest_150 rfl (lv_at hl 3 rfl) ?_
                                      refine lv_iload_n hx hb dX5_digest_151 rfl (lv_at hl 1 rfl) ?_
                                      refine lv_iload hx hb dX5_digest_152 (lv_at hl 0 rfl) ?_
                                      refine o_ri (va_runV (As := [.int (nI j4), .int (nI j6)]) (rest := [.long ((31) * (o_fold (m_g5 (v 1) j4) (o_fold (m_g4 (v 1) j4) (o_folh (m_hr (v 1)) (o_fold (m_g3 (v 1)) (o_fold (m_g2 (v 1)) (o_fold (m_g1 (v 1) (v 0 0)) 3359 j1) j2) j3) j4) j5) j6))]) ⟨hx, hb, hml, hown, hts⟩ (k_X5_had l D cI cR cS cL q (va_up v 0 (va_up (v 0) 2 0)) b j4 j6 (by show m_I b (v 1); first | assumption | omega) (by show b < 2 ^ 28; first | assumption | omega) (by show j4 < 4; first | assumption | omega) (by show j6 < 5; first | assumption | omega)) (cwV 2 hts gX5_digest_X5_had rfl rfl rfl (by decide +kernel) ⟨Nat.le_of_ble_eq_true rfl, Nat.le_of_ble_eq_true rfl⟩) (o_v (o_pR hK hN hP) (va_recv hK hP (ci := 5) (q0 := 0) rfl rfl)) rfl rfl hl.1 rfl (lv_room (Nat.le_of_ble_eq_true rfl)) dX5_digest_154 ⟨Nat.zero_le _, Nat.zero_le _⟩) (fun r_40 e_39 => ?_)
                                      have e_39 : r_40 = nI (m_had (v 1) j4 j6) := e_39
                                      subst e_39
                                      refine lv_i2l (v := (nI (m_had (v 1) j4 j6)).toInt64) hx hb dX5_digest_157 rfl ?_
                                      refine lv_ladd hx hb dX5_digest_158 ?_
                                      refine lv_lstore_n (lv' := [(1, .long (((31) * (o_fold (m_g5 (v 1) j4) (o_fold (m_g4 (v 1) j4) (o_folh (m_hr (v 1)) (o_fold (m_g3 (v 1)) (o_fold (m_g2 (v 1)) (o_fold (m_g1 (v 1) (v 0 0)) 3359 j1) j2) j3) j4) j5) j6)) + (nI (m_had (v 1) j4 j6)).toInt64)), (4, .int (nI j6)), (3, .int (nI j4)), (0, .ref (q 0))]) hx hb dX5_digest_159 rfl hl (by decide) rfl (fun ls hl => ?_)
                                      refine lv_iinc (v := nI (j6 + 1)) (lv' := [(4, .int (nI (j6 + 1))), (1, .long (((31) * (o_fold (m_g5 (v 1) j4) (o_fold (m_g4 (v 1) j4) (o_folh (m_hr (v 1)) (o_fold (m_g3 (v 1)) (o_fold (m_g2 (v 1)) (o_fold (m_g1 (v 1) (v 0 0)) 3359 j1) j2) j3) j4) j5) j6)) + (nI (m_had (v 1) j4 j6)).toInt64)), (3, .int (nI j4)), (0, .ref (q 0))]) hx hb dX5_digest_160 hl (k := 1) rfl (o_inc1 _) (by decide) rfl (fun ls hl => ?_)
                                      refine lv_goto (tgt := 139) hx hb dX5_digest_163 (by decide) ?_
                                      have q_41 : ((((31) * (o_fold (m_g5 (v 1) j4) (o_fold (m_g4 (v 1) j4) (o_folh (m_hr (v 1)) (o_fold (m_g3 (v 1)) (o_fold (m_g2 (v 1)) (o_fold (m_g1 (v 1) (v 0 0)) 3359 j1) j2) j3) j4) j5) j6)) + (nI (m_had (v 1) j4 j6)).toInt64) : Int64) = (o_fold (m_g5 (v 1) j4) (o_fold (m_g4 (v 1) j4) (o_folh (m_hr (v 1)) (o_fold (m_g3 (v 1)) (o_fold (m_g2 (v 1)) (o_fold (m_g1 (v 1) (v 0 0)) 3359 j1) j2) j3) j4) j5) (j6 + 1)) := by rfl
                                      have hl := o_lvset hl 1 rfl (congrArg Value.long q_41)
                                      exact ih_8  (j6 + 1) (by omega) (by omega) ls (lv_sub hl [0, 2, 1, 3] rfl)
                                have q_42 : ((o_fold (m_g4 (v 1) j4) (o_folh (m_hr (v 1)) (o_fold (m_g3 (v 1)) (o_fold (m_g2 (v 1)) (o_fold (m_g1 (v 1) (v 0 0)) 3359 j1) j2) j3) j4) j5) : Int64) = (o_fold (m_g5 (v 1) j4) (o_fold (m_g4 (v 1) j4) (o_folh (m_hr (v 1)) (o_fold (m_g3 (v 1)) (o_fold (m_g2 (v 1)) (o_fold (m_g1 (v 1) (v 0 0)) 3359 j1) j2) j3) j4) j5) 0) := by rfl
                                have hl := o_lvset hl 2 rfl (congrArg Value.long q_42)
                                exact lp_8 _ 0 (Nat.zero_le _) (Nat.lt_succ_self _) ls (lv_sub hl [0, 1, 2, 3] rfl)
                              · skip
                                refine lv_ldc2 (v := (31)) hx hb hown (hts (.constantLong RX5 153 (31)) (List.mem_of_getElem? (i := 3) (by decide +kernel))) dX5_digest_115 ?_
                                refine lv_lload_n hx hb dX5_digest_118 rfl (lv_at hl 2 rfl) ?_
                                refine lv_lmul hx hb dX5_digest_119 ?_
                                refine lv_aload_n hx hb dX5_digest_120 rfl (lv_at hl 3 rfl) ?_
                                refine lv_iload_n hx hb dX5_digest_121 rfl (lv_at hl 1 rfl) ?_
                                refine lv_iload hx hb dX5_digest_122 (lv_at hl 0 rfl) ?_
                                refine o_ri (va_runV (As := [.int (nI j4), .int (nI j5)]) (rest := [.long ((31) * (o_fold (m_g4 (v 1) j4) (o_folh (m_hr (v 1)) (o_fold (m_g3 (v 1)) (o_fold (m_g2 (v 1)) (o_fold (m_g1 (v 1) (v 0 0)) 3359 j1) j2) j3) j4) j5))]) ⟨hx, hb, hml, hown, hts⟩ (k_X5_ofReader l D cI cR cS cL q (va_up v 0 (va_up (v 0) 2 0)) b j4 j5 (by show m_I b (v 1); first | assumption | omega) (by show b < 2 ^ 28; first | assumption | omega) (by show j4 < 4; first | assumption | omega) (by show j5 < 8; first | assumption | omega)) (cwV 2 hts gX5_digest_X5_ofReader rfl rfl rfl (by decide +kernel) ⟨Nat.le_of_ble_eq_true rfl, Nat.le_of_ble_eq_true rfl⟩) (o_v (o_pR hK hN hP) (va_recv hK hP (ci := 5) (q0 := 0) rfl rfl)) rfl rfl hl.1 rfl (lv_room (Nat.le_of_ble_eq_true rfl)) dX5_digest_124 ⟨Nat.zero_le _, Nat.zero_le _⟩) (fun r_44 e_43 => ?_)
                                have e_43 : r_44 = nI (m_ofrd (v 1) j4 j5) := e_43
                                subst e_43
                                refine lv_i2l (v := (nI (m_ofrd (v 1) j4 j5)).toInt64) hx hb dX5_digest_127 rfl ?_
                                refine lv_ladd hx hb dX5_digest_128 ?_
                                refine lv_lstore_n (lv' := [(1, .long (((31) * (o_fold (m_g4 (v 1) j4) (o_folh (m_hr (v 1)) (o_fold (m_g3 (v 1)) (o_fold (m_g2 (v 1)) (o_fold (m_g1 (v 1) (v 0 0)) 3359 j1) j2) j3) j4) j5)) + (nI (m_ofrd (v 1) j4 j5)).toInt64)), (4, .int (nI j5)), (3, .int (nI j4)), (0, .ref (q 0))]) hx hb dX5_digest_129 rfl hl (by decide) rfl (fun ls hl => ?_)
                                refine lv_iinc (v := nI (j5 + 1)) (lv' := [(4, .int (nI (j5 + 1))), (1, .long (((31) * (o_fold (m_g4 (v 1) j4) (o_folh (m_hr (v 1)) (o_fold (m_g3 (v 1)) (o_fold (m_g2 (v 1)) (o_fold (m_g1 (v 1) (v 0 0)) 3359 j1) j2) j3) j4) j5)) + (nI (m_ofrd (v 1) j4 j5)).toInt64)), (3, .int (nI j4)), (0, .ref (q 0))]) hx hb dX5_digest_130 hl (k := 1) rfl (o_inc1 _) (by decide) rfl (fun ls hl => ?_)
                                refine lv_goto (tgt := 108) hx hb dX5_digest_133 (by decide) ?_
                                have q_45 : ((((31) * (o_fold (m_g4 (v 1) j4) (o_folh (m_hr (v 1)) (o_fold (m_g3 (v 1)) (o_fold (m_g2 (v 1)) (o_fold (m_g1 (v 1) (v 0 0)) 3359 j1) j2) j3) j4) j5)) + (nI (m_ofrd (v 1) j4 j5)).toInt64) : Int64) = (o_fold (m_g4 (v 1) j4) (o_folh (m_hr (v 1)) (o_fold (m_g3 (v 1)) (o_fold (m_g2 (v 1)) (o_fold (m_g1 (v 1) (v 0 0)) 3359 j1) j2) j3) j4) (j5 + 1)) := by rfl
                                have hl := o_lvset hl 1 rfl (congrArg Value.long q_45)
                                exact ih_7  (j5 + 1) (by omega) (by omega) ls (lv_sub hl [0, 2, 1, 3] rfl)
                          have q_46 : ((o_folh (m_hr (v 1)) (o_fold (m_g3 (v 1)) (o_fold (m_g2 (v 1)) (o_fold (m_g1 (v 1) (v 0 0)) 3359 j1) j2) j3) j4) : Int64) = (o_fold (m_g4 (v 1) j4) (o_folh (m_hr (v 1)) (o_fold (m_g3 (v 1)) (o_fold (m_g2 (v 1)) (o_fold (m_g1 (v 1) (v 0 0)) 3359 j1) j2) j3) j4) 0) := by rfl
                          have hl := o_lvset hl 2 rfl (congrArg Value.long q_46)
                          exact lp_7 _ 0 (Nat.zero_le _) (Nat.lt_succ_self _) ls (lv_sub hl [0, 1, 2, 3] rfl)
                    have q_47 : ((o_fold (m_g3 (v 1)) (o_fold (m_g2 (v 1)) (o_fold (m_g1 (v 1) (v 0 0)) 3359 j1) j2) j3) : Int64) = (o_folh (m_hr (v 1)) (o_fold (m_g3 (v 1)) (o_fold (m_g2 (v 1)) (o_fold (m_g1 (v 1) (v 0 0)) 3359 j1) j2) j3) 0) := by rfl
                    have hl := o_lvset hl 1 rfl (congrArg Value.long q_47)
                    exact lp_4 _ 0 (Nat.zero_le _) (Nat.lt_succ_self _) ls (lv_sub hl [0, 1, 2] rfl)
                  · skip
                    refine lv_ldc2 (v := (31)) hx hb hown (hts (.constantLong RX5 153 (31)) (List.mem_of_getElem? (i := 3) (by decide +kernel))) dX5_digest_74 ?_
                    refine lv_lload_n hx hb dX5_digest_77 rfl (lv_at hl 1 rfl) ?_
                    refine lv_lmul hx hb dX5_digest_78 ?_
                    refine lv_aload_n hx hb dX5_digest_79 rfl (lv_at hl 2 rfl) ?_
                    refine lv_iload_n hx hb dX5_digest_80 rfl (lv_at hl 0 rfl) ?_
                    refine o_const (k := 3) hx hb dX5_digest_81 (by decide) ?_
                    refine o_idiv (a := j3) (b := 3) (k := (j3 / 3)) hx hb dX5_digest_82 (by omega) (by decide) (Nat.le_of_ble_eq_true rfl) rfl ?_
                    refine lv_iload_n hx hb dX5_digest_83 rfl (lv_at hl 0 rfl) ?_
                    refine o_const (k := 3) hx hb dX5_digest_84 (by decide) ?_
                    refine o_irem (a := j3) (b := 3) (k := (j3 % 3)) hx hb dX5_digest_85 (by omega) (by decide) (Nat.le_of_ble_eq_true rfl) rfl ?_
                    refine o_ri (va_runV (As := [.int (nI (j3 / 3)), .int (nI (j3 % 3))]) (rest := [.long ((31) * (o_fold (m_g3 (v 1)) (o_fold (m_g2 (v 1)) (o_fold (m_g1 (v 1) (v 0 0)) 3359 j1) j2) j3))]) ⟨hx, hb, hml, hown, hts⟩ (k_X5_ofClerk l D cI cR cS cL q (va_up v 0 (va_up (v 0) 2 0)) b (j3 / 3) (j3 % 3) (by show m_I b (v 1); first | assumption | omega) (by show b < 2 ^ 28; first | assumption | omega) (by show (j3 / 3) < 3; first | assumption | omega) (by show (j3 % 3) < 2 ^ 31; first | assumption | omega)) (cwV 2 hts gX5_digest_X5_ofClerk rfl rfl rfl (by decide +kernel) ⟨Nat.le_of_ble_eq_true rfl, Nat.le_of_ble_eq_true rfl⟩) (o_v (o_pR hK hN hP) (va_recv hK hP (ci := 5) (q0 := 0) rfl rfl)) rfl rfl hl.1 rfl (lv_room (Nat.le_of_ble_eq_true rfl)) dX5_digest_86 ⟨Nat.zero_le _, Nat.zero_le _⟩) (fun r_49 e_48 => ?_)
                    have e_48 : r_49 = nI (m_ofc (v 1) (j3 / 3) (j3 % 3)) := e_48
                    subst e_48
                    refine lv_i2l (v := (nI (m_ofc (v 1) (j3 / 3) (j3 % 3))).toInt64) hx hb dX5_digest_89 rfl ?_
                    refine lv_ladd hx hb dX5_digest_90 ?_
                    refine lv_lstore_n (lv' := [(1, .long (((31) * (o_fold (m_g3 (v 1)) (o_fold (m_g2 (v 1)) (o_fold (m_g1 (v 1) (v 0 0)) 3359 j1) j2) j3)) + (nI (m_ofc (v 1) (j3 / 3) (j3 % 3))).toInt64)), (3, .int (nI j3)), (0, .ref (q 0))]) hx hb dX5_digest_91 rfl hl (by decide) rfl (fun ls hl => ?_)
                    refine lv_iinc (v := nI (j3 + 1)) (lv' := [(3, .int (nI (j3 + 1))), (1, .long (((31) * (o_fold (m_g3 (v 1)) (o_fold (m_g2 (v 1)) (o_fold (m_g1 (v 1) (v 0 0)) 3359 j1) j2) j3)) + (nI (m_ofc (v 1) (j3 / 3) (j3 % 3))).toInt64)), (0, .ref (q 0))]) hx hb dX5_digest_92 hl (k := 1) rfl (o_inc1 _) (by decide) rfl (fun ls hl => ?_)
                    refine lv_goto (tgt := 68) hx hb dX5_digest_95 (by decide) ?_
                    have q_50 : ((((31) * (o_fold (m_g3 (v 1)) (o_fold (m_g2 (v 1)) (o_fold (m_g1 (v 1) (v 0 0)) 3359 j1) j2) j3)) + (nI (m_ofc (v 1) (j3 / 3) (j3 % 3))).toInt64) : Int64) = (o_fold (m_g3 (v 1)) (o_fold (m_g2 (v 1)) (o_fold (m_g1 (v 1) (v 0 0)) 3359 j1) j2) (j3 + 1)) := by rfl
                    have hl := o_lvset hl 1 rfl (congrArg Value.long q_50)
                    exact ih_3  (j3 + 1) (by omega) (by omega) ls (lv_sub hl [0, 1, 2] rfl)
              have q_51 : ((o_fold (m_g2 (v 1)) (o_fold (m_g1 (v 1) (v 0 0)) 3359 j1) j2) : Int64) = (o_fold (m_g3 (v 1)) (o_fold (m_g2 (v 1)) (o_fold (m_g1 (v 1) (v 0 0)) 3359 j1) j2) 0) := by rfl
              have hl := o_lvset hl 1 rfl (congrArg Value.long q_51)
              exact lp_3 _ 0 (Nat.zero_le _) (Nat.lt_succ_self _) ls (lv_sub hl [0, 1, 2] rfl)
            · skip
              refine lv_ldc2 (v := (31)) hx hb hown (hts (.constantLong RX5 153 (31)) (List.mem_of_getElem? (i := 3) (by decide +kernel))) dX5_digest_43 ?_
              refine lv_lload_n hx hb dX5_digest_46 rfl (lv_at hl 1 rfl) ?_
              refine lv_lmul hx hb dX5_digest_47 ?_
              refine lv_aload_n hx hb dX5_digest_48 rfl (lv_at hl 2 rfl) ?_
              refine va_get (D := D) (ci := 5) (v := .ref (q 1)) (C := RX5) (T := TX5) (N := 10) hx hb hts inX5_digest_X5 hown hK hP 0 rfl rfl 0 (by decide) (hts (.fieldLink RX5 7 "OddNoticeModel" "now" "[I") (List.mem_of_getElem? (i := 4) (by decide +kernel))) (fun _ h9 => h9) rfl dX5_digest_49 ?_
              refine o_bipush (k := 7) hx hb dX5_digest_52 (by decide) ?_
              refine lv_iload_n hx hb dX5_digest_54 rfl (lv_at hl 0 rfl) ?_
              refine o_iadd (a := 7) (b := j2) (k := (7 + j2)) hx hb dX5_digest_55 rfl ?_
              refine o_iald (v := nI (v 1 (7 + j2))) hx hb hK hP 1 0 rfl rfl (by omega) (Nat.le_of_ble_eq_true rfl) rfl dX5_digest_56 ?_
              refine lv_i2l (v := (nI (v 1 (7 + j2))).toInt64) hx hb dX5_digest_57 rfl ?_
              refine lv_ladd hx hb dX5_digest_58 ?_
              refine lv_lstore_n (lv' := [(1, .long (((31) * (o_fold (m_g2 (v 1)) (o_fold (m_g1 (v 1) (v 0 0)) 3359 j1) j2)) + (nI (v 1 (7 + j2))).toInt64)), (3, .int (nI j2)), (0, .ref (q 0))]) hx hb dX5_digest_59 rfl hl (by decide) rfl (fun ls hl => ?_)
              refine lv_iinc (v := nI (j2 + 1)) (lv' := [(3, .int (nI (j2 + 1))), (1, .long (((31) * (o_fold (m_g2 (v 1)) (o_fold (m_g1 (v 1) (v 0 0)) 3359 j1) j2)) + (nI (v 1 (7 + j2))).toInt64)), (0, .ref (q 0))]) hx hb dX5_digest_60 hl (k := 1) rfl (o_inc1 _) (by decide) rfl (fun ls hl => ?_)
              refine lv_goto (tgt := 38) hx hb dX5_digest_63 (by decide) ?_
              have q_52 : ((((31) * (o_fold (m_g2 (v 1)) (o_fold (m_g1 (v 1) (v 0 0)) 3359 j1) j2)) + (nI (v 1 (7 + j2))).toInt64) : Int64) = (o_fold (m_g2 (v 1)) (o_fold (m_g1 (v 1) (v 0 0)) 3359 j1) (j2 + 1)) := by rfl
              have hl := o_lvset hl 1 rfl (congrArg Value.long q_52)
              exact ih_2  (j2 + 1) (by omega) (by omega) ls (lv_sub hl [0, 1, 2] rfl)
        have q_53 : ((o_fold (m_g1 (v 1) (v 0 0)) 3359 j1) : Int64) = (o_fold (m_g2 (v 1)) (o_fold (m_g1 (v 1) (v 0 0)) 3359 j1) 0) := by rfl
        have hl := o_lvset hl 1 rfl (congrArg Value.long q_53)
        exact lp_2 _ 0 (Nat.zero_le _) (Nat.lt_succ_self _) ls (lv_sub hl [0, 1, 2] rfl)
      · skip
        refine lv_ldc2 (v := (31)) hx hb hown (hts (.constantLong RX5 153 (31)) (List.mem_of_getElem? (i := 3) (by decide +kernel))) dX5_digest_17 ?_
        refine lv_lload_n hx hb dX5_digest_20 rfl (lv_at hl 1 rfl) ?_
        refine lv_lmul hx hb dX5_digest_21 ?_
        refine lv_aload_n hx hb dX5_digest_22 rfl (lv_at hl 2 rfl) ?_
        refine lv_iload_n hx hb dX5_digest_23 rfl (lv_at hl 0 rfl) ?_
        refine o_ri (va_runV (As := [.int (nI j1)]) (rest := [.long ((31) * (o_fold (m_g1 (v 1) (v 0 0)) 3359 j1))]) ⟨hx, hb, hml, hown, hts⟩ (k_X5_counted l D cI cR cS cL q (va_up v 0 (va_up (v 0) 2 0)) b j1 (by show m_I b (v 1); first | assumption | omega) (by show b < 2 ^ 28; first | assumption | omega) (by show j1 < 9; first | assumption | omega)) (cwV 1 hts gX5_digest_X5_counted rfl rfl rfl (by decide +kernel) ⟨Nat.le_of_ble_eq_true rfl, Nat.le_of_ble_eq_true rfl⟩) (o_v (o_pR hK hN hP) (va_recv hK hP (ci := 5) (q0 := 0) rfl rfl)) rfl rfl hl.1 rfl (lv_room (Nat.le_of_ble_eq_true rfl)) dX5_digest_24 ⟨Nat.zero_le _, Nat.zero_le _⟩) (fun r_55 e_54 => ?_)
        have e_54 : r_55 = nI (m_cnt (v 1) (v 0 0) j1) := e_54
        subst e_54
        refine lv_i2l (v := (nI (m_cnt (v 1) (v 0 0) j1)).toInt64) hx hb dX5_digest_27 rfl ?_
        refine lv_ladd hx hb dX5_digest_28 ?_
        refine lv_lstore_n (lv' := [(1, .long (((31) * (o_fold (m_g1 (v 1) (v 0 0)) 3359 j1)) + (nI (m_cnt (v 1) (v 0 0) j1)).toInt64)), (3, .int (nI j1)), (0, .ref (q 0))]) hx hb dX5_digest_29 rfl hl (by decide) rfl (fun ls hl => ?_)
        refine lv_iinc (v := nI (j1 + 1)) (lv' := [(3, .int (nI (j1 + 1))), (1, .long (((31) * (o_fold (m_g1 (v 1) (v 0 0)) 3359 j1)) + (nI (m_cnt (v 1) (v 0 0) j1)).toInt64)), (0, .ref (q 0))]) hx hb dX5_digest_30 hl (k := 1) rfl (o_inc1 _) (by decide) rfl (fun ls hl => ?_)
        refine lv_goto (tgt := 11) hx hb dX5_digest_33 (by decide) ?_
        have q_56 : ((((31) * (o_fold (m_g1 (v 1) (v 0 0)) 3359 j1)) + (nI (m_cnt (v 1) (v 0 0) j1)).toInt64) : Int64) = (o_fold (m_g1 (v 1) (v 0 0)) 3359 (j1 + 1)) := by rfl
        have hl := o_lvset hl 1 rfl (congrArg Value.long q_56)
        exact ih_1  (j1 + 1) (by omega) (by omega) ls (lv_sub hl [0, 1, 2] rfl)
  have q_57 : ((3359) : Int64) = (o_fold (m_g1 (v 1) (v 0 0)) 3359 0) := by rfl
  have hl := o_lvset hl 1 rfl (congrArg Value.long q_57)
  exact lp_1 _ 0 (Nat.zero_le _) (Nat.lt_succ_self _) ls (lv_sub hl [0, 1, 2] rfl)
