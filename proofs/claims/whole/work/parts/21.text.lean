set_option maxHeartbeats 4000000 in
set_option maxRecDepth 100000 in
theorem k_X4_isBelow (l : Launch) (D : va_G) (cI cR cS cL : ClassId) (n : Nat) (b : Nat) (h1 : n < 2 ^ 32) (h2 : b < 2 ^ 31) : Met l yX4_isBelow wsX4_isBelow ({ frames := 0, cells := 0, slots := 0, locals := 0 }) (va_Pc [.int (nI n), .int (nI b)] (o_R D (o_T cI cR cS cL) [])) (vp_Si (fun rz => rz = nI (bn (n < b)))) 0 0 (fun _ => False) := by
  refine Met.ofW (cc := cX4_isBelow) (maxL := 2) (ret := (some .boolean)) (by decide) rfl ?_
  intro p e s m args below meth cd s₁ B hml hv
  obtain ⟨rfl, hP, hK, hN⟩ := hv
  have hx := B.exec
  have hb := B.bytes
  have hrt := B.returns
  have hts := atoms_spec (ws := wsX4_isBelow) B.pre
  have hown : s.vm.findClass RX4 = some m.cls := findClass_of_methodNamed B.named
  have hlocks := B.notSynchronized
  have hl := lv_entry ([.int (nI n), .int (nI b)]) (n := 2) (Nat.le_of_ble_eq_true rfl)
  rw [lg_entry_eq]
  generalize (lg_sl ([.int (nI n), .int (nI b)]) ++ List.replicate (2 - (lg_sl ([.int (nI n), .int (nI b)])).length) Slot.unset).toArray = ls at hl ⊢
  have hl : lv_has ls 2 [(0, .int (nI n)), (1, .int (nI b))] := hl
  refine lv_iload_n hx hb dX4_isBelow_0 rfl (lv_at hl 0 rfl) ?_
  refine o_if_lt_s (tgt := 13) hx hb dX4_isBelow_1 (by decide) (by omega) (fun c_1 => ?_) (fun c_1 => ?_)
  · skip
    refine o_const (k := 0) hx hb dX4_isBelow_13 (by decide) ?_
    exact W.zret (v := nI 0) hx hb hrt rfl (fun t ht hW => ⟨_, rfl, (congrArg nI (Eq.symm (bn_f (by omega)))), ht⟩) (fun _ h => nomatch h) dX4_isBelow_14
  · skip
    refine lv_iload_n hx hb dX4_isBelow_4 rfl (lv_at hl 0 rfl) ?_
    refine lv_iload_n hx hb dX4_isBelow_5 rfl (lv_at hl 1 rfl) ?_
    refine o_icmp_ge (tgt := 13) hx hb dX4_isBelow_6 (by decide) (by omega) (by omega) (fun c_2 => ?_) (fun c_2 => ?_)
    · skip
      refine o_const (k := 0) hx hb dX4_isBelow_13 (by decide) ?_
      exact W.zret (v := nI 0) hx hb hrt rfl (fun t ht hW => ⟨_, rfl, (congrArg nI (Eq.symm (bn_f (by omega)))), ht⟩) (fun _ h => nomatch h) dX4_isBelow_14
    · skip
      refine o_const (k := 1) hx hb dX4_isBelow_9 (by decide) ?_
      refine lv_goto (tgt := 14) hx hb dX4_isBelow_10 (by decide) ?_
      exact W.zret (v := nI 1) hx hb hrt rfl (fun t ht hW => ⟨_, rfl, (congrArg nI (Eq.symm (bn_t (by omega)))), ht⟩) (fun _ h => nomatch h) dX4_isBelow_14
theorem inX3_codeAt_X3 : ∀ w ∈ wsX30, w ∈ wsX3_codeAt := by decide +kernel
set_option maxHeartbeats 4000000 in
set_option maxRecDepth 100000 in
theorem k_X3_codeAt (l : Launch) (D : va_G) (cI cR cS cL : ClassId) (q : Nat → Nat) (x : Nat → Nat → Nat) (i : Nat) (hi : i < 2 ^ 31) (h0 : x 0 0 ≤ 60) (ht : ∀ k, x 1 k < 2 ^ 31) : Met l yX3_codeAt wsX3_codeAt ({ frames := 1, cells := 0, slots := 0, locals := 21 }) (va_Pc [.ref (q 0), .int (nI i)] (o_R D (o_T cI cR cS cL) (wT q cI x))) (vp_Si (fun rz => rz = nI (t_code x i))) 0 0 (fun _ => False) := by
  refine Met.ofW (cc := cX3_codeAt) (maxL := 2) (ret := (some .int)) (by decide) rfl ?_
  intro p e s m args below meth cd s₁ B hml hv
  obtain ⟨rfl, hP, hK, hN⟩ := hv
  have hx := B.exec
  have hb := B.bytes
  have hrt := B.returns
  have hts := atoms_spec (ws := wsX3_codeAt) B.pre
  have hown : s.vm.findClass RX3 = some m.cls := findClass_of_methodNamed B.named
  have hlocks := B.notSynchronized
  have hl := lv_entry ([.ref (q 0), .int (nI i)]) (n := 2) (Nat.le_of_ble_eq_true rfl)
  rw [lg_entry_eq]
  generalize (lg_sl ([.ref (q 0), .int (nI i)]) ++ List.replicate (2 - (lg_sl ([.ref (q 0), .int (nI i)])).length) Slot.unset).toArray = ls at hl ⊢
  have hl : lv_has ls 2 [(0, .ref (q 0)), (1, .int (nI i))] := hl
  refine lv_iload_n hx hb dX3_codeAt_0 rfl (lv_at hl 1 rfl) ?_
  refine lv_aload_n hx hb dX3_codeAt_1 rfl (lv_at hl 0 rfl) ?_
  refine va_get (D := D) (ci := 3) (v := .int (nI (x 0 0))) (C := RX3) (T := TX3) (N := 4) hx hb hts inX3_codeAt_X3 hown hK hP 0 rfl rfl 0 (by decide) (hts (.fieldLink RX3 19 "OddNotice$Text" "length" "I") (List.mem_of_getElem? (i := 1) (by decide +kernel))) (fun _ h9 => h9) rfl dX3_codeAt_2 ?_
  refine o_ri (va_runSN (As := [.int (nI i), .int (nI (x 0 0))]) (rest := []) ⟨hx, hb, hml, hown, hts⟩ (k_X4_isBelow l D cI cR cS cL i (x 0 0) (by show i < 2 ^ 32; first | assumption | omega) (by show (x 0 0) < 2 ^ 31; first | assumption | omega)) ⟨va_cnB 2 hts gX3_codeAt_X4_isBelow_n32 rfl rfl rfl hN.1 (hts (.initialized RX4) (List.mem_of_getElem? (i := 4) (by decide +kernel))) (by decide +kernel) ⟨Nat.le_of_ble_eq_true rfl, Nat.le_of_ble_eq_true rfl⟩, (hts (.static yX4_isBelow) (List.mem_of_getElem? (i := 3) (by decide +kernel))), trivial⟩ (o_pR hK hN (hP.sub (ws' := []) [] rfl)) rfl rfl hl.1 rfl (lv_room (Nat.le_of_ble_eq_true rfl)) dX3_codeAt_5 ⟨Nat.zero_le _, Nat.zero_le _⟩) (fun r_2 e_1 => ?_)
  have e_1 : r_2 = nI (bn (i < (x 0 0))) := e_1
  subst e_1
  refine o_ifz (tgt := 20) hx hb dX3_codeAt_8 (by decide) (fun c_3 => ?_) (fun c_3 => ?_)
  · skip
    refine o_const (k := 0) hx hb dX3_codeAt_20 (by decide) ?_
    exact W.iret (v := nI 0) hx hb hrt (fun t ht hW => ⟨_, rfl, (congrArg nI (Eq.symm (show t_code x i = _ from if_neg c_3))), ht⟩) (fun _ h => nomatch h) dX3_codeAt_21
  · skip
    refine lv_aload_n hx hb dX3_codeAt_11 rfl (lv_at hl 0 rfl) ?_
    refine va_get (D := D) (ci := 3) (v := .ref (q 1)) (C := RX3) (T := TX3) (N := 4) hx hb hts inX3_codeAt_X3 hown hK hP 0 rfl rfl 3 (by decide) (hts (.fieldLink RX3 15 "OddNotice$Text" "codes" "[I") (List.mem_of_getElem? (i := 2) (by decide +kernel))) (fun _ h9 => h9) rfl dX3_codeAt_12 ?_
    refine lv_iload_n hx hb dX3_codeAt_15 rfl (lv_at hl 1 rfl) ?_
    refine o_iald (v := nI (x 1 i)) hx hb hK hP 1 0 rfl rfl (by omega) (Nat.le_of_ble_eq_true rfl) rfl dX3_codeAt_16 ?_
    refine lv_goto (tgt := 21) hx hb dX3_codeAt_17 (by decide) ?_
    exact W.iret (v := nI (x 1 i)) hx hb hrt (fun t ht hW => ⟨_, rfl, (congrArg nI (Eq.symm (show t_code x i = _ from if_pos c_3))), ht⟩) (fun _ h => nomatch h) dX3_codeAt_21
set_option maxHeartbeats 4000000 in
set_option maxRecDepth 100000 in
theorem k_X3_isLetter (l : Launch) (D : va_G) (cI cR cS cL : ClassId) (q : Nat → Nat) (x : Nat → Nat → Nat) (i : Nat) (hi : i < 2 ^ 31) (h0 : x 0 0 ≤ 60) (ht : ∀ k, x 1 k < 2 ^ 31) : Met l yX3_isLetter wsX3_isLetter ({ frames := 2, cells := 0, slots := 0, locals := 42 }) (va_Pc [.ref (q 0), .int (nI i)] (o_R D (o_T cI cR cS cL) (wT q cI x))) (vp_Si (fun rz => rz = nI (bn (97 ≤ t_code x i)))) 0 0 (fun _ => False) := by
  refine Met.ofW (cc := cX3_isLetter) (maxL := 2) (ret := (some .boolean)) (by decide) rfl ?_
  intro p e s m args below meth cd s₁ B hml hv
  obtain ⟨rfl, hP, hK, hN⟩ := hv
  have hx := B.exec
  have hb := B.bytes
  have hrt := B.returns
  have hts := atoms_spec (ws := wsX3_isLetter) B.pre
  have hown : s.vm.findClass RX3 = some m.cls := findClass_of_methodNamed B.named
  have hlocks := B.notSynchronized
  have hl := lv_entry ([.ref (q 0), .int (nI i)]) (n := 2) (Nat.le_of_ble_eq_true rfl)
  rw [lg_entry_eq]
  generalize (lg_sl ([.ref (q 0), .int (nI i)]) ++ List.replicate (2 - (lg_sl ([.ref (q 0), .int (nI i)])).length) Slot.unset).toArray = ls at hl ⊢
  have hl : lv_has ls 2 [(0, .ref (q 0)), (1, .int (nI i))] := hl
  refine lv_aload_n hx hb dX3_isLetter_0 rfl (lv_at hl 0 rfl) ?_
  refine lv_iload_n hx hb dX3_isLetter_1 rfl (lv_at hl 1 rfl) ?_
  refine o_ri (va_runV (As := [.int (nI i)]) (rest := []) ⟨hx, hb, hml, hown, hts⟩ (k_X3_codeAt l D cI cR cS cL q x i (by show i < 2 ^ 31; first | assumption | omega) (by show x 0 0 ≤ 60; first | assumption | omega) (by show ∀ k, x 1 k < 2 ^ 31; first | assumption | omega)) (cwV 1 hts gX3_isLetter_X3_codeAt rfl rfl rfl (by decide +kernel) ⟨Nat.le_of_ble_eq_true rfl, Nat.le_of_ble_eq_true rfl⟩) (o_v (o_pR hK hN hP) (va_recv hK hP (ci := 3) (q0 := 0) rfl rfl)) rfl rfl hl.1 rfl (lv_room (Nat.le_of_ble_eq_true rfl)) dX3_isLetter_2 ⟨Nat.zero_le _, Nat.zero_le _⟩) (fun r_2 e_1 => ?_)
  have e_1 : r_2 = nI (t_code x i) := e_1
  subst e_1
  have gv_3 := (t_code_lt (by assumption) i : t_code x i < 2 ^ 31)
  refine o_bipush (k := 97) hx hb dX3_isLetter_5 (by decide) ?_
  refine o_icmp_lt (tgt := 14) hx hb dX3_isLetter_7 (by decide) (by omega) (Nat.le_of_ble_eq_true rfl) (fun c_4 => ?_) (fun c_4 => ?_)
  · skip
    refine o_const (k := 0) hx hb dX3_isLetter_14 (by decide) ?_
    exact W.zret (v := nI 0) hx hb hrt rfl (fun t ht hW => ⟨_, rfl, (congrArg nI (Eq.symm (bn_f (by omega)))), ht⟩) (fun _ h => nomatch h) dX3_isLetter_15
  · skip
    refine o_const (k := 1) hx hb dX3_isLetter_10 (by decide) ?_
    refine lv_goto (tgt := 15) hx hb dX3_isLetter_11 (by decide) ?_
    exact W.zret (v := nI 1) hx hb hrt rfl (fun t ht hW => ⟨_, rfl, (congrArg nI (Eq.symm (bn_t (by omega)))), ht⟩) (fun _ h => nomatch h) dX3_isLetter_15
set_option maxHeartbeats 4000000 in
set_option maxRecDepth 100000 in
theorem k_X3_digitAt (l : Launch) (D : va_G) (cI cR cS cL : ClassId) (q : Nat → Nat) (x : Nat → Nat → Nat) (i : Nat) (hi : i < 2 ^ 31) (h0 : x 0 0 ≤ 60) (ht : ∀ k, x 1 k < 2 ^ 31) : Met l yX3_digitAt wsX3_digitAt ({ frames := 2, cells := 0, slots := 0, locals := 42 }) (va_Pc [.ref (q 0), .int (nI i)] (o_R D (o_T cI cR cS cL) (wT q cI x))) (vp_Si (fun rz => rz = nI (t_dig x i))) 0 0 (fun _ => False) := by
  refine Met.ofW (cc := cX3_digitAt) (maxL := 3) (ret := (some .int)) (by decide) rfl ?_
  intro p e s m args below meth cd s₁ B hml hv
  obtain ⟨rfl, hP, hK, hN⟩ := hv
  have hx := B.exec
  have hb := B.bytes
  have hrt := B.returns
  have hts := atoms_spec (ws := wsX3_digitAt) B.pre
  have hown : s.vm.findClass RX3 = some m.cls := findClass_of_methodNamed B.named
  have hlocks := B.notSynchronized
  have hl := lv_entry ([.ref (q 0), .int (nI i)]) (n := 3) (Nat.le_of_ble_eq_true rfl)
  rw [lg_entry_eq]
  generalize (lg_sl ([.ref (q 0), .int (nI i)]) ++ List.replicate (3 - (lg_sl ([.ref (q 0), .int (nI i)])).length) Slot.unset).toArray = ls at hl ⊢
  have hl : lv_has ls 3 [(0, .ref (q 0)), (1, .int (nI i))] := hl
  refine lv_aload_n hx hb dX3_digitAt_0 rfl (lv_at hl 0 rfl) ?_
  refine lv_iload_n hx hb dX3_digitAt_1 rfl (lv_at hl 1 rfl) ?_
  refine o_ri (va_runV (As := [.int (nI i)]) (rest := []) ⟨hx, hb, hml, hown, hts⟩ (k_X3_codeAt l D cI cR cS cL q x i (by show i < 2 ^ 31; first | assumption | omega) (by show x 0 0 ≤ 60; first | assumption | omega) (by show ∀ k, x 1 k < 2 ^ 31; first | assumption | omega)) (cwV 1 hts gX3_digitAt_X3_codeAt rfl rfl rfl (by decide +kernel) ⟨Nat.le_of_ble_eq_true rfl, Nat.le_of_ble_eq_true rfl⟩) (o_v (o_pR hK hN hP) (va_recv hK hP (ci := 3) (q0 := 0) rfl rfl)) rfl rfl hl.1 rfl (lv_room (Nat.le_of_ble_eq_true rfl)) dX3_digitAt_2 ⟨Nat.zero_le _, Nat.zero_le _⟩) (fun r_2 e_1 => ?_)
  have e_1 : r_2 = nI (t_code x i) := e_1
  subst e_1
  have gv_3 := (t_code_lt (by assumption) i : t_code x i < 2 ^ 31)
  refine o_bipush (k := 48) hx hb dX3_digitAt_5 (by decide) ?_
  refine lv_isub hx hb dX3_digitAt_7 ?_
  refine o_ti (m_ng_eq (by omega) (by omega)) ?_
  have hng := m_ng_or (t_code x i) 48
  refine lv_istore_n (lv' := [(2, .int (nI (m_ng (t_code x i) 48))), (0, .ref (q 0)), (1, .int (nI i))]) hx hb dX3_digitAt_8 rfl hl (by decide) rfl (fun ls hl => ?_)
  refine lv_iload_n hx hb dX3_digitAt_9 rfl (lv_at hl 0 rfl) ?_
  refine o_bipush (k := 10) hx hb dX3_digitAt_10 (by decide) ?_
  refine o_ri (va_runSN (As := [.int (nI (m_ng (t_code x i) 48)), .int (nI 10)]) (rest := []) ⟨hx, hb, hml, hown, hts⟩ (k_X4_isBelow l D cI cR cS cL (m_ng (t_code x i) 48) 10 (by show (m_ng (t_code x i) 48) < 2 ^ 32; first | assumption | omega) (by show 10 < 2 ^ 31; first | assumption | omega)) ⟨va_cnB 2 hts gX3_digitAt_X4_isBelow_n32 rfl rfl rfl hN.1 (hts (.initialized RX4) (List.mem_of_getElem? (i := 9) (by decide +kernel))) (by decide +kernel) ⟨Nat.le_of_ble_eq_true rfl, Nat.le_of_ble_eq_true rfl⟩, (hts (.static yX4_isBelow) (List.mem_of_getElem? (i := 8) (by decide +kernel))), trivial⟩ (o_pR hK hN (hP.sub (ws' := []) [] rfl)) rfl rfl hl.1 rfl (lv_room (Nat.le_of_ble_eq_true rfl)) dX3_digitAt_12 ⟨Nat.zero_le _, Nat.zero_le _⟩) (fun r_5 e_4 => ?_)
  have e_4 : r_5 = nI (bn ((m_ng (t_code x i) 48) < 10)) := e_4
  subst e_4
  refine o_ifz (tgt := 22) hx hb dX3_digitAt_15 (by decide) (fun c_6 => ?_) (fun c_6 => ?_)
  · skip
    refine o_const (k := 0) hx hb dX3_digitAt_22 (by decide) ?_
    exact W.iret (v := nI 0) hx hb hrt (fun t ht hW => ⟨_, rfl, (congrArg nI (Eq.symm (show t_dig x i = _ from if_neg c_6))), ht⟩) (fun _ h => nomatch h) dX3_digitAt_23
  · skip
    refine lv_iload_n hx hb dX3_digitAt_18 rfl (lv_at hl 0 rfl) ?_
    refine lv_goto (tgt := 23) hx hb dX3_digitAt_19 (by decide) ?_
    exact W.iret (v := nI (m_ng (t_code x i) 48)) hx hb hrt (fun t ht hW => ⟨_, rfl, (congrArg nI (Eq.symm (show t_dig x i = _ from if_pos c_6))), ht⟩) (fun _ h => nomatch h) dX3_digitAt_23
set_option maxHeartbeats 4000000 in
set_option maxRecDepth 100000 in
theorem k_X3_valueAt (l : Launch) (D : va_G) (cI cR cS cL : ClassId) (q : Nat → Nat) (x : Nat → Nat → Nat) (i : Nat) (hi : i < 2 ^ 30) (h0 : x 0 0 ≤ 60) (ht : ∀ k, x 1 k < 2 ^ 31) : Met l yX3_valueAt wsX3_valueAt ({ frames := 3, cells := 0, slots := 0, locals := 64 }) (va_Pc [.ref (q 0), .int (nI i)] (o_R D (o_T cI cR cS cL) (wT q cI x))) (vp_Si (fun rz => rz = nI (10 * t_dig x i + t_dig x (i + 1)))) 0 0 (fun _ => False) := by
  refine Met.ofW (cc := cX3_valueAt) (maxL := 2) (ret := (some .int)) (by decide) rfl ?_
  intro p e s m args below meth cd s₁ B hml hv
  obtain ⟨rfl, hP, hK, hN⟩ := hv
  have hx := B.exec
  have hb := B.bytes
  have hrt := B.returns
  have hts := atoms_spec (ws := wsX3_valueAt) B.pre
  have hown : s.vm.findClass RX3 = some m.cls := findClass_of_methodNamed B.named
  have hlocks := B.notSynchronized
  have hl := lv_entry ([.ref (q 0), .int (nI i)]) (n := 2) (Nat.le_of_ble_eq_true rfl)
  rw [lg_entry_eq]
  generalize (lg_sl ([.ref (q 0), .int (nI i)]) ++ List.replicate (2 - (lg_sl ([.ref (q 0), .int (nI i)])).length) Slot.unset).toArray = ls at hl ⊢
  have hl : lv_has ls 2 [(0, .ref (q 0)), (1, .int (nI i))] := hl
  refine o_bipush (k := 10) hx hb dX3_valueAt_0 (by decide) ?_
  refine lv_aload_n hx hb dX3_valueAt_2 rfl (lv_at hl 0 rfl) ?_
  refine lv_iload_n hx hb dX3_valueAt_3 rfl (lv_at hl 1 rfl) ?_
  refine o_ri (va_runV (As := [.int (nI i)]) (rest := [.int (nI 10)]) ⟨hx, hb, hml, hown, hts⟩ (k_X3_digitAt l D cI cR cS cL q x i (by show i < 2 ^ 31; first | assumption | omega) (by show x 0 0 ≤ 60; first | assumption | omega) (by show ∀ k, x 1 k < 2 ^ 31; first | assumption | omega)) (cwV 1 hts gX3_valueAt_X3_digitAt rfl rfl rfl (by decide +kernel) ⟨Nat.le_of_ble_eq_true rfl, Nat.le_of_ble_eq_true rfl⟩) (o_v (o_pR hK hN hP) (va_recv hK hP (ci := 3) (q0 := 0) rfl rfl)) rfl rfl hl.1 rfl (lv_room (Nat.le_of_ble_eq_true rfl)) dX3_valueAt_4 ⟨Nat.zero_le _, Nat.zero_le _⟩) (fun r_2 e_1 => ?_)
  have e_1 : r_2 = nI (t_dig x i) := e_1
  subst e_1
  have gv_3 := t_dig_lt x i
  refine o_imul (a := 10) (b := (t_dig x i)) (k := (10 * (t_dig x i))) hx hb dX3_valueAt_7 rfl ?_
  refine lv_aload_n hx hb dX3_valueAt_8 rfl (lv_at hl 0 rfl) ?_
  refine lv_iload_n hx hb dX3_valueAt_9 rfl (lv_at hl 1 rfl) ?_
  refine o_const (k := 1) hx hb dX3_valueAt_10 (by decide) ?_
  refine o_iadd (a := i) (b := 1) (k := (i + 1)) hx hb dX3_valueAt_11 rfl ?_
  refine o_ri (va_runV (As := [.int (nI (i + 1))]) (rest := [.int (nI (10 * (t_dig x i)))]) ⟨hx, hb, hml, hown, hts⟩ (k_X3_digitAt l D cI cR cS cL q x (i + 1) (by show (i + 1) < 2 ^ 31; first | assumption | omega) (by show x 0 0 ≤ 60; first | assumption | omega) (by show ∀ k, x 1 k < 2 ^ 31; first | assumption | omega)) (cwV 1 hts gX3_valueAt_X3_digitAt rfl rfl rfl (by decide +kernel) ⟨Nat.le_of_ble_eq_true rfl, Nat.le_of_ble_eq_true rfl⟩) (o_v (o_pR hK hN hP) (va_recv hK hP (ci := 3) (q0 := 0) rfl rfl)) rfl rfl hl.1 rfl (lv_room (Nat.le_of_ble_eq_true rfl)) dX3_valueAt_12 ⟨Nat.zero_le _, Nat.zero_le _⟩) (fun r_5 e_4 => ?_)
  have e_4 : r_5 = nI (t_dig x (i + 1)) := e_4
  subst e_4
  have gv_6 := t_dig_lt x (i + 1)
  refine o_iadd (a := (10 * (t_dig x i))) (b := (t_dig x (i + 1))) (k := (10 * (t_dig x i) + (t_dig x (i + 1)))) hx hb dX3_valueAt_15 rfl ?_
  exact W.iret (v := nI (10 * (t_dig x i) + (t_dig x (i + 1)))) hx hb hrt (fun t ht hW => ⟨_, rfl, rfl, ht⟩) (fun _ h => nomatch h) dX3_valueAt_16
set_option maxHeartbeats 4000000 in
set_option maxRecDepth 100000 in
theorem k_X3_expectedBehindLetter (l : Launch) (D : va_G) (cI cR cS cL : ClassId) (c : Nat) (hc : c < 2 ^ 31) : Met l yX3_expectedBehindLetter wsX3_expectedBehindLetter ({ frames := 0, cells := 0, slots := 0, locals := 0 }) (va_Pc [.int (nI c)] (o_R D (o_T cI cR cS cL) [])) (vp_Si (fun rz => rz = nI (t_beh1 c))) 0 0 (fun _ => False) := by
  refine Met.ofW (cc := cX3_expectedBehindLetter) (maxL := 1) (ret := (some .int)) (by decide) rfl ?_
  intro p e s m args below meth cd s₁ B hml hv
  obtain ⟨rfl, hP, hK, hN⟩ := hv
  have hx := B.exec
  have hb := B.bytes
  have hrt := B.returns
  have hts := atoms_spec (ws := wsX3_expectedBehindLetter) B.pre
  have hown : s.vm.findClass RX3 = some m.cls := findClass_of_methodNamed B.named
  have hlocks := B.notSynchronized
  have hl := lv_entry ([.int (nI c)]) (n := 1) (Nat.le_of_ble_eq_true rfl)
  rw [lg_entry_eq]
  generalize (lg_sl ([.int (nI c)]) ++ List.replicate (1 - (lg_sl ([.int (nI c)])).length) Slot.unset).toArray = ls at hl ⊢
  have hl : lv_has ls 1 [(0, .int (nI c))] := hl
  rcases (show c = 98 ∨ c = 99 ∨ c = 100 ∨ c = 108 ∨ c = 119 ∨ (¬ c = 98 ∧ ¬ c = 99 ∧ ¬ c = 100 ∧ ¬ c = 108 ∧ ¬ c = 119) by omega) with rfl | rfl | rfl | rfl | rfl | hno
  · skip
    refine lv_iload_n hx hb dX3_expectedBehindLetter_0 rfl (lv_at hl 0 rfl) ?_
    refine lv_lookup (tgt := 54) (off := 53) hx hb dX3_expectedBehindLetter_1 (by decide) (by decide) (by decide) ?_
    refine o_const (k := 2) hx hb dX3_expectedBehindLetter_54 (by decide) ?_
    exact W.iret (v := nI 2) hx hb hrt (fun t ht hW => ⟨_, rfl, (congrArg nI (by unfold t_beh1; (repeat' split) <;> omega)), ht⟩) (fun _ h => nomatch h) dX3_expectedBehindLetter_55
  · skip
    refine lv_iload_n hx hb dX3_expectedBehindLetter_0 rfl (lv_at hl 0 rfl) ?_
    refine lv_lookup (tgt := 52) (off := 51) hx hb dX3_expectedBehindLetter_1 (by decide) (by decide) (by decide) ?_
    refine o_const (k := 1) hx hb dX3_expectedBehindLetter_52 (by decide) ?_
    exact W.iret (v := nI 1) hx hb hrt (fun t ht hW => ⟨_, rfl, (congrArg nI (by unfold t_beh1; (repeat' split) <;> omega)), ht⟩) (fun _ h => nomatch h) dX3_expectedBehindLetter_53
  · skip
    refine lv_iload_n hx hb dX3_expectedBehindLetter_0 rfl (lv_at hl 0 rfl) ?_
    refine lv_lookup (tgt := 52) (off := 51) hx hb dX3_expectedBehindLetter_1 (by decide) (by decide) (by decide) ?_
    refine o_const (k := 1) hx hb dX3_expectedBehindLetter_52 (by decide) ?_
    exact W.iret (v := nI 1) hx hb hrt (fun t ht hW => ⟨_, rfl, (congrArg nI (by unfold t_beh1; (repeat' split) <;> omega)), ht⟩) (fun _ h => nomatch h) dX3_expectedBehindLetter_53
  · skip
    refine lv_iload_n hx hb dX3_expectedBehindLetter_0 rfl (lv_at hl 0 rfl) ?_
    refine lv_lookup (tgt := 54) (off := 53) hx hb dX3_expectedBehindLetter_1 (by decide) (by decide) (by decide) ?_
    refine o_const (k := 2) hx hb dX3_expectedBehindLetter_54 (by decide) ?_
    exact W.iret (v := nI 2) hx hb hrt (fun t ht hW => ⟨_, rfl, (congrArg nI (by unfold t_beh1; (repeat' split) <;> omega)), ht⟩) (fun _ h => nomatch h) dX3_expectedBehindLetter_55
  · skip
    refine lv_iload_n hx hb dX3_expectedBehindLetter_0 rfl (lv_at hl 0 rfl) ?_
    refine lv_lookup (tgt := 56) (off := 55) hx hb dX3_expectedBehindLetter_1 (by decide) (by decide) (by decide) ?_
    refine o_const (k := 3) hx hb dX3_expectedBehindLetter_56 (by decide) ?_
    exact W.iret (v := nI 3) hx hb hrt (fun t ht hW => ⟨_, rfl, (congrArg nI (by unfold t_beh1; (repeat' split) <;> omega)), ht⟩) (fun _ h => nomatch h) dX3_expectedBehindLetter_57
  · skip
    refine lv_iload_n hx hb dX3_expectedBehindLetter_0 rfl (lv_at hl 0 rfl) ?_
    refine lv_lookup (tgt := 58) (off := 57) hx hb dX3_expectedBehindLetter_1 (by decide) (o_look5 (p1 := 98) (p2 := 99) (p3 := 100) (p4 := 108) (p5 := 119) (by omega) (by omega) (by omega) (by omega) (by omega) (by omega)) (by decide) ?_
    refine o_bipush (k := 6) hx hb dX3_expectedBehindLetter_58 (by decide) ?_
    exact W.iret (v := nI 6) hx hb hrt (fun t ht hW => ⟨_, rfl, (congrArg nI (by unfold t_beh1; (repeat' split) <;> omega)), ht⟩) (fun _ h => nomatch h) dX3_expectedBehindLetter_60
