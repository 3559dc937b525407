theorem inX3_expectedBehind_X3 : ∀ w ∈ wsX30, w ∈ wsX3_expectedBehind := by decide +kernel
set_option maxHeartbeats 4000000 in
set_option maxRecDepth 100000 in
theorem k_X3_expectedBehind (l : Launch) (D : va_G) (cI cR cS cL : ClassId) (q : Nat → Nat) (x : Nat → Nat → Nat) (c : Nat) (hc : c < 2 ^ 31) (h2 : x 0 2 ≤ 6) : Met l yX3_expectedBehind wsX3_expectedBehind ({ frames := 1, cells := 0, slots := 0, locals := 21 }) (va_Pc [.ref (q 0), .int (nI c)] (o_R D (o_T cI cR cS cL) (wT q cI x))) (vp_Si (fun rz => rz = nI (t_beh (x 0 2) c))) 0 0 (fun _ => False) := by
  refine Met.ofW (cc := cX3_expectedBehind) (maxL := 3) (ret := (some .int)) (by decide) rfl ?_
  intro p e s m args below meth cd s₁ B hml hv
  obtain ⟨rfl, hP, hK, hN⟩ := hv
  have hx := B.exec
  have hb := B.bytes
  have hrt := B.returns
  have hts := atoms_spec (ws := wsX3_expectedBehind) B.pre
  have hown : s.vm.findClass RX3 = some m.cls := findClass_of_methodNamed B.named
  have hlocks := B.notSynchronized
  have hl := lv_entry ([.ref (q 0), .int (nI c)]) (n := 3) (Nat.le_of_ble_eq_true rfl)
  rw [lg_entry_eq]
  generalize (lg_sl ([.ref (q 0), .int (nI c)]) ++ List.replicate (3 - (lg_sl ([.ref (q 0), .int (nI c)])).length) Slot.unset).toArray = ls at hl ⊢
  have hl : lv_has ls 3 [(0, .ref (q 0)), (1, .int (nI c))] := hl
  refine lv_iload_n hx hb dX3_expectedBehind_0 rfl (lv_at hl 1 rfl) ?_
  refine o_bipush (k := 48) hx hb dX3_expectedBehind_1 (by decide) ?_
  refine lv_isub hx hb dX3_expectedBehind_3 ?_
  refine o_ti (m_ng_eq (by omega) (by omega)) ?_
  have hng := m_ng_or c 48
  refine lv_istore_n (lv' := [(2, .int (nI (m_ng c 48))), (0, .ref (q 0)), (1, .int (nI c))]) hx hb dX3_expectedBehind_4 rfl hl (by decide) rfl (fun ls hl => ?_)
  refine lv_aload_n hx hb dX3_expectedBehind_5 rfl (lv_at hl 1 rfl) ?_
  refine va_get (D := D) (ci := 3) (v := .int (nI (x 0 2))) (C := RX3) (T := TX3) (N := 4) hx hb hts inX3_expectedBehind_X3 hown hK hP 0 rfl rfl 2 (by decide) (hts (.fieldLink RX3 11 "OddNotice$Text" "expected" "I") (List.mem_of_getElem? (i := 1) (by decide +kernel))) (fun _ h9 => h9) rfl dX3_expectedBehind_6 ?_
  rcases (show (x 0 2) = 0 ∨ (x 0 2) = 1 ∨ (x 0 2) = 2 ∨ (x 0 2) = 3 ∨ (x 0 2) = 4 ∨ (x 0 2) = 5 ∨ (¬ (x 0 2) = 0 ∧ ¬ (x 0 2) = 1 ∧ ¬ (x 0 2) = 2 ∧ ¬ (x 0 2) = 3 ∧ ¬ (x 0 2) = 4 ∧ ¬ (x 0 2) = 5) by omega) with hz_1 | hz_1 | hz_1 | hz_1 | hz_1 | hz_1 | hz_1
  · skip
    refine o_ti (show nI (x 0 2) = nI 0 from by rw [hz_1]) ?_
    refine lv_tableIn (tgt := 48) (off := 39) hx hb dX3_expectedBehind_9 (by decide) (by decide) (by decide) (by decide) ?_
    refine lv_iload_n hx hb dX3_expectedBehind_48 rfl (lv_at hl 2 rfl) ?_
    refine o_ri (va_runS (As := [.int (nI c)]) (rest := []) ⟨hx, hb, hml, hown, hts⟩ (k_X3_expectedBehindLetter l D cI cR cS cL c (by show c < 2 ^ 31; first | assumption | omega)) (va_cwS 1 hts gX3_expectedBehind_X3_expectedBehindLetter rfl rfl rfl (by decide +kernel) ⟨Nat.le_of_ble_eq_true rfl, Nat.le_of_ble_eq_true rfl⟩) (o_pR hK hN (hP.sub (ws' := []) [] rfl)) rfl rfl hl.1 rfl (lv_room (Nat.le_of_ble_eq_true rfl)) dX3_expectedBehind_49 ⟨Nat.zero_le _, Nat.zero_le _⟩) (fun r_3 e_2 => ?_)
    have e_2 : r_3 = nI (t_beh1 c) := e_2
    subst e_2
    exact W.iret (v := nI (t_beh1 c)) hx hb hrt (fun t ht hW => ⟨_, rfl, (congrArg nI (by unfold t_beh; (repeat' split) <;> omega)), ht⟩) (fun _ h => nomatch h) dX3_expectedBehind_52
  · skip
    refine o_ti (show nI (x 0 2) = nI 1 from by rw [hz_1]) ?_
    refine lv_tableIn (tgt := 53) (off := 44) hx hb dX3_expectedBehind_9 (by decide) (by decide) (by decide) (by decide) ?_
    refine lv_iload_n hx hb dX3_expectedBehind_53 rfl (lv_at hl 0 rfl) ?_
    refine o_const (k := 3) hx hb dX3_expectedBehind_54 (by decide) ?_
    refine o_ri (va_runSN (As := [.int (nI (m_ng c 48)), .int (nI 3)]) (rest := []) ⟨hx, hb, hml, hown, hts⟩ (k_X4_isBelow l D cI cR cS cL (m_ng c 48) 3 (by show (m_ng c 48) < 2 ^ 32; first | assumption | omega) (by show 3 < 2 ^ 31; first | assumption | omega)) ⟨va_cnB 2 hts gX3_expectedBehind_X4_isBelow_n32 rfl rfl rfl hN.1 (hts (.initialized RX4) (List.mem_of_getElem? (i := 7) (by decide +kernel))) (by decide +kernel) ⟨Nat.le_of_ble_eq_true rfl, Nat.le_of_ble_eq_true rfl⟩, (hts (.static yX4_isBelow) (List.mem_of_getElem? (i := 6) (by decide +kernel))), trivial⟩ (o_pR hK hN (hP.sub (ws' := []) [] rfl)) rfl rfl hl.1 rfl (lv_room (Nat.le_of_ble_eq_true rfl)) dX3_expectedBehind_55 ⟨Nat.zero_le _, Nat.zero_le _⟩) (fun r_5 e_4 => ?_)
    have e_4 : r_5 = nI (bn ((m_ng c 48) < 3)) := e_4
    subst e_4
    refine o_ifz (tgt := 65) hx hb dX3_expectedBehind_58 (by decide) (fun c_6 => ?_) (fun c_6 => ?_)
    · skip
      refine o_bipush (k := 6) hx hb dX3_expectedBehind_65 (by decide) ?_
      exact W.iret (v := nI 6) hx hb hrt (fun t ht hW => ⟨_, rfl, (congrArg nI (by unfold t_beh; (repeat' split) <;> omega)), ht⟩) (fun _ h => nomatch h) dX3_expectedBehind_67
    · skip
      refine o_const (k := 0) hx hb dX3_expectedBehind_61 (by decide) ?_
      refine lv_goto (tgt := 67) hx hb dX3_expectedBehind_62 (by decide) ?_
      exact W.iret (v := nI 0) hx hb hrt (fun t ht hW => ⟨_, rfl, (congrArg nI (by unfold t_beh; (repeat' split) <;> omega)), ht⟩) (fun _ h => nomatch h) dX3_expectedBehind_67
  · skip
    refine o_ti (show nI (x 0 2) = nI 2 from by rw [hz_1]) ?_
    refine lv_tableIn (tgt := 68) (off := 59) hx hb dX3_expectedBehind_9 (by decide) (by decide) (by decide) (by decide) ?_
    refine lv_iload_n hx hb dX3_expectedBehind_68 rfl (lv_at hl 0 rfl) ?_
    refine o_const (k := 4) hx hb dX3_expectedBehind_69 (by decide) ?_
    refine o_ri (va_runSN (As := [.int (nI (m_ng c 48)), .int (nI 4)]) (rest := []) ⟨hx, hb, hml, hown, hts⟩ (k_X4_isBelow l D cI cR cS cL (m_ng c 48) 4 (by show (m_ng c 48) < 2 ^ 32; first | assumption | omega) (by show 4 < 2 ^ 31; first | assumption | omega)) ⟨va_cnB 2 hts gX3_expectedBehind_X4_isBelow_n32 rfl rfl rfl hN.1 (hts (.initialized RX4) (List.mem_of_getElem? (i := 7) (by decide +kernel))) (by decide +kernel) ⟨Nat.le_of_ble_eq_true rfl, Nat.le_of_ble_eq_true rfl⟩, (hts (.static yX4_isBelow) (List.mem_of_getElem? (i := 6) (by decide +kernel))), trivial⟩ (o_pR hK hN (hP.sub (ws' := []) [] rfl)) rfl rfl hl.1 rfl (lv_room (Nat.le_of_ble_eq_true rfl)) dX3_expectedBehind_70 ⟨Nat.zero_le _, Nat.zero_le _⟩) (fun r_8 e_7 => ?_)
    have e_7 : r_8 = nI (bn ((m_ng c 48) < 4)) := e_7
    subst e_7
    refine o_ifz (tgt := 80) hx hb dX3_expectedBehind_73 (by decide) (fun c_9 => ?_) (fun c_9 => ?_)
    · skip
      refine o_bipush (k := 6) hx hb dX3_expectedBehind_80 (by decide) ?_
      exact W.iret (v := nI 6) hx hb hrt (fun t ht hW => ⟨_, rfl, (congrArg nI (by unfold t_beh; (repeat' split) <;> omega)), ht⟩) (fun _ h => nomatch h) dX3_expectedBehind_82
    · skip
      refine o_const (k := 0) hx hb dX3_expectedBehind_76 (by decide) ?_
      refine lv_goto (tgt := 82) hx hb dX3_expectedBehind_77 (by decide) ?_
      exact W.iret (v := nI 0) hx hb hrt (fun t ht hW => ⟨_, rfl, (congrArg nI (by unfold t_beh; (repeat' split) <;> omega)), ht⟩) (fun _ h => nomatch h) dX3_expectedBehind_82
  · skip
    refine o_ti (show nI (x 0 2) = nI 3 from by rw [hz_1]) ?_
    refine lv_tableIn (tgt := 83) (off := 74) hx hb dX3_expectedBehind_9 (by decide) (by decide) (by decide) (by decide) ?_
    refine lv_iload_n hx hb dX3_expectedBehind_83 rfl (lv_at hl 0 rfl) ?_
    refine o_const (k := 5) hx hb dX3_expectedBehind_84 (by decide) ?_
    refine o_ri (va_runSN (As := [.int (nI (m_ng c 48)), .int (nI 5)]) (rest := []) ⟨hx, hb, hml, hown, hts⟩ (k_X4_isBelow l D cI cR cS cL (m_ng c 48) 5 (by show (m_ng c 48) < 2 ^ 32; first | assumption | omega) (by show 5 < 2 ^ 31; first | assumption | omega)) ⟨va_cnB 2 hts gX3_expectedBehind_X4_isBelow_n32 rfl rfl rfl hN.1 (hts (.initialized RX4) (List.mem_of_getElem? (i := 7) (by decide +kernel))) (by decide +kernel) ⟨Nat.le_of_ble_eq_true rfl, Nat.le_of_ble_eq_true rfl⟩, (hts (.static yX4_isBelow) (List.mem_of_getElem? (i := 6) (by decide +kernel))), trivial⟩ (o_pR hK hN (hP.sub (ws' := []) [] rfl)) rfl rfl hl.1 rfl (lv_room (Nat.le_of_ble_eq_true rfl)) dX3_expectedBehind_85 ⟨Nat.zero_le _, Nat.zero_le _⟩) (fun r_11 e_10 => ?_)
    have e_10 : r_11 = nI (bn ((m_ng c 48) < 5)) := e_10
    subst e_10
    refine o_ifz (tgt := 95) hx hb dX3_expectedBehind_88 (by decide) (fun c_12 => ?_) (fun c_12 => ?_)
    · skip
      refine o_bipush (k := 6) hx hb dX3_expectedBehind_95 (by decide) ?_
      exact W.iret (v := nI 6) hx hb hrt (fun t ht hW => ⟨_, rfl, (congrArg nI (by unfold t_beh; (repeat' split) <;> omega)), ht⟩) (fun _ h => nomatch h) dX3_expectedBehind_97
    · skip
      refine o_const (k := 4) hx hb dX3_expectedBehind_91 (by decide) ?_
      refine lv_goto (tgt := 97) hx hb dX3_expectedBehind_92 (by decide) ?_
      exact W.iret (v := nI 4) hx hb hrt (fun t ht hW => ⟨_, rfl, (congrArg nI (by unfold t_beh; (repeat' split) <;> omega)), ht⟩) (fun _ h => nomatch h) dX3_expectedBehind_97
  · skip
    refine o_ti (show nI (x 0 2) = nI 4 from by rw [hz_1]) ?_
    refine lv_tableIn (tgt := 98) (off := 89) hx hb dX3_expectedBehind_9 (by decide) (by decide) (by decide) (by decide) ?_
    refine lv_iload_n hx hb dX3_expectedBehind_98 rfl (lv_at hl 0 rfl) ?_
    refine o_bipush (k := 10) hx hb dX3_expectedBehind_99 (by decide) ?_
    refine o_ri (va_runSN (As := [.int (nI (m_ng c 48)), .int (nI 10)]) (rest := []) ⟨hx, hb, hml, hown, hts⟩ (k_X4_isBelow l D cI cR cS cL (m_ng c 48) 10 (by show (m_ng c 48) < 2 ^ 32; first | assumption | omega) (by show 10 < 2 ^ 31; first | assumption | omega)) ⟨va_cnB 2 hts gX3_expectedBehind_X4_isBelow_n32 rfl rfl rfl hN.1 (hts (.initialized RX4) (List.mem_of_getElem? (i := 7) (by decide +kernel))) (by decide +kernel) ⟨Nat.le_of_ble_eq_true rfl, Nat.le_of_ble_eq_true rfl⟩, (hts (.static yX4_isBelow) (List.mem_of_getElem? (i := 6) (by decide +kernel))), trivial⟩ (o_pR hK hN (hP.sub (ws' := []) [] rfl)) rfl rfl hl.1 rfl (lv_room (Nat.le_of_ble_eq_true rfl)) dX3_expectedBehind_101 ⟨Nat.zero_le _, Nat.zero_le _⟩) (fun r_14 e_13 => ?_)
    have e_13 : r_14 = nI (bn ((m_ng c 48) < 10)) := e_13
    subst e_13
    refine o_ifz (tgt := 111) hx hb dX3_expectedBehind_104 (by decide) (fun c_15 => ?_) (fun c_15 => ?_)
    · skip
      refine o_bipush (k := 6) hx hb dX3_expectedBehind_111 (by decide) ?_
      exact W.iret (v := nI 6) hx hb hrt (fun t ht hW => ⟨_, rfl, (congrArg nI (by unfold t_beh; (repeat' split) <;> omega)), ht⟩) (fun _ h => nomatch h) dX3_expectedBehind_113
    · skip
      refine o_const (k := 5) hx hb dX3_expectedBehind_107 (by decide) ?_
      refine lv_goto (tgt := 113) hx hb dX3_expectedBehind_108 (by decide) ?_
      exact W.iret (v := nI 5) hx hb hrt (fun t ht hW => ⟨_, rfl, (congrArg nI (by unfold t_beh; (repeat' split) <;> omega)), ht⟩) (fun _ h => nomatch h) dX3_expectedBehind_113
  · skip
    refine o_ti (show nI (x 0 2) = nI 5 from by rw [hz_1]) ?_
    refine lv_tableIn (tgt := 114) (off := 105) hx hb dX3_expectedBehind_9 (by decide) (by decide) (by decide) (by decide) ?_
    refine lv_iload_n hx hb dX3_expectedBehind_114 rfl (lv_at hl 0 rfl) ?_
    refine o_bipush (k := 10) hx hb dX3_expectedBehind_115 (by decide) ?_
    refine o_ri (va_runSN (As := [.int (nI (m_ng c 48)), .int (nI 10)]) (rest := []) ⟨hx, hb, hml, hown, hts⟩ (k_X4_isBelow l D cI cR cS cL (m_ng c 48) 10 (by show (m_ng c 48) < 2 ^ 32; first | assumption | omega) (by show 10 < 2 ^ 31; first | assumption | omega)) ⟨va_cnB 2 hts gX3_expectedBehind_X4_isBelow_n32 rfl rfl rfl hN.1 (hts (.initialized RX4) (List.mem_of_getElem? (i := 7) (by decide +kernel))) (by decide +kernel) ⟨Nat.le_of_ble_eq_true rfl, Nat.le_of_ble_eq_true rfl⟩, (hts (.static yX4_isBelow) (List.mem_of_getElem? (i := 6) (by decide +kernel))), trivial⟩ (o_pR hK hN (hP.sub (ws' := []) [] rfl)) rfl rfl hl.1 rfl (lv_room (Nat.le_of_ble_eq_true rfl)) dX3_expectedBehind_117 ⟨Nat.zero_le _, Nat.zero_le _⟩) (fun r_17 e_16 => ?_)
    have e_16 : r_17 = nI (bn ((m_ng c 48) < 10)) := e_16
    subst e_16
    refine o_ifz (tgt := 127) hx hb dX3_expectedBehind_120 (by decide) (fun c_18 => ?_) (fun c_18 => ?_)
    · skip
      refine o_bipush (k := 6) hx hb dX3_expectedBehind_127 (by decide) ?_
      exact W.iret (v := nI 6) hx hb hrt (fun t ht hW => ⟨_, rfl, (congrArg nI (by unfold t_beh; (repeat' split) <;> omega)), ht⟩) (fun _ h => nomatch h) dX3_expectedBehind_129
    · skip
      refine o_const (k := 0) hx hb dX3_expectedBehind_123 (by decide) ?_
      refine lv_goto (tgt := 129) hx hb dX3_expectedBehind_124 (by decide) ?_
      exact W.iret (v := nI 0) hx hb hrt (fun t ht hW => ⟨_, rfl, (congrArg nI (by unfold t_beh; (repeat' split) <;> omega)), ht⟩) (fun _ h => nomatch h) dX3_expectedBehind_129
  · skip
    refine lv_tableOut (tgt := 130) hx hb dX3_expectedBehind_9 (o_out (hi := 5) rfl (by omega) (by omega)) (by decide) ?_
    refine o_bipush (k := 6) hx hb dX3_expectedBehind_130 (by decide) ?_
    exact W.iret (v := nI 6) hx hb hrt (fun t ht hW => ⟨_, rfl, (congrArg nI (by unfold t_beh; (repeat' split) <;> omega)), ht⟩) (fun _ h => nomatch h) dX3_expectedBehind_132
theorem inX3_add_X3 : ∀ w ∈ wsX30, w ∈ wsX3_add := by decide +kernel
set_option maxHeartbeats 4000000 in
set_option maxRecDepth 100000 in
theorem k_X3_add (l : Launch) (D : va_G) (cI cR cS cL : ClassId) (sz : Nat) (q : Nat → Nat) (x : Nat → Nat → Nat) (c : Nat) (hc : c < 2 ^ 31) (h0 : x 0 0 < 60) (h2 : x 0 2 ≤ 6) : Met l yX3_add wsX3_add ({ frames := 2, cells := 0, slots := 0, locals := 43 }) (va_Pc [.ref (q 0), .int (nI c)] (o_B D (o_T cI cR cS cL) (wT q cI x) sz)) (va_Qv (fun (_ : Unit) => True) (fun (_ : Unit) t => va_P D vwCl (wT q cI (t_add x c)) t.heap) (va_A (wT q cI x) sz)) 0 0 (va_A (wT q cI x) sz) := by
  refine Met.ofW (cc := cX3_add) (maxL := 2) (ret := none) (by decide) rfl ?_
  intro p e s m args below meth cd s₁ B hml hv
  obtain ⟨rfl, hsz, hP, hK, hD0, hN⟩ := hv
  have hx := B.exec
  have hb := B.bytes
  have hrt := B.returns
  have hts := atoms_spec (ws := wsX3_add) B.pre
  have hown : s.vm.findClass RX3 = some m.cls := findClass_of_methodNamed B.named
  have hlocks := B.notSynchronized
  subst hsz
  have hD := hD0.self (sz := s.heap.size)
  generalize hAe : va_A (wT q cI x) s.heap.size = A at hD ⊢
  have hA : ∀ q : Nat, s.heap.size ≤ q → A q := fun q h => by rw [← hAe]; exact Or.inr h
  have hS : va_S A s.heap s.heap [] := va_S.rf
  have hl := lv_entry ([.ref (q 0), .int (nI c)]) (n := 2) (Nat.le_of_ble_eq_true rfl)
  rw [lg_entry_eq]
  generalize (lg_sl ([.ref (q 0), .int (nI c)]) ++ List.replicate (2 - (lg_sl ([.ref (q 0), .int (nI c)])).length) Slot.unset).toArray = ls at hl ⊢
  have hl : lv_has ls 2 [(0, .ref (q 0)), (1, .int (nI c))] := hl
  refine lv_aload_n hx hb dX3_add_0 rfl (lv_at hl 0 rfl) ?_
  refine va_get (D := D) (ci := 3) (v := .int (nI (x 0 0))) (C := RX3) (T := TX3) (N := 4) hx hb hts inX3_add_X3 hown hK hP 0 rfl rfl 0 (by decide) (hts (.fieldLink RX3 19 "OddNotice$Text" "length" "I") (List.mem_of_getElem? (i := 1) (by decide +kernel))) (fun _ h9 => h9) rfl dX3_add_1 ?_
  refine o_bipush (k := 60) hx hb dX3_add_4 (by decide) ?_
  refine o_icmp_lt (tgt := 10) hx hb dX3_add_6 (by decide) (by omega) (Nat.le_of_ble_eq_true rfl) (fun c_1 => ?_) (fun c_1 => ?_)
  · skip
    refine lv_aload_n hx hb dX3_add_10 rfl (lv_at hl 0 rfl) ?_
    refine va_get (D := D) (ci := 3) (v := .ref (q 1)) (C := RX3) (T := TX3) (N := 4) hx hb hts inX3_add_X3 hown hK hP 0 rfl rfl 3 (by decide) (hts (.fieldLink RX3 15 "OddNotice$Text" "codes" "[I") (List.mem_of_getElem? (i := 2) (by decide +kernel))) (fun _ h9 => h9) rfl dX3_add_11 ?_
    refine lv_aload_n hx hb dX3_add_14 rfl (lv_at hl 0 rfl) ?_
    refine va_get (D := D) (ci := 3) (v := .int (nI (x 0 0))) (C := RX3) (T := TX3) (N := 4) hx hb hts inX3_add_X3 hown hK hP 0 rfl rfl 0 (by decide) (hts (.fieldLink RX3 19 "OddNotice$Text" "length" "I") (List.mem_of_getElem? (i := 1) (by decide +kernel))) (fun _ h9 => h9) rfl dX3_add_15 ?_
    refine lv_iload_n hx hb dX3_add_18 rfl (lv_at hl 1 rfl) ?_
    refine o_iast (g := (x 1)) hx hb hK hP hD hS 1 0 rfl rfl (by omega) (Nat.le_of_ble_eq_true rfl) dX3_add_19 (fun H locs hP hD hS => ?_)
    have hP : va_P D vwCl (wT q cI (va_up x 1 (va_up (x 1) (x 0 0) c))) H := hP
    have hD : va_D A (wT q cI (va_up x 1 (va_up (x 1) (x 0 0) c))) := hD
    refine lv_aload_n hx hb dX3_add_20 rfl (lv_at hl 0 rfl) ?_
    refine lv_dup hx hb dX3_add_21 rfl ?_
    refine va_get (D := D) (ci := 3) (v := .int (nI (x 0 0))) (C := RX3) (T := TX3) (N := 4) hx hb hts inX3_add_X3 hown hK hP 0 rfl rfl 0 (by decide) (hts (.fieldLink RX3 19 "OddNotice$Text" "length" "I") (List.mem_of_getElem? (i := 1) (by decide +kernel))) (fun _ h9 => h9) rfl dX3_add_22 ?_
    refine o_const (k := 1) hx hb dX3_add_25 (by decide) ?_
    refine o_iadd (a := (x 0 0)) (b := 1) (k := ((x 0 0) + 1)) hx hb dX3_add_26 rfl ?_
    refine va_put (D := D) (ci := 3) (v := .int (nI ((x 0 0) + 1))) (ty := .int) (C := RX3) (T := TX3) (N := 4) hx hb hts inX3_add_X3 tyX3 tyX3_ok nmX3 hown hK hP hD hS 0 rfl rfl 0 (by decide) (hts (.fieldLink RX3 19 "OddNotice$Text" "length" "I") (List.mem_of_getElem? (i := 1) (by decide +kernel))) (fun _ h9 => h9) rfl (by decide +kernel) rfl rfl (Nat.le_of_ble_eq_true rfl) dX3_add_27 (fun H locs hP hD hS => ?_)
    have hP : va_P D vwCl (wT q cI (va_up (va_up x 0 (va_up (x 0) 0 ((x 0 0) + 1))) 1 (va_up (x 1) (x 0 0) c))) H := hP
    have hD : va_D A (wT q cI (va_up (va_up x 0 (va_up (x 0) 0 ((x 0 0) + 1))) 1 (va_up (x 1) (x 0 0) c))) := hD
    refine lv_aload_n hx hb dX3_add_30 rfl (lv_at hl 0 rfl) ?_
    refine lv_aload_n hx hb dX3_add_31 rfl (lv_at hl 0 rfl) ?_
    refine lv_iload_n hx hb dX3_add_32 rfl (lv_at hl 1 rfl) ?_
    refine o_ri (va_runV (As := [.int (nI c)]) (rest := [.ref (q 0)]) ⟨hx, hb, hml, hown, hts⟩ (k_X3_expectedBehind l D cI cR cS cL q (va_up (va_up x 0 (va_up (x 0) 0 ((x 0 0) + 1))) 1 (va_up (x 1) (x 0 0) c)) c (by show c < 2 ^ 31; first | assumption | omega) (by show x 0 2 ≤ 6; first | assumption | omega)) (cwV 1 hts gX3_add_X3_expectedBehind rfl rfl rfl (by decide +kernel) ⟨Nat.le_of_ble_eq_true rfl, Nat.le_of_ble_eq_true rfl⟩) (o_v (o_pR hK hN hP) (va_recv hK hP (ci := 3) (q0 := 0) rfl rfl)) rfl rfl hl.1 rfl (lv_room (Nat.le_of_ble_eq_true rfl)) dX3_add_33 ⟨Nat.zero_le _, Nat.zero_le _⟩) (fun r_3 e_2 => ?_)
    have e_2 : r_3 = nI (t_beh (x 0 2) c) := e_2
    subst e_2
    have gv_4 := t_beh_le (x 0 2) c
    refine va_put (D := D) (ci := 3) (v := .int (nI (t_beh (x 0 2) c))) (ty := .int) (C := RX3) (T := TX3) (N := 4) hx hb hts inX3_add_X3 tyX3 tyX3_ok nmX3 hown hK hP hD hS 0 rfl rfl 2 (by decide) (hts (.fieldLink RX3 11 "OddNotice$Text" "expected" "I") (List.mem_of_getElem? (i := 3) (by decide +kernel))) (fun _ h9 => h9) rfl (by decide +kernel) rfl rfl (Nat.le_of_ble_eq_true rfl) dX3_add_36 (fun H locs hP hD hS => ?_)
    have hP : va_P D vwCl (wT q cI (va_up (va_up x 0 (va_up (va_up (x 0) 0 ((x 0 0) + 1)) 2 (t_beh (x 0 2) c))) 1 (va_up (x 1) (x 0 0) c))) H := hP
    have hD : va_D A (wT q cI (va_up (va_up x 0 (va_up (va_up (x 0) 0 ((x 0 0) + 1)) 2 (t_beh (x 0 2) c))) 1 (va_up (x 1) (x 0 0) c))) := hD
    refine lv_aload_n hx hb dX3_add_39 rfl (lv_at hl 0 rfl) ?_
    refine va_get (D := D) (ci := 3) (v := .int (nI (t_beh (x 0 2) c))) (C := RX3) (T := TX3) (N := 4) hx hb hts inX3_add_X3 hown hK hP 0 rfl rfl 2 (by decide) (hts (.fieldLink RX3 11 "OddNotice$Text" "expected" "I") (List.mem_of_getElem? (i := 3) (by decide +kernel))) (fun _ h9 => h9) rfl dX3_add_40 ?_
    refine o_bipush (k := 6) hx hb dX3_add_43 (by decide) ?_
    refine o_icmp_eq (tgt := 58) hx hb dX3_add_45 (by decide) (by omega) (Nat.le_of_ble_eq_true rfl) (fun c_5 => ?_) (fun c_5 => ?_)
    · skip
      have w_6 : (wT q cI (t_add x c)) = (wT q cI (va_up (va_up x 0 (va_up (va_up (x 0) 0 ((x 0 0) + 1)) 2 (t_beh (x 0 2) c))) 1 (va_up (x 1) (x 0 0) c))) := (by unfold t_add; rw [if_pos c_5]; first | done | rfl)
      rw [← w_6] at hP
      exact W.vret hx hb hrt (fun t ht hW => ⟨⟨(), rfl, trivial, by show va_P D vwCl _ t.heap; rw [ht]; exact hP⟩, hS.F ht⟩) hS.2.2 dX3_add_58
    · skip
      refine lv_aload_n hx hb dX3_add_48 rfl (lv_at hl 0 rfl) ?_
      refine lv_dup hx hb dX3_add_49 rfl ?_
      refine va_get (D := D) (ci := 3) (v := .int (nI (x 0 1))) (C := RX3) (T := TX3) (N := 4) hx hb hts inX3_add_X3 hown hK hP 0 rfl rfl 1 (by decide) (hts (.fieldLink RX3 26 "OddNotice$Text" "rightLength" "I") (List.mem_of_getElem? (i := 4) (by decide +kernel))) (fun _ h9 => h9) rfl dX3_add_50 ?_
      refine o_const (k := 1) hx hb dX3_add_53 (by decide) ?_
      refine o_iadd (a := (x 0 1)) (b := 1) (k := ((x 0 1) + 1)) hx hb dX3_add_54 rfl ?_
      refine va_put (D := D) (ci := 3) (v := .int (nI ((x 0 1) + 1))) (ty := .int) (C := RX3) (T := TX3) (N := 4) hx hb hts inX3_add_X3 tyX3 tyX3_ok nmX3 hown hK hP hD hS 0 rfl rfl 1 (by decide) (hts (.fieldLink RX3 26 "OddNotice$Text" "rightLength" "I") (List.mem_of_getElem? (i := 4) (by decide +kernel))) (fun _ h9 => h9) rfl (by decide +kernel) rfl rfl (Nat.le_of_ble_eq_true rfl) dX3_add_55 (fun H locs hP hD hS => ?_)
      have hP : va_P D vwCl (wT q cI (va_up (va_up x 0 (va_up (va_up (va_up (x 0) 0 ((x 0 0) + 1)) 1 ((x 0 1) + 1)) 2 (t_beh (x 0 2) c))) 1 (va_up (x 1) (x 0 0) c))) H := hP
      have hD : va_D A (wT q cI (va_up (va_up x 0 (va_up (va_up (va_up (x 0) 0 ((x 0 0) + 1)) 1 ((x 0 1) + 1)) 2 (t_beh (x 0 2) c))) 1 (va_up (x 1) (x 0 0) c))) := hD
      have w_7 : (wT q cI (t_add x c)) = (wT q cI (va_up (va_up x 0 (va_up (va_up (va_up (x 0) 0 ((x 0 0) + 1)) 1 ((x 0 1) + 1)) 2 (t_beh (x 0 2) c))) 1 (va_up (x 1) (x 0 0) c))) := (by unfold t_add; rw [if_neg c_5]; first | done | rfl)
      rw [← w_7] at hP
      exact W.vret hx hb hrt (fun t ht hW => ⟨⟨(), rfl, trivial, by show va_P D vwCl _ t.heap; rw [ht]; exact hP⟩, hS.F ht⟩) hS.2.2 dX3_add_58
  · skip
    have w_8 : (wT q cI (t_add x c)) = (wT q cI x) := (by exfalso; omega)
    rw [← w_8] at hP
    exact W.vret hx hb hrt (fun t ht hW => ⟨⟨(), rfl, trivial, by show va_P D vwCl _ t.heap; rw [ht]; exact hP⟩, hS.F ht⟩) hS.2.2 dX3_add_9
theorem inX3_empty_X3 : ∀ w ∈ wsX30, w ∈ wsX3_empty := by decide +kernel
set_option maxHeartbeats 4000000 in
set_option maxRecDepth 100000 in
theorem k_X3_empty (l : Launch) (D : va_G) (cI cR cS cL : ClassId) (sz : Nat) (q : Nat → Nat) (x : Nat → Nat → Nat) : Met l yX3_empty wsX3_empty ({ frames := 0, cells := 0, slots := 0, locals := 0 }) (va_Pc [.ref (q 0)] (o_B D (o_T cI cR cS cL) (wT q cI x) sz)) (va_Qv (fun (_ : Unit) => True) (fun (_ : Unit) t => va_P D vwCl (wT q cI (t_empty x)) t.heap) (va_A (wT q cI x) sz)) 0 0 (va_A (wT q cI x) sz) := by
  refine Met.ofW (cc := cX3_empty) (maxL := 1) (ret := none) (by decide) rfl ?_
  intro p e s m args below meth cd s₁ B hml hv
  obtain ⟨rfl, hsz, hP, hK, hD0, hN⟩ := hv
  have hx := B.exec
  have hb := B.bytes
  have hrt := B.returns
  have hts := atoms_spec (ws := wsX3_empty) B.pre
  have hown : s.vm.findClass RX3 = some m.cls := findClass_of_methodNamed B.named
  have hlocks := B.notSynchronized
  subst hsz
  have hD := hD0.self (sz := s.heap.size)
  generalize hAe : va_A (wT q cI x) s.heap.size = A at hD ⊢
  have hA : ∀ q : Nat, s.heap.size ≤ q → A q := fun q h => by rw [← hAe]; exact Or.inr h
  have hS : va_S A s.heap s.heap [] := va_S.rf
  have hl := lv_entry ([.ref (q 0)]) (n := 1) (Nat.le_of_ble_eq_true rfl)
  rw [lg_entry_eq]
  generalize (lg_sl ([.ref (q 0)]) ++ List.replicate (1 - (lg_sl ([.ref (q 0)])).length) Slot.unset).toArray = ls at hl ⊢
  have hl : lv_has ls 1 [(0, .ref (q 0))] := hl
  refine lv_aload_n hx hb dX3_empty_0 rfl (lv_at hl 0 rfl) ?_
  refine o_const (k := 0) hx hb dX3_empty_1 (by decide) ?_
  refine va_put (D := D) (ci := 3) (v := .int (nI 0)) (ty := .int) (C := RX3) (T := TX3) (N := 4) hx hb hts inX3_empty_X3 tyX3 tyX3_ok nmX3 hown hK hP hD hS 0 rfl rfl 0 (by decide) (hts (.fieldLink RX3 19 "OddNotice$Text" "length" "I") (List.mem_of_getElem? (i := 1) (by decide +kernel))) (fun _ h9 => h9) rfl (by decide +kernel) rfl rfl (Nat.le_of_ble_eq_true rfl) dX3_empty_2 (fun H locs hP hD hS => ?_)
  have hP : va_P D vwCl (wT q cI (va_up x 0 (va_up (x 0) 0 0))) H := hP
  have hD : va_D A (wT q cI (va_up x 0 (va_up (x 0) 0 0))) := hD
  refine lv_aload_n hx hb dX3_empty_5 rfl (lv_at hl 0 rfl) ?_
  refine o_const (k := 0) hx hb dX3_empty_6 (by decide) ?_
  refine va_put (D := D) (ci := 3) (v := .int (nI 0)) (ty := .int) (C := RX3) (T := TX3) (N := 4) hx hb hts inX3_empty_X3 tyX3 tyX3_ok nmX3 hown hK hP hD hS 0 rfl rfl 1 (by decide) (hts (.fieldLink RX3 26 "OddNotice$Text" "rightLength" "I") (List.mem_of_getElem? (i := 2) (by decide +kernel))) (fun _ h9 => h9) rfl (by decide +kernel) rfl rfl (Nat.le_of_ble_eq_true rfl) dX3_empty_7 (fun H locs hP hD hS => ?_)
  have hP : va_P D vwCl (wT q cI (va_up x 0 (va_up (va_up (x 0) 0 0) 1 0))) H := hP
  have hD : va_D A (wT q cI (va_up x 0 (va_up (va_up (x 0) 0 0) 1 0))) := hD
  refine lv_aload_n hx hb dX3_empty_10 rfl (lv_at hl 0 rfl) ?_
  refine o_const (k := 0) hx hb dX3_empty_11 (by decide) ?_
  refine va_put (D := D) (ci := 3) (v := .int (nI 0)) (ty := .int) (C := RX3) (T := TX3) (N := 4) hx hb hts inX3_empty_X3 tyX3 tyX3_ok nmX3 hown hK hP hD hS 0 rfl rfl 2 (by decide) (hts (.fieldLink RX3 11 "OddNotice$Text" "expected" "I") (List.mem_of_getElem? (i := 3) (by decide +kernel))) (fun _ h9 => h9) rfl (by decide +kernel) rfl rfl (Nat.le_of_ble_eq_true rfl) dX3_empty_12 (fun H locs hP hD hS => ?_)
  have hP : va_P D vwCl (wT q cI (va_up x 0 (va_up (va_up (va_up (x 0) 0 0) 1 0) 2 0))) H := hP
  have hD : va_D A (wT q cI (va_up x 0 (va_up (va_up (va_up (x 0) 0 0) 1 0) 2 0))) := hD
  have w_1 : (wT q cI (t_empty x)) = (wT q cI (va_up x 0 (va_up (va_up (va_up (x 0) 0 0) 1 0) 2 0))) := rfl
  rw [← w_1] at hP
  exact W.vret hx hb hrt (fun t ht hW => ⟨⟨(), rfl, trivial, by show va_P D vwCl _ t.heap; rw [ht]; exact hP⟩, hS.F ht⟩) hS.2.2 dX3_empty_15
theorem inX3_isComplete_X3 : ∀ w ∈ wsX30, w ∈ wsX3_isComplete := by decide +kernel
set_option maxHeartbeats 4000000 in
set_option maxRecDepth 100000 in
theorem k_X3_isComplete (l : Launch) (D : va_G) (cI cR cS cL : ClassId) (q : Nat → Nat) (x : Nat → Nat → Nat) (h0 : x 0 0 ≤ 60) (h2 : x 0 2 ≤ 6) : Met l yX3_isComplete wsX3_isComplete ({ frames := 0, cells := 0, slots := 0, locals := 0 }) (va_Pc [.ref (q 0)] (o_R D (o_T cI cR cS cL) (wT q cI x))) (vp_Si (fun rz => rz = nI (bn (0 < x 0 0 ∧ x 0 2 = 0)))) 0 0 (fun _ => False) := by
  refine Met.ofW (cc := cX3_isComplete) (maxL := 1) (ret := (some .boolean)) (by decide) rfl ?_
  intro p e s m args below meth cd s₁ B hml hv
  obtain ⟨rfl, hP, hK, hN⟩ := hv
  have hx := B.exec
  have hb := B.bytes
  have hrt := B.returns
  have hts := atoms_spec (ws := wsX3_isComplete) B.pre
  have hown : s.vm.findClass RX3 = some m.cls := findClass_of_methodNamed B.named
  have hlocks := B.notSynchronized
  have hl := lv_entry ([.ref (q 0)]) (n := 1) (Nat.le_of_ble_eq_true rfl)
  rw [lg_entry_eq]
  generalize (lg_sl ([.ref (q 0)]) ++ List.replicate (1 - (lg_sl ([.ref (q 0)])).length) Slot.unset).toArray = ls at hl ⊢
  have hl : lv_has ls 1 [(0, .ref (q 0))] := hl
  refine lv_aload_n hx hb dX3_isComplete_0 rfl (lv_at hl 0 rfl) ?_
  refine va_get (D := D) (ci := 3) (v := .int (nI (x 0 0))) (C := RX3) (T := TX3) (N := 4) hx hb hts inX3_isComplete_X3 hown hK hP 0 rfl rfl 0 (by decide) (hts (.fieldLink RX3 19 "OddNotice$Text" "length" "I") (List.mem_of_getElem? (i := 1) (by decide +kernel))) (fun _ h9 => h9) rfl dX3_isComplete_1 ?_
  refine o_if_le (tgt := 18) hx hb dX3_isComplete_4 (by decide) (by omega) (fun c_1 => ?_) (fun c_1 => ?_)
  · skip
    refine o_const (k := 0) hx hb dX3_isComplete_18 (by decide) ?_
    exact W.zret (v := nI 0) hx hb hrt rfl (fun t ht hW => ⟨_, rfl, (congrArg nI (Eq.symm (bn_f (by omega)))), ht⟩) (fun _ h => nomatch h) dX3_isComplete_19
  · skip
    refine lv_aload_n hx hb dX3_isComplete_7 rfl (lv_at hl 0 rfl) ?_
    refine va_get (D := D) (ci := 3) (v := .int (nI (x 0 2))) (C := RX3) (T := TX3) (N := 4) hx hb hts inX3_isComplete_X3 hown hK hP 0 rfl rfl 2 (by decide) (hts (.fieldLink RX3 11 "OddNotice$Text" "expected" "I") (List.mem_of_getElem? (i := 2) (by decide +kernel))) (fun _ h9 => h9) rfl dX3_isComplete_8 ?_
    refine o_if_ne (tgt := 18) hx hb dX3_isComplete_11 (by decide) (by omega) (fun c_2 => ?_) (fun c_2 => ?_)
    · skip
      refine o_const (k := 0) hx hb dX3_isComplete_18 (by decide) ?_
      exact W.zret (v := nI 0) hx hb hrt rfl (fun t ht hW => ⟨_, rfl, (congrArg nI (Eq.symm (bn_f (by omega)))), ht⟩) (fun _ h => nomatch h) dX3_isComplete_19
    · skip
      refine o_const (k := 1) hx hb dX3_isComplete_14 (by decide) ?_
      refine lv_goto (tgt := 19) hx hb dX3_isComplete_15 (by decide) ?_
      exact W.zret (v := nI 1) hx hb hrt rfl (fun t ht hW => ⟨_, rfl, (congrArg nI (Eq.symm (bn_t (by omega)))), ht⟩) (fun _ h => nomatch h) dX3_isComplete_19
