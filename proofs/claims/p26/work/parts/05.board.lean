set_option maxHeartbeats 4000000 in
set_option maxRecDepth 100000 in
theorem k_J9_floorMod_7cf53 (l : Launch) (D : va_G) (cI cR cS cL : ClassId) (a : Nat) (b : Nat) (ha : a < 2 ^ 31) (h0 : 0 < b) (hb1 : b < 2 ^ 31) : Met l yJ9_floorMod_7cf53 wsJ9_floorMod_7cf53 ({ frames := 0, cells := 0, slots := 0, locals := 0 }) (va_Pc [.int (nI a), .int (nI b)] (o_R D (o_T cI cR cS cL) [])) (vp_Si (fun rz => rz = nI (a % b))) 0 0 (fun _ => False) := by
  refine va_MetF (cc := cJ9_floorMod_7cf53) (maxL := 3) (ret := (some .int)) (by decide +kernel) rfl ?_
  intro p e s m args below meth cd s₁ B hml hv
  obtain ⟨rfl, hP, hK, hN⟩ := hv
  have hx := B.exec
  have hb := B.bytes
  have hrt := B.returns
  have hts := atoms_spec (ws := wsJ9_floorMod_7cf53) B.pre
  have hown : s.vm.findClass RJ9 = some m.cls := findClass_of_methodNamed B.named
  have hlocks := B.notSynchronized
  have hl := lv_entry ([.int (nI a), .int (nI b)]) (n := 3) (Nat.le_of_ble_eq_true rfl)
  rw [lg_entry_eq]
  generalize (lg_sl ([.int (nI a), .int (nI b)]) ++ List.replicate (3 - (lg_sl ([.int (nI a), .int (nI b)])).length) Slot.unset).toArray = ls at hl ⊢
  have hl : lv_has ls 3 [(0, .int (nI a)), (1, .int (nI b))] := hl
  refine lv_iload_n hx hb dJ9_floorMod_7cf53_0 rfl (lv_at hl 0 rfl) ?_
  refine lv_iload_n hx hb dJ9_floorMod_7cf53_1 rfl (lv_at hl 1 rfl) ?_
  refine o_irem (a := a) (b := b) (k := (a % b)) hx hb dJ9_floorMod_7cf53_2 (by omega) (by omega) (by omega) rfl ?_
  refine lv_istore_n (lv' := [(2, .int (nI (a % b))), (0, .int (nI a)), (1, .int (nI b))]) hx hb dJ9_floorMod_7cf53_3 rfl hl (by decide) rfl (fun ls hl => ?_)
  refine lv_iload_n hx hb dJ9_floorMod_7cf53_4 rfl (lv_at hl 1 rfl) ?_
  refine lv_iload_n hx hb dJ9_floorMod_7cf53_5 rfl (lv_at hl 2 rfl) ?_
  refine lv_ixor hx hb dJ9_floorMod_7cf53_6 ?_
  refine lv_if_ge (tgt := 18) hx hb dJ9_floorMod_7cf53_7 (by decide) (fun _ => ?_) (fun c0 => absurd c0 (fun h => h (o_xor ha hb1)))
  refine lv_iload_n hx hb dJ9_floorMod_7cf53_18 rfl (lv_at hl 0 rfl) ?_
  exact W.iret (v := nI (a % b)) hx hb hrt (fun t ht hW => ⟨_, rfl, rfl, ht⟩) (fun _ h => nomatch h) dJ9_floorMod_7cf53_19
theorem inX0_isOdd_X0 : ∀ w ∈ wsX00, w ∈ wsX0_isOdd := by decide +kernel
set_option maxHeartbeats 4000000 in
set_option maxRecDepth 100000 in
theorem k_X0_isOdd (l : Launch) (D : va_G) (cI cR cS cL : ClassId) (q : Nat → Nat) (v : Nat → Nat → Nat) (hn : v 0 0 < 2 ^ 31) : Met l yX0_isOdd wsX0_isOdd ({ frames := 0, cells := 0, slots := 0, locals := 0 }) (va_Pc [.ref (q 0)] (o_R D (o_T cI cR cS cL) (wB q cI v))) (vp_Si (fun rz => rz = nI (bn (v 0 0 % 2 = 1)))) 0 0 (fun _ => False) := by
  refine Met.ofW (cc := cX0_isOdd) (maxL := 1) (ret := (some .boolean)) (by decide) rfl ?_
  intro p e s m args below meth cd s₁ B hml hv
  obtain ⟨rfl, hP, hK, hN⟩ := hv
  have hx := B.exec
  have hb := B.bytes
  have hrt := B.returns
  have hts := atoms_spec (ws := wsX0_isOdd) B.pre
  have hown : s.vm.findClass RX0 = some m.cls := findClass_of_methodNamed B.named
  have hlocks := B.notSynchronized
  have hl := lv_entry ([.ref (q 0)]) (n := 1) (Nat.le_of_ble_eq_true rfl)
  rw [lg_entry_eq]
  generalize (lg_sl ([.ref (q 0)]) ++ List.replicate (1 - (lg_sl ([.ref (q 0)])).length) Slot.unset).toArray = ls at hl ⊢
  have hl : lv_has ls 1 [(0, .ref (q 0))] := hl
  refine lv_aload_n hx hb dX0_isOdd_0 rfl (lv_at hl 0 rfl) ?_
  refine va_get (D := D) (ci := 0) (v := .int (nI (v 0 0))) (C := RX0) (T := TX0) (N := 5) hx hb hts inX0_isOdd_X0 hown hK hP 0 rfl rfl 0 (by decide) (hts (.fieldLink RX0 24 "OddNotice$Board" "number" "I") (List.mem_of_getElem? (i := 1) (by decide +kernel))) (fun _ h9 => h9) rfl dX0_isOdd_1 ?_
  refine o_const (k := 1) hx hb dX0_isOdd_4 (by decide) ?_
  refine o_iand1 (a := (v 0 0)) (k := ((v 0 0) % 2)) hx hb dX0_isOdd_5 (by omega) rfl ?_
  refine o_const (k := 1) hx hb dX0_isOdd_6 (by decide) ?_
  refine o_icmp_ne (tgt := 14) hx hb dX0_isOdd_7 (by decide) (by omega) (Nat.le_of_ble_eq_true rfl) (fun c_1 => ?_) (fun c_1 => ?_)
  · skip
    refine o_const (k := 0) hx hb dX0_isOdd_14 (by decide) ?_
    exact W.zret (v := nI 0) hx hb hrt rfl (fun t ht hW => ⟨_, rfl, (congrArg nI (Eq.symm (bn_f (by omega)))), ht⟩) (fun _ h => nomatch h) dX0_isOdd_15
  · skip
    refine o_const (k := 1) hx hb dX0_isOdd_10 (by decide) ?_
    refine lv_goto (tgt := 15) hx hb dX0_isOdd_11 (by decide) ?_
    exact W.zret (v := nI 1) hx hb hrt rfl (fun t ht hW => ⟨_, rfl, (congrArg nI (Eq.symm (bn_t (by omega)))), ht⟩) (fun _ h => nomatch h) dX0_isOdd_15
theorem inX0_isAway_X0 : ∀ w ∈ wsX00, w ∈ wsX0_isAway := by decide +kernel
set_option maxHeartbeats 4000000 in
set_option maxRecDepth 100000 in
theorem k_X0_isAway (l : Launch) (D : va_G) (cI cR cS cL : ClassId) (q : Nat → Nat) (v : Nat → Nat → Nat) (c : Nat) (hc : c < 3) (hp : v 3 c < 2 ^ 32) : Met l yX0_isAway wsX0_isAway ({ frames := 0, cells := 0, slots := 0, locals := 0 }) (va_Pc [.ref (q 0), .int (nI c)] (o_R D (o_T cI cR cS cL) (wB q cI v))) (vp_Si (fun rz => rz = nI (bn (v 3 c = 4294967295)))) 0 0 (fun _ => False) := by
  refine Met.ofW (cc := cX0_isAway) (maxL := 2) (ret := (some .boolean)) (by decide) rfl ?_
  intro p e s m args below meth cd s₁ B hml hv
  obtain ⟨rfl, hP, hK, hN⟩ := hv
  have hx := B.exec
  have hb := B.bytes
  have hrt := B.returns
  have hts := atoms_spec (ws := wsX0_isAway) B.pre
  have hown : s.vm.findClass RX0 = some m.cls := findClass_of_methodNamed B.named
  have hlocks := B.notSynchronized
  have hl := lv_entry ([.ref (q 0), .int (nI c)]) (n := 2) (Nat.le_of_ble_eq_true rfl)
  rw [lg_entry_eq]
  generalize (lg_sl ([.ref (q 0), .int (nI c)]) ++ List.replicate (2 - (lg_sl ([.ref (q 0), .int (nI c)])).length) Slot.unset).toArray = ls at hl ⊢
  have hl : lv_has ls 2 [(0, .ref (q 0)), (1, .int (nI c))] := hl
  refine lv_aload_n hx hb dX0_isAway_0 rfl (lv_at hl 0 rfl) ?_
  refine va_get (D := D) (ci := 0) (v := .ref (q 3)) (C := RX0) (T := TX0) (N := 5) hx hb hts inX0_isAway_X0 hown hK hP 0 rfl rfl 3 (by decide) (hts (.fieldLink RX0 18 "OddNotice$Board" "place" "[I") (List.mem_of_getElem? (i := 1) (by decide +kernel))) (fun _ h9 => h9) rfl dX0_isAway_1 ?_
  refine lv_iload_n hx hb dX0_isAway_4 rfl (lv_at hl 1 rfl) ?_
  refine o_iald (v := nI (v 3 c)) hx hb hK hP 3 0 rfl rfl (by omega) (Nat.le_of_ble_eq_true rfl) rfl dX0_isAway_5 ?_
  refine o_const (k := 4294967295) hx hb dX0_isAway_6 (by decide) ?_
  refine o_icmp_ne (tgt := 14) hx hb dX0_isAway_7 (by decide) (by omega) (Nat.le_of_ble_eq_true rfl) (fun c_1 => ?_) (fun c_1 => ?_)
  · skip
    refine o_const (k := 0) hx hb dX0_isAway_14 (by decide) ?_
    exact W.zret (v := nI 0) hx hb hrt rfl (fun t ht hW => ⟨_, rfl, (congrArg nI (Eq.symm (bn_f (by omega)))), ht⟩) (fun _ h => nomatch h) dX0_isAway_15
  · skip
    refine o_const (k := 1) hx hb dX0_isAway_10 (by decide) ?_
    refine lv_goto (tgt := 15) hx hb dX0_isAway_11 (by decide) ?_
    exact W.zret (v := nI 1) hx hb hrt rfl (fun t ht hW => ⟨_, rfl, (congrArg nI (Eq.symm (bn_t (by omega)))), ht⟩) (fun _ h => nomatch h) dX0_isAway_15
theorem inX0_isChalking_X0 : ∀ w ∈ wsX00, w ∈ wsX0_isChalking := by decide +kernel
set_option maxHeartbeats 4000000 in
set_option maxRecDepth 100000 in
theorem k_X0_isChalking (l : Launch) (D : va_G) (cI cR cS cL : ClassId) (q : Nat → Nat) (v : Nat → Nat → Nat) (c : Nat) (hc : c < 3) (hp : v 3 c < 2 ^ 32) : Met l yX0_isChalking wsX0_isChalking ({ frames := 0, cells := 0, slots := 0, locals := 0 }) (va_Pc [.ref (q 0), .int (nI c)] (o_R D (o_T cI cR cS cL) (wB q cI v))) (vp_Si (fun rz => rz = nI (bn (v 3 c = 0)))) 0 0 (fun _ => False) := by
  refine Met.ofW (cc := cX0_isChalking) (maxL := 2) (ret := (some .boolean)) (by decide) rfl ?_
  intro p e s m args below meth cd s₁ B hml hv
  obtain ⟨rfl, hP, hK, hN⟩ := hv
  have hx := B.exec
  have hb := B.bytes
  have hrt := B.returns
  have hts := atoms_spec (ws := wsX0_isChalking) B.pre
  have hown : s.vm.findClass RX0 = some m.cls := findClass_of_methodNamed B.named
  have hlocks := B.notSynchronized
  have hl := lv_entry ([.ref (q 0), .int (nI c)]) (n := 2) (Nat.le_of_ble_eq_true rfl)
  rw [lg_entry_eq]
  generalize (lg_sl ([.ref (q 0), .int (nI c)]) ++ List.replicate (2 - (lg_sl ([.ref (q 0), .int (nI c)])).length) Slot.unset).toArray = ls at hl ⊢
  have hl : lv_has ls 2 [(0, .ref (q 0)), (1, .int (nI c))] := hl
  refine lv_aload_n hx hb dX0_isChalking_0 rfl (lv_at hl 0 rfl) ?_
  refine va_get (D := D) (ci := 0) (v := .ref (q 3)) (C := RX0) (T := TX0) (N := 5) hx hb hts inX0_isChalking_X0 hown hK hP 0 rfl rfl 3 (by decide) (hts (.fieldLink RX0 18 "OddNotice$Board" "place" "[I") (List.mem_of_getElem? (i := 1) (by decide +kernel))) (fun _ h9 => h9) rfl dX0_isChalking_1 ?_
  refine lv_iload_n hx hb dX0_isChalking_4 rfl (lv_at hl 1 rfl) ?_
  refine o_iald (v := nI (v 3 c)) hx hb hK hP 3 0 rfl rfl (by omega) (Nat.le_of_ble_eq_true rfl) rfl dX0_isChalking_5 ?_
  refine o_if_ne (tgt := 13) hx hb dX0_isChalking_6 (by decide) (by omega) (fun c_1 => ?_) (fun c_1 => ?_)
  · skip
    refine o_const (k := 0) hx hb dX0_isChalking_13 (by decide) ?_
    exact W.zret (v := nI 0) hx hb hrt rfl (fun t ht hW => ⟨_, rfl, (congrArg nI (Eq.symm (bn_f (by omega)))), ht⟩) (fun _ h => nomatch h) dX0_isChalking_14
  · skip
    refine o_const (k := 1) hx hb dX0_isChalking_9 (by decide) ?_
    refine lv_goto (tgt := 14) hx hb dX0_isChalking_10 (by decide) ?_
    exact W.zret (v := nI 1) hx hb hrt rfl (fun t ht hW => ⟨_, rfl, (congrArg nI (Eq.symm (bn_t (by omega)))), ht⟩) (fun _ h => nomatch h) dX0_isChalking_14
set_option maxHeartbeats 4000000 in
set_option maxRecDepth 100000 in
theorem k_X0_doing (l : Launch) (D : va_G) (cI cR cS cL : ClassId) (q : Nat → Nat) (v : Nat → Nat → Nat) (c : Nat) (hc : c < 3) (hp : v 3 c < 2 ^ 32) : Met l yX0_doing wsX0_doing ({ frames := 1, cells := 0, slots := 0, locals := 21 }) (va_Pc [.ref (q 0), .int (nI c)] (o_R D (o_T cI cR cS cL) (wB q cI v))) (vp_Si (fun rz => rz = nI (b_doing (v 3) c))) 0 0 (fun _ => False) := by
  refine Met.ofW (cc := cX0_doing) (maxL := 2) (ret := (some .int)) (by decide) rfl ?_
  intro p e s m args below meth cd s₁ B hml hv
  obtain ⟨rfl, hP, hK, hN⟩ := hv
  have hx := B.exec
  have hb := B.bytes
  have hrt := B.returns
  have hts := atoms_spec (ws := wsX0_doing) B.pre
  have hown : s.vm.findClass RX0 = some m.cls := findClass_of_methodNamed B.named
  have hlocks := B.notSynchronized
  have hl := lv_entry ([.ref (q 0), .int (nI c)]) (n := 2) (Nat.le_of_ble_eq_true rfl)
  rw [lg_entry_eq]
  generalize (lg_sl ([.ref (q 0), .int (nI c)]) ++ List.replicate (2 - (lg_sl ([.ref (q 0), .int (nI c)])).length) Slot.unset).toArray = ls at hl ⊢
  have hl : lv_has ls 2 [(0, .ref (q 0)), (1, .int (nI c))] := hl
  refine lv_aload_n hx hb dX0_doing_0 rfl (lv_at hl 0 rfl) ?_
  refine lv_iload_n hx hb dX0_doing_1 rfl (lv_at hl 1 rfl) ?_
  refine o_ri (va_runV (As := [.int (nI c)]) (rest := []) ⟨hx, hb, hml, hown, hts⟩ (k_X0_isAway l D cI cR cS cL q v c (by show c < 3; first | assumption | omega) (by show v 3 c < 2 ^ 32; first | assumption | omega)) (cwV 1 hts gX0_doing_X0_isAway rfl rfl rfl (by decide +kernel) ⟨Nat.le_of_ble_eq_true rfl, Nat.le_of_ble_eq_true rfl⟩) (o_v (o_pR hK hN hP) (va_recv hK hP (ci := 0) (q0 := 0) rfl rfl)) rfl rfl hl.1 rfl (lv_room (Nat.le_of_ble_eq_true rfl)) dX0_doing_2 ⟨Nat.zero_le _, Nat.zero_le _⟩) (fun r_2 e_1 => ?_)
  have e_1 : r_2 = nI (bn (v 3 c = 4294967295)) := e_1
  subst e_1
  refine o_ifz (tgt := 12) hx hb dX0_doing_5 (by decide) (fun c_3 => ?_) (fun c_3 => ?_)
  · skip
    refine lv_aload_n hx hb dX0_doing_12 rfl (lv_at hl 0 rfl) ?_
    refine lv_iload_n hx hb dX0_doing_13 rfl (lv_at hl 1 rfl) ?_
    refine o_ri (va_runV (As := [.int (nI c)]) (rest := []) ⟨hx, hb, hml, hown, hts⟩ (k_X0_isChalking l D cI cR cS cL q v c (by show c < 3; first | assumption | omega) (by show v 3 c < 2 ^ 32; first | assumption | omega)) (cwV 1 hts gX0_doing_X0_isChalking rfl rfl rfl (by decide +kernel) ⟨Nat.le_of_ble_eq_true rfl, Nat.le_of_ble_eq_true rfl⟩) (o_v (o_pR hK hN hP) (va_recv hK hP (ci := 0) (q0 := 0) rfl rfl)) rfl rfl hl.1 rfl (lv_room (Nat.le_of_ble_eq_true rfl)) dX0_doing_14 ⟨Nat.zero_le _, Nat.zero_le _⟩) (fun r_5 e_4 => ?_)
    have e_4 : r_5 = nI (bn (v 3 c = 0)) := e_4
    subst e_4
    refine o_ifz (tgt := 24) hx hb dX0_doing_17 (by decide) (fun c_6 => ?_) (fun c_6 => ?_)
    · skip
      refine o_const (k := 2) hx hb dX0_doing_24 (by decide) ?_
      exact W.iret (v := nI 2) hx hb hrt (fun t ht hW => ⟨_, rfl, (by simp only [b_doing, if_neg c_3, if_neg c_6]), ht⟩) (fun _ h => nomatch h) dX0_doing_25
    · skip
      refine o_const (k := 1) hx hb dX0_doing_20 (by decide) ?_
      refine lv_goto (tgt := 25) hx hb dX0_doing_21 (by decide) ?_
      exact W.iret (v := nI 1) hx hb hrt (fun t ht hW => ⟨_, rfl, (by simp only [b_doing, if_neg c_3, if_pos c_6]), ht⟩) (fun _ h => nomatch h) dX0_doing_25
  · skip
    refine o_const (k := 0) hx hb dX0_doing_8 (by decide) ?_
    refine lv_goto (tgt := 25) hx hb dX0_doing_9 (by decide) ?_
    exact W.iret (v := nI 0) hx hb hrt (fun t ht hW => ⟨_, rfl, (by simp only [b_doing, if_pos c_3]), ht⟩) (fun _ h => nomatch h) dX0_doing_25
theorem inX0_waitingAhead_X0 : ∀ w ∈ wsX00, w ∈ wsX0_waitingAhead := by decide +kernel
set_option maxHeartbeats 4000000 in
set_option maxRecDepth 100000 in
theorem k_X0_waitingAhead (l : Launch) (D : va_G) (cI cR cS cL : ClassId) (q : Nat → Nat) (v : Nat → Nat → Nat) (c : Nat) (hc : c < 3) (hp : v 3 c = 4294967295 ∨ v 3 c < 2 ^ 31) : Met l yX0_waitingAhead wsX0_waitingAhead ({ frames := 0, cells := 0, slots := 0, locals := 0 }) (va_Pc [.ref (q 0), .int (nI c)] (o_R D (o_T cI cR cS cL) (wB q cI v))) (vp_Si (fun rz => rz = nI (b_ahead (v 3) c))) 0 0 (fun _ => False) := by
  refine Met.ofW (cc := cX0_waitingAhead) (maxL := 2) (ret := (some .int)) (by decide) rfl ?_
  intro p e s m args below meth cd s₁ B hml hv
  obtain ⟨rfl, hP, hK, hN⟩ := hv
  have hx := B.exec
  have hb := B.bytes
  have hrt := B.returns
  have hts := atoms_spec (ws := wsX0_waitingAhead) B.pre
  have hown : s.vm.findClass RX0 = some m.cls := findClass_of_methodNamed B.named
  have hlocks := B.notSynchronized
  have hl := lv_entry ([.ref (q 0), .int (nI c)]) (n := 2) (Nat.le_of_ble_eq_true rfl)
  rw [lg_entry_eq]
  generalize (lg_sl ([.ref (q 0), .int (nI c)]) ++ List.replicate (2 - (lg_sl ([.ref (q 0), .int (nI c)])).length) Slot.unset).toArray = ls at hl ⊢
  have hl : lv_has ls 2 [(0, .ref (q 0)), (1, .int (nI c))] := hl
  refine lv_aload_n hx hb dX0_waitingAhead_0 rfl (lv_at hl 0 rfl) ?_
  refine va_get (D := D) (ci := 0) (v := .ref (q 3)) (C := RX0) (T := TX0) (N := 5) hx hb hts inX0_waitingAhead_X0 hown hK hP 0 rfl rfl 3 (by decide) (hts (.fieldLink RX0 18 "OddNotice$Board" "place" "[I") (List.mem_of_getElem? (i := 1) (by decide +kernel))) (fun _ h9 => h9) rfl dX0_waitingAhead_1 ?_
  refine lv_iload_n hx hb dX0_waitingAhead_4 rfl (lv_at hl 1 rfl) ?_
  refine o_iald (v := nI (v 3 c)) hx hb hK hP 3 0 rfl rfl (by omega) (Nat.le_of_ble_eq_true rfl) rfl dX0_waitingAhead_5 ?_
  refine o_if_le_pm (tgt := 20) hx hb dX0_waitingAhead_6 (by decide) hp (fun c_1 => ?_) (fun c_1 => ?_)
  · skip
    refine o_const (k := 4294967295) hx hb dX0_waitingAhead_20 (by decide) ?_
    exact W.iret (v := nI 4294967295) hx hb hrt (fun t ht hW => ⟨_, rfl, (by simp only [b_ahead, if_neg c_1]), ht⟩) (fun _ h => nomatch h) dX0_waitingAhead_21
  · skip
    refine lv_aload_n hx hb dX0_waitingAhead_9 rfl (lv_at hl 0 rfl) ?_
    refine va_get (D := D) (ci := 0) (v := .ref (q 3)) (C := RX0) (T := TX0) (N := 5) hx hb hts inX0_waitingAhead_X0 hown hK hP 0 rfl rfl 3 (by decide) (hts (.fieldLink RX0 18 "OddNotice$Board" "place" "[I") (List.mem_of_getElem? (i := 1) (by decide +kernel))) (fun _ h9 => h9) rfl dX0_waitingAhead_10 ?_
    refine lv_iload_n hx hb dX0_waitingAhead_13 rfl (lv_at hl 1 rfl) ?_
    refine o_iald (v := nI (v 3 c)) hx hb hK hP 3 0 rfl rfl (by omega) (Nat.le_of_ble_eq_true rfl) rfl dX0_waitingAhead_14 ?_
    refine o_const (k := 1) hx hb dX0_waitingAhead_15 (by decide) ?_
    refine o_isub (a := (v 3 c)) (b := 1) (k := ((v 3 c) - 1)) hx hb dX0_waitingAhead_16 (by omega) rfl ?_
    refine lv_goto (tgt := 21) hx hb dX0_waitingAhead_17 (by decide) ?_
    exact W.iret (v := nI ((v 3 c) - 1)) hx hb hrt (fun t ht hW => ⟨_, rfl, (by simp only [b_ahead, if_pos c_1]), ht⟩) (fun _ h => nomatch h) dX0_waitingAhead_21
set_option maxHeartbeats 4000000 in
set_option maxRecDepth 100000 in
theorem k_X0_inLine (l : Launch) (D : va_G) (cI cR cS cL : ClassId) (q : Nat → Nat) (v : Nat → Nat → Nat) (hp : ∀ c, c < 3 → v 3 c = 4294967295 ∨ v 3 c < 2 ^ 31) : Met l yX0_inLine wsX0_inLine ({ frames := 1, cells := 0, slots := 0, locals := 21 }) (va_Pc [.ref (q 0)] (o_R D (o_T cI cR cS cL) (wB q cI v))) (vp_Si (fun rz => rz = nI (b_inl (v 3)))) 0 0 (fun _ => False) := by
  refine Met.ofW (cc := cX0_inLine) (maxL := 3) (ret := (some .int)) (by decide) rfl ?_
  intro p e s m args below meth cd s₁ B hml hv
  obtain ⟨rfl, hP, hK, hN⟩ := hv
  have hx := B.exec
  have hb := B.bytes
  have hrt := B.returns
  have hts := atoms_spec (ws := wsX0_inLine) B.pre
  have hown : s.vm.findClass RX0 = some m.cls := findClass_of_methodNamed B.named
  have hlocks := B.notSynchronized
  have hl := lv_entry ([.ref (q 0)]) (n := 3) (Nat.le_of_ble_eq_true rfl)
  rw [lg_entry_eq]
  generalize (lg_sl ([.ref (q 0)]) ++ List.replicate (3 - (lg_sl ([.ref (q 0)])).length) Slot.unset).toArray = ls at hl ⊢
  have hl : lv_has ls 3 [(0, .ref (q 0))] := hl
  refine o_const (k := 0) hx hb dX0_inLine_0 (by decide) ?_
  refine lv_istore_n (lv' := [(1, .int (nI 0)), (0, .ref (q 0))]) hx hb dX0_inLine_1 rfl hl (by decide) rfl (fun ls hl => ?_)
  refine o_const (k := 0) hx hb dX0_inLine_2 (by decide) ?_
  refine lv_istore_n (lv' := [(2, .int (nI 0)), (1, .int (nI 0)), (0, .ref (q 0))]) hx hb dX0_inLine_3 rfl hl (by decide) rfl (fun ls hl => ?_)
  refine lv_iload_n hx hb dX0_inLine_4 rfl (lv_at hl 0 rfl) ?_
  refine o_const (k := 3) hx hb dX0_inLine_5 (by decide) ?_
  refine o_icmp_ge (tgt := 26) hx hb dX0_inLine_6 (by decide) (Nat.le_of_ble_eq_true rfl) (Nat.le_of_ble_eq_true rfl) (fun c0 => absurd c0 (by decide)) (fun _ => ?_)
  refine lv_aload_n hx hb dX0_inLine_9 rfl (lv_at hl 2 rfl) ?_
  refine lv_iload_n hx hb dX0_inLine_10 rfl (lv_at hl 0 rfl) ?_
  refine o_ri (va_runV (As := [.int (nI 0)]) (rest := []) ⟨hx, hb, hml, hown, hts⟩ (k_X0_isAway l D cI cR cS cL q v 0 (by show 0 < 3; first | assumption | omega) (by have := hp 0 (by omega); omega)) (cwV 1 hts gX0_inLine_X0_isAway rfl rfl rfl (by decide +kernel) ⟨Nat.le_of_ble_eq_true rfl, Nat.le_of_ble_eq_true rfl⟩) (o_v (o_pR hK hN hP) (va_recv hK hP (ci := 0) (q0 := 0) rfl rfl)) rfl rfl hl.1 rfl (lv_room (Nat.le_of_ble_eq_true rfl)) dX0_inLine_11 ⟨Nat.zero_le _, Nat.zero_le _⟩) (fun r_2 e_1 => ?_)
  have e_1 : r_2 = nI (bn (v 3 0 = 4294967295)) := e_1
  subst e_1
  refine o_ifnz (tgt := 20) hx hb dX0_inLine_14 (by decide) (fun c_3 => ?_) (fun c_3 => ?_)
  · skip
    refine lv_iinc (v := nI 1) (lv' := [(2, .int (nI 1)), (1, .int (nI 0)), (0, .ref (q 0))]) hx hb dX0_inLine_20 hl (k := 0) rfl (by decide) (by decide) rfl (fun ls hl => ?_)
    refine lv_goto (tgt := 4) hx hb dX0_inLine_23 (by decide) ?_
    refine lv_iload_n hx hb dX0_inLine_4 rfl (lv_at hl 0 rfl) ?_
    refine o_const (k := 3) hx hb dX0_inLine_5 (by decide) ?_
    refine o_icmp_ge (tgt := 26) hx hb dX0_inLine_6 (by decide) (Nat.le_of_ble_eq_true rfl) (Nat.le_of_ble_eq_true rfl) (fun c0 => absurd c0 (by decide)) (fun _ => ?_)
    refine lv_aload_n hx hb dX0_inLine_9 rfl (lv_at hl 2 rfl) ?_
    refine lv_iload_n hx hb dX0_inLine_10 rfl (lv_at hl 0 rfl) ?_
    refine o_ri (va_runV (As := [.int (nI 1)]) (rest := []) ⟨hx, hb, hml, hown, hts⟩ (k_X0_isAway l D cI cR cS cL q v 1 (by show 1 < 3; first | assumption | omega) (by have := hp 1 (by omega); omega)) (cwV 1 hts gX0_inLine_X0_isAway rfl rfl rfl (by decide +kernel) ⟨Nat.le_of_ble_eq_true rfl, Nat.le_of_ble_eq_true rfl⟩) (o_v (o_pR hK hN hP) (va_recv hK hP (ci := 0) (q0 := 0) rfl rfl)) rfl rfl hl.1 rfl (lv_room (Nat.le_of_ble_eq_true rfl)) dX0_inLine_11 ⟨Nat.zero_le _, Nat.zero_le _⟩) (fun r_5 e_4 => ?_)
    have e_4 : r_5 = nI (bn (v 3 1 = 4294967295)) := e_4
    subst e_4
    refine o_ifnz (tgt := 20) hx hb dX0_inLine_14 (by decide) (fun c_6 => ?_) (fun c_6 => ?_)
    · skip
      refine lv_iinc (v := nI 2) (lv' := [(2, .int (nI 2)), (1, .int (nI 0)), (0, .ref (q 0))]) hx hb dX0_inLine_20 hl (k := 0) rfl (by decide) (by decide) rfl (fun ls hl => ?_)
      refine lv_goto (tgt := 4) hx hb dX0_inLine_23 (by decide) ?_
      refine lv_iload_n hx hb dX0_inLine_4 rfl (lv_at hl 0 rfl) ?_
      refine o_const (k := 3) hx hb dX0_inLine_5 (by decide) ?_
      refine o_icmp_ge (tgt := 26) hx hb dX0_inLine_6 (by decide) (Nat.le_of_ble_eq_true rfl) (Nat.le_of_ble_eq_true rfl) (fun c0 => absurd c0 (by decide)) (fun _ => ?_)
      refine lv_aload_n hx hb dX0_inLine_9 rfl (lv_at hl 2 rfl) ?_
      refine lv_iload_n hx hb dX0_inLine_10 rfl (lv_at hl 0 rfl) ?_
      refine o_ri (va_runV (As := [.int (nI 2)]) (rest := []) ⟨hx, hb, hml, hown, hts⟩ (k_X0_isAway l D cI cR cS cL q v 2 (by show 2 < 3; first | assumption | omega) (by have := hp 2 (by omega); omega)) (cwV 1 hts gX0_inLine_X0_isAway rfl rfl rfl (by decide +kernel) ⟨Nat.le_of_ble_eq_true rfl, Nat.le_of_ble_eq_true rfl⟩) (o_v (o_pR hK hN hP) (va_recv hK hP (ci := 0) (q0 := 0) rfl rfl)) rfl rfl hl.1 rfl (lv_room (Nat.le_of_ble_eq_true rfl)) dX0_inLine_11 ⟨Nat.zero_le _, Nat.zero_le _⟩) (fun r_8 e_7 => ?_)
      have e_7 : r_8 = nI (bn (v 3 2 = 4294967295)) := e_7
      subst e_7
      refine o_ifnz (tgt := 20) hx hb dX0_inLine_14 (by decide) (fun c_9 => ?_) (fun c_9 => ?_)
      · skip
        refine lv_iinc (v := nI 3) (lv' := [(2, .int (nI 3)), (1, .int (nI 0)), (0, .ref (q 0))]) hx hb dX0_inLine_20 hl (k := 0) rfl (by decide) (by decide) rfl (fun ls hl => ?_)
        refine lv_goto (tgt := 4) hx hb dX0_inLine_23 (by decide) ?_
        refine lv_iload_n hx hb dX0_inLine_4 rfl (lv_at hl 0 rfl) ?_
        refine o_const (k := 3) hx hb dX0_inLine_5 (by decide) ?_
        refine o_icmp_ge (tgt := 26) hx hb dX0_inLine_6 (by decide) (Nat.le_of_ble_eq_true rfl) (Nat.le_of_ble_eq_true rfl) (fun _ => ?_) (fun c0 => absurd c0 (by decide))
        refine lv_iload_n hx hb dX0_inLine_26 rfl (lv_at hl 1 rfl) ?_
        exact W.iret (v := nI 0) hx hb hrt (fun t ht hW => ⟨_, rfl, (by simp only [b_inl, if_pos c_3, if_pos c_6, if_pos c_9]), ht⟩) (fun _ h => nomatch h) dX0_inLine_27
      · skip
        refine lv_iinc (v := nI 1) (lv' := [(1, .int (nI 1)), (2, .int (nI 2)), (0, .ref (q 0))]) hx hb dX0_inLine_17 hl (k := 1) rfl (by decide) (by decide) rfl (fun ls hl => ?_)
        refine lv_iinc (v := nI 3) (lv' := [(2, .int (nI 3)), (1, .int (nI 1)), (0, .ref (q 0))]) hx hb dX0_inLine_20 hl (k := 1) rfl (by decide) (by decide) rfl (fun ls hl => ?_)
        refine lv_goto (tgt := 4) hx hb dX0_inLine_23 (by decide) ?_
        refine lv_iload_n hx hb dX0_inLine_4 rfl (lv_at hl 0 rfl) ?_
        refine o_const (k := 3) hx hb dX0_inLine_5 (by decide) ?_
        refine o_icmp_ge (tgt := 26) hx hb dX0_inLine_6 (by decide) (Nat.le_of_ble_eq_true rfl) (Nat.le_of_ble_eq_true rfl) (fun _ => ?_) (fun c0 => absurd c0 (by decide))
        refine lv_iload_n hx hb dX0_inLine_26 rfl (lv_at hl 1 rfl) ?_
        exact W.iret (v := nI 1) hx hb hrt (fun t ht hW => ⟨_, rfl, (by simp only [b_inl, if_pos c_3, if_pos c_6, if_neg c_9]), ht⟩) (fun _ h => nomatch h) dX0_inLine_27
    · skip
      refine lv_iinc (v := nI 1) (lv' := [(1, .int (nI 1)), (2, .int (nI 1)), (0, .ref (q 0))]) hx hb dX0_inLine_17 hl (k := 1) rfl (by decide) (by decide) rfl (fun ls hl => ?_)
      refine lv_iinc (v := nI 2) (lv' := [(2, .int (nI 2)), (1, .int (nI 1)), (0, .ref (q 0))]) hx hb dX0_inLine_20 hl (k := 1) rfl (by decide) (by decide) rfl (fun ls hl => ?_)
      refine lv_goto (tgt := 4) hx hb dX0_inLine_23 (by decide) ?_
      refine lv_iload_n hx hb dX0_inLine_4 rfl (lv_at hl 0 rfl) ?_
      refine o_const (k := 3) hx hb dX0_inLine_5 (by decide) ?_
      refine o_icmp_ge (tgt := 26) hx hb dX0_inLine_6 (by decide) (Nat.le_of_ble_eq_true rfl) (Nat.le_of_ble_eq_true rfl) (fun c0 => absurd c0 (by decide)) (fun _ => ?_)
      refine lv_aload_n hx hb dX0_inLine_9 rfl (lv_at hl 2 rfl) ?_
      refine lv_iload_n hx hb dX0_inLine_10 rfl (lv_at hl 0 rfl) ?_
      refine o_ri (va_runV (As := [.int (nI 2)]) (rest := []) ⟨hx, hb, hml, hown, hts⟩ (k_X0_isAway l D cI cR cS cL q v 2 (by show 2 < 3; first | assumption | omega) (by have := hp 2 (by omega); omega)) (cwV 1 hts gX0_inLine_X0_isAway rfl rfl rfl (by decide +kernel) ⟨Nat.le_of_ble_eq_true rfl, Nat.le_of_ble_eq_true rfl⟩) (o_v (o_pR hK hN hP) (va_recv hK hP (ci := 0) (q0 := 0) rfl rfl)) rfl rfl hl.1 rfl (lv_room (Nat.le_of_ble_eq_true rfl)) dX0_inLine_11 ⟨Nat.zero_le _, Nat.zero_le _⟩) (fun r_11 e_10 => ?_)
      have e_10 : r_11 = nI (bn (v 3 2 = 4294967295)) := e_10
      subst e_10
      refine o_ifnz (tgt := 20) hx hb dX0_inLine_14 (by decide) (fun c_12 => ?_) (fun c_12 => ?_)
      · skip
        refine lv_iinc (v := nI 3) (lv' := [(2, .int (nI 3)), (1, .int (nI 1)), (0, .ref (q 0))]) hx hb dX0_inLine_20 hl (k := 0) rfl (by decide) (by decide) rfl (fun ls hl => ?_)
        refine lv_goto (tgt := 4) hx hb dX0_inLine_23 (by decide) ?_
        refine lv_iload_n hx hb dX0_inLine_4 rfl (lv_at hl 0 rfl) ?_
        refine o_const (k := 3) hx hb dX0_inLine_5 (by decide) ?_
        refine o_icmp_ge (tgt := 26) hx hb dX0_inLine_6 (by decide) (Nat.le_of_ble_eq_true rfl) (Nat.le_of_ble_eq_true rfl) (fun _ => ?_) (fun c0 => absurd c0 (by decide))
        refine lv_iload_n hx hb dX0_inLine_26 rfl (lv_at hl 1 rfl) ?_
        exact W.iret (v := nI 1) hx hb hrt (fun t ht hW => ⟨_, rfl, (by simp only [b_inl, if_pos c_3, if_neg c_6, if_pos c_12]), ht⟩) (fun _ h => nomatch h) dX0_inLine_27
      · skip
        refine lv_iinc (v := nI 2) (lv' := [(1, .int (nI 2)), (2, .int (nI 2)), (0, .ref (q 0))]) hx hb dX0_inLine_17 hl (k := 1) rfl (by decide) (by decide) rfl (fun ls hl => ?_)
        refine lv_iinc (v := nI 3) (lv' := [(2, .int (nI 3)), (1, .int (nI 2)), (0, .ref (q 0))]) hx hb dX0_inLine_20 hl (k := 1) rfl (by decide) (by decide) rfl (fun ls hl => ?_)
        refine lv_goto (tgt := 4) hx hb dX0_inLine_23 (by decide) ?_
        refine lv_iload_n hx hb dX0_inLine_4 rfl (lv_at hl 0 rfl) ?_
        refine o_const (k := 3) hx hb dX0_inLine_5 (by decide) ?_
        refine o_icmp_ge (tgt := 26) hx hb dX0_inLine_6 (by decide) (Nat.le_of_ble_eq_true rfl) (Nat.le_of_ble_eq_true rfl) (fun _ => ?_) (fun c0 => absurd c0 (by decide))
        refine lv_iload_n hx hb dX0_inLine_26 rfl (lv_at hl 1 rfl) ?_
        exact W.iret (v := nI 2) hx hb hrt (fun t ht hW => ⟨_, rfl, (by simp only [b_inl, if_pos c_3, if_neg c_6, if_neg c_12]), ht⟩) (fun _ h => nomatch h) dX0_inLine_27
  · skip
    refine lv_iinc (v := nI 1) (lv' := [(1, .int (nI 1)), (2, .int (nI 0)), (0, .ref (q 0))]) hx hb dX0_inLine_17 hl (k := 1) rfl (by decide) (by decide) rfl (fun ls hl => ?_)
    refine lv_iinc (v := nI 1) (lv' := [(2, .int (nI 1)), (1, .int (nI 1)), (0, .ref (q 0))]) hx hb dX0_inLine_20 hl (k := 1) rfl (by decide) (by decide) rfl (fun ls hl => ?_)
    refine lv_goto (tgt := 4) hx hb dX0_inLine_23 (by decide) ?_
    refine lv_iload_n hx hb dX0_inLine_4 rfl (lv_at hl 0 rfl) ?_
    refine o_const (k := 3) hx hb dX0_inLine_5 (by decide) ?_
    refine o_icmp_ge (tgt := 26) hx hb dX0_inLine_6 (by decide) (Nat.le_of_ble_eq_true rfl) (Nat.le_of_ble_eq_true rfl) (fun c0 => absurd c0 (by decide)) (fun _ => ?_)
    refine lv_aload_n hx hb dX0_inLine_9 rfl (lv_at hl 2 rfl) ?_
    refine lv_iload_n hx hb dX0_inLine_10 rfl (lv_at hl 0 rfl) ?_
    refine o_ri (va_runV (As := [.int (nI 1)]) (rest := []) ⟨hx, hb, hml, hown, hts⟩ (k_X0_isAway l D cI cR cS cL q v 1 (by show 1 < 3; first | assumption | omega) (by have := hp 1 (by omega); omega)) (cwV 1 hts gX0_inLine_X0_isAway rfl rfl rfl (by decide +kernel) ⟨Nat.le_of_ble_eq_true rfl, Nat.le_of_ble_eq_true rfl⟩) (o_v (o_pR hK hN hP) (va_recv hK hP (ci := 0) (q0 := 0) rfl rfl)) rfl rfl hl.1 rfl (lv_room (Nat.le_of_ble_eq_true rfl)) dX0_inLine_11 ⟨Nat.zero_le _, Nat.zero_le _⟩) (fun r_14 e_13 => ?_)
    have e_13 : r_14 = nI (bn (v 3 1 = 4294967295)) := e_13
    subst e_13
    refine o_ifnz (tgt := 20) hx hb dX0_inLine_14 (by decide) (fun c_15 => ?_) (fun c_15 => ?_)
    · skip
      refine lv_iinc (v := nI 2) (lv' := [(2, .int (nI 2)), (1, .int (nI 1)), (0, .ref (q 0))]) hx hb dX0_inLine_20 hl (k := 0) rfl (by decide) (by decide) rfl (fun ls hl => ?_)
      refine lv_goto (tgt := 4) hx hb dX0_inLine_23 (by decide) ?_
      refine lv_iload_n hx hb dX0_inLine_4 rfl (lv_at hl 0 rfl) ?_
      refine o_const (k := 3) hx hb dX0_inLine_5 (by decide) ?_
      refine o_icmp_ge (tgt := 26) hx hb dX0_inLine_6 (by decide) (Nat.le_of_ble_eq_true rfl) (Nat.le_of_ble_eq_true rfl) (fun c0 => absurd c0 (by decide)) (fun _ => ?_)
      refine lv_aload_n hx hb dX0_inLine_9 rfl (lv_at hl 2 rfl) ?_
      refine lv_iload_n hx hb dX0_inLine_10 rfl (lv_at hl 0 rfl) ?_
      refine o_ri (va_runV (As := [.int (nI 2)]) (rest := []) ⟨hx, hb, hml, hown, hts⟩ (k_X0_isAway l D cI cR cS cL q v 2 (by show 2 < 3; first | assumption | omega) (by have := hp 2 (by omega); omega)) (cwV 1 hts gX0_inLine_X0_isAway rfl rfl rfl (by decide +kernel) ⟨Nat.le_of_ble_eq_true rfl, Nat.le_of_ble_eq_true rfl⟩) (o_v (o_pR hK hN hP) (va_recv hK hP (ci := 0) (q0 := 0) rfl rfl)) rfl rfl hl.1 rfl (lv_room (Nat.le_of_ble_eq_true rfl)) dX0_inLine_11 ⟨Nat.zero_le _, Nat.zero_le _⟩) (fun r_17 e_16 => ?_)
      have e_16 : r_17 = nI (bn (v 3 2 = 4294967295)) := e_16
      subst e_16
      refine o_ifnz (tgt := 20) hx hb dX0_inLine_14 (by decide) (fun c_18 => ?_) (fun c_18 => ?_)
      · skip
        refine lv_iinc (v := nI 3) (lv' := [(2, .int (nI 3)), (1, .int (nI 1)), (0, .ref (q 0))]) hx hb dX0_inLine_20 hl (k := 0) rfl (by decide) (by decide) rfl (fun ls hl => ?_)
        refine lv_goto (tgt := 4) hx hb dX0_inLine_23 (by decide) ?_
        refine lv_iload_n hx hb dX0_inLine_4 rfl (lv_at hl 0 rfl) ?_
        refine o_const (k := 3) hx hb dX0_inLine_5 (by decide) ?_
        refine o_icmp_ge (tgt := 26) hx hb dX0_inLine_6 (by decide) (Nat.le_of_ble_eq_true rfl) (Nat.le_of_ble_eq_true rfl) (fun _ => ?_) (fun c0 => absurd c0 (by decide))
        refine lv_iload_n hx hb dX0_inLine_26 rfl (lv_at hl 1 rfl) ?_
        exact W.iret (v := nI 1) hx hb hrt (fun t ht hW => ⟨_, rfl, (by simp only [b_inl, if_neg c_3, if_pos c_15, if_pos c_18]), ht⟩) (fun _ h => nomatch h) dX0_inLine_27
      · skip
        refine lv_iinc (v := nI 2) (lv' := [(1, .int (nI 2)), (2, .int (nI 2)), (0, .ref (q 0))]) hx hb dX0_inLine_17 hl (k := 1) rfl (by decide) (by decide) rfl (fun ls hl => ?_)
        refine lv_iinc (v := nI 3) (lv' := [(2, .int (nI 3)), (1, .int (nI 2)), (0, .ref (q 0))]) hx hb dX0_inLine_20 hl (k := 1) rfl (by decide) (by decide) rfl (fun ls hl => ?_)
        refine lv_goto (tgt := 4) hx hb dX0_inLine_23 (by decide) ?_
        refine lv_iload_n hx hb dX0_inLine_4 rfl (lv_at hl 0 rfl) ?_
        refine o_const (k := 3) hx hb dX0_inLine_5 (by decide) ?_
        refine o_icmp_ge (tgt := 26) hx hb dX0_inLine_6 (by decide) (Nat.le_of_ble_eq_true rfl) (Nat.le_of_ble_eq_true rfl) (fun _ => ?_) (fun c0 => absurd c0 (by decide))
        refine lv_iload_n hx hb dX0_inLine_26 rfl (lv_at hl 1 rfl) ?_
        exact W.iret (v := nI 2) hx hb hrt (fun t ht hW => ⟨_, rfl, (by simp only [b_inl, if_neg c_3, if_pos c_15, if_neg c_18]), ht⟩) (fun _ h => nomatch h) dX0_inLine_27
    · skip
      refine lv_iinc (v := nI 2) (lv' := [(1, .int (nI 2)), (2, .int (nI 1)), (0, .ref (q 0))]) hx hb dX0_inLine_17 hl (k := 1) rfl (by decide) (by decide) rfl (fun ls hl => ?_)
      refine lv_iinc (v := nI 2) (lv' := [(2, .int (nI 2)), (1, .int (nI 2)), (0, .ref (q 0))]) hx hb dX0_inLine_20 hl (k := 1) rfl (by decide) (by decide) rfl (fun ls hl => ?_)
      refine lv_goto (tgt := 4) hx hb dX0_inLine_23 (by decide) ?_
      refine lv_iload_n hx hb dX0_inLine_4 rfl (lv_at hl 0 rfl) ?_
      refine o_const (k := 3) hx hb dX0_inLine_5 (by decide) ?_
      refine o_icmp_ge (tgt := 26) hx hb dX0_inLine_6 (by decide) (Nat.le_of_ble_eq_true rfl) (Nat.le_of_ble_eq_true rfl) (fun c0 => absurd c0 (by decide)) (fun _ => ?_)
      refine lv_aload_n hx hb dX0_inLine_9 rfl (lv_at hl 2 rfl) ?_
      refine lv_iload_n hx hb dX0_inLine_10 rfl (lv_at hl 0 rfl) ?_
      refine o_ri (va_runV (As := [.int (nI 2)]) (rest := []) ⟨hx, hb, hml, hown, hts⟩ (k_X0_isAway l D cI cR cS cL q v 2 (by show 2 < 3; first | assumption | omega) (by have := hp 2 (by omega); omega)) (cwV 1 hts gX0_inLine_X0_isAway rfl rfl rfl (by decide +kernel) ⟨Nat.le_of_ble_eq_true rfl, Nat.le_of_ble_eq_true rfl⟩) (o_v (o_pR hK hN hP) (va_recv hK hP (ci := 0) (q0 := 0) rfl rfl)) rfl rfl hl.1 rfl (lv_room (Nat.le_of_ble_eq_true rfl)) dX0_inLine_11 ⟨Nat.zero_le _, Nat.zero_le _⟩) (fun r_20 e_19 => ?_)
      have e_19 : r_20 = nI (bn (v 3 2 = 4294967295)) := e_19
      subst e_19
      refine o_ifnz (tgt := 20) hx hb dX0_inLine_14 (by decide) (fun c_21 => ?_) (fun c_21 => ?_)
      · skip
        refine lv_iinc (v := nI 3) (lv' := [(2, .int (nI 3)), (1, .int (nI 2)), (0, .ref (q 0))]) hx hb dX0_inLine_20 hl (k := 0) rfl (by decide) (by decide) rfl (fun ls hl => ?_)
        refine lv_goto (tgt := 4) hx hb dX0_inLine_23 (by decide) ?_
        refine lv_iload_n hx hb dX0_inLine_4 rfl (lv_at hl 0 rfl) ?_
        refine o_const (k := 3) hx hb dX0_inLine_5 (by decide) ?_
        refine o_icmp_ge (tgt := 26) hx hb dX0_inLine_6 (by decide) (Nat.le_of_ble_eq_true rfl) (Nat.le_of_ble_eq_true rfl) (fun _ => ?_) (fun c0 => absurd c0 (by decide))
        refine lv_iload_n hx hb dX0_inLine_26 rfl (lv_at hl 1 rfl) ?_
        exact W.iret (v := nI 2) hx hb hrt (fun t ht hW => ⟨_, rfl, (by simp only [b_inl, if_neg c_3, if_neg c_15, if_pos c_21]), ht⟩) (fun _ h => nomatch h) dX0_inLine_27
      · skip
        refine lv_iinc (v := nI 3) (lv' := [(1, .int (nI 3)), (2, .int (nI 2)), (0, .ref (q 0))]) hx hb dX0_inLine_17 hl (k := 1) rfl (by decide) (by decide) rfl (fun ls hl => ?_)
        refine lv_iinc (v := nI 3) (lv' := [(2, .int (nI 3)), (1, .int (nI 3)), (0, .ref (q 0))]) hx hb dX0_inLine_20 hl (k := 1) rfl (by decide) (by decide) rfl (fun ls hl => ?_)
        refine lv_goto (tgt := 4) hx hb dX0_inLine_23 (by decide) ?_
        refine lv_iload_n hx hb dX0_inLine_4 rfl (lv_at hl 0 rfl) ?_
        refine o_const (k := 3) hx hb dX0_inLine_5 (by decide) ?_
        refine o_icmp_ge (tgt := 26) hx hb dX0_inLine_6 (by decide) (Nat.le_of_ble_eq_true rfl) (Nat.le_of_ble_eq_true rfl) (fun _ => ?_) (fun c0 => absurd c0 (by decide))
        refine lv_iload_n hx hb dX0_inLine_26 rfl (lv_at hl 1 rfl) ?_
        exact W.iret (v := nI 3) hx hb hrt (fun t ht hW => ⟨_, rfl, (by simp only [b_inl, if_neg c_3, if_neg c_15, if_neg c_21]), ht⟩) (fun _ h => nomatch h) dX0_inLine_27
set_option maxHeartbeats 4000000 in
set_option maxRecDepth 100000 in
theorem k_X0_whoChalks (l : Launch) (D : va_G) (cI cR cS cL : ClassId) (q : Nat → Nat) (v : Nat → Nat → Nat) (hp : ∀ c, c < 3 → v 3 c = 4294967295 ∨ v 3 c < 2 ^ 31) : Met l yX0_whoChalks wsX0_whoChalks ({ frames := 1, cells := 0, slots := 0, locals := 21 }) (va_Pc [.ref (q 0)] (o_R D (o_T cI cR cS cL) (wB q cI v))) (vp_Si (fun rz => rz = nI (b_who (v 3)))) 0 0 (fun _ => False) := by
  refine Met.ofW (cc := cX0_whoChalks) (maxL := 2) (ret := (some .int)) (by decide) rfl ?_
  intro p e s m args below meth cd s₁ B hml hv
  obtain ⟨rfl, hP, hK, hN⟩ := hv
  have hx := B.exec
  have hb := B.bytes
  have hrt := B.returns
  have hts := atoms_spec (ws := wsX0_whoChalks) B.pre
  have hown : s.vm.findClass RX0 = some m.cls := findClass_of_methodNamed B.named
  have hlocks := B.notSynchronized
  have hl := lv_entry ([.ref (q 0)]) (n := 2) (Nat.le_of_ble_eq_true rfl)
  rw [lg_entry_eq]
  generalize (lg_sl ([.ref (q 0)]) ++ List.replicate (2 - (lg_sl ([.ref (q 0)])).length) Slot.unset).toArray = ls at hl ⊢
  have hl : lv_has ls 2 [(0, .ref (q 0))] := hl
  refine o_const (k := 0) hx hb dX0_whoChalks_0 (by decide) ?_
  refine lv_istore_n (lv' := [(1, .int (nI 0)), (0, .ref (q 0))]) hx hb dX0_whoChalks_1 rfl hl (by decide) rfl (fun ls hl => ?_)
  refine lv_iload_n hx hb dX0_whoChalks_2 rfl (lv_at hl 0 rfl) ?_
  refine o_const (k := 3) hx hb dX0_whoChalks_3 (by decide) ?_
  refine o_icmp_ge (tgt := 23) hx hb dX0_whoChalks_4 (by decide) (Nat.le_of_ble_eq_true rfl) (Nat.le_of_ble_eq_true rfl) (fun c0 => absurd c0 (by decide)) (fun _ => ?_)
  refine lv_aload_n hx hb dX0_whoChalks_7 rfl (lv_at hl 1 rfl) ?_
  refine lv_iload_n hx hb dX0_whoChalks_8 rfl (lv_at hl 0 rfl) ?_
  refine o_ri (va_runV (As := [.int (nI 0)]) (rest := []) ⟨hx, hb, hml, hown, hts⟩ (k_X0_isChalking l D cI cR cS cL q v 0 (by show 0 < 3; first | assumption | omega) (by have := hp 0 (by omega); omega)) (cwV 1 hts gX0_whoChalks_X0_isChalking rfl rfl rfl (by decide +kernel) ⟨Nat.le_of_ble_eq_true rfl, Nat.le_of_ble_eq_true rfl⟩) (o_v (o_pR hK hN hP) (va_recv hK hP (ci := 0) (q0 := 0) rfl rfl)) rfl rfl hl.1 rfl (lv_room (Nat.le_of_ble_eq_true rfl)) dX0_whoChalks_9 ⟨Nat.zero_le _, Nat.zero_le _⟩) (fun r_2 e_1 => ?_)
  have e_1 : r_2 = nI (bn (v 3 0 = 0)) := e_1
  subst e_1
  refine o_ifz (tgt := 17) hx hb dX0_whoChalks_12 (by decide) (fun c_3 => ?_) (fun c_3 => ?_)
  · skip
    refine lv_iinc (v := nI 1) (lv' := [(1, .int (nI 1)), (0, .ref (q 0))]) hx hb dX0_whoChalks_17 hl (k := 0) rfl (by decide) (by decide) rfl (fun ls hl => ?_)
    refine lv_goto (tgt := 2) hx hb dX0_whoChalks_20 (by decide) ?_
    refine lv_iload_n hx hb dX0_whoChalks_2 rfl (lv_at hl 0 rfl) ?_
    refine o_const (k := 3) hx hb dX0_whoChalks_3 (by decide) ?_
    refine o_icmp_ge (tgt := 23) hx hb dX0_whoChalks_4 (by decide) (Nat.le_of_ble_eq_true rfl) (Nat.le_of_ble_eq_true rfl) (fun c0 => absurd c0 (by decide)) (fun _ => ?_)
    refine lv_aload_n hx hb dX0_whoChalks_7 rfl (lv_at hl 1 rfl) ?_
    refine lv_iload_n hx hb dX0_whoChalks_8 rfl (lv_at hl 0 rfl) ?_
    refine o_ri (va_runV (As := [.int (nI 1)]) (rest := []) ⟨hx, hb, hml, hown, hts⟩ (k_X0_isChalking l D cI cR cS cL q v 1 (by show 1 < 3; first | assumption | omega) (by have := hp 1 (by omega); omega)) (cwV 1 hts gX0_whoChalks_X0_isChalking rfl rfl rfl (by decide +kernel) ⟨Nat.le_of_ble_eq_true rfl, Nat.le_of_ble_eq_true rfl⟩) (o_v (o_pR hK hN hP) (va_recv hK hP (ci := 0) (q0 := 0) rfl rfl)) rfl rfl hl.1 rfl (lv_room (Nat.le_of_ble_eq_true rfl)) dX0_whoChalks_9 ⟨Nat.zero_le _, Nat.zero_le _⟩) (fun r_5 e_4 => ?_)
    have e_4 : r_5 = nI (bn (v 3 1 = 0)) := e_4
    subst e_4
    refine o_ifz (tgt := 17) hx hb dX0_whoChalks_12 (by decide) (fun c_6 => ?_) (fun c_6 => ?_)
    · skip
      refine lv_iinc (v := nI 2) (lv' := [(1, .int (nI 2)), (0, .ref (q 0))]) hx hb dX0_whoChalks_17 hl (k := 0) rfl (by decide) (by decide) rfl (fun ls hl => ?_)
      refine lv_goto (tgt := 2) hx hb dX0_whoChalks_20 (by decide) ?_
      refine lv_iload_n hx hb dX0_whoChalks_2 rfl (lv_at hl 0 rfl) ?_
      refine o_const (k := 3) hx hb dX0_whoChalks_3 (by decide) ?_
      refine o_icmp_ge (tgt := 23) hx hb dX0_whoChalks_4 (by decide) (Nat.le_of_ble_eq_true rfl) (Nat.le_of_ble_eq_true rfl) (fun c0 => absurd c0 (by decide)) (fun _ => ?_)
      refine lv_aload_n hx hb dX0_whoChalks_7 rfl (lv_at hl 1 rfl) ?_
      refine lv_iload_n hx hb dX0_whoChalks_8 rfl (lv_at hl 0 rfl) ?_
      refine o_ri (va_runV (As := [.int (nI 2)]) (rest := []) ⟨hx, hb, hml, hown, hts⟩ (k_X0_isChalking l D cI cR cS cL q v 2 (by show 2 < 3; first | assumption | omega) (by have := hp 2 (by omega); omega)) (cwV 1 hts gX0_whoChalks_X0_isChalking rfl rfl rfl (by decide +kernel) ⟨Nat.le_of_ble_eq_true rfl, Nat.le_of_ble_eq_true rfl⟩) (o_v (o_pR hK hN hP) (va_recv hK hP (ci := 0) (q0 := 0) rfl rfl)) rfl rfl hl.1 rfl (lv_room (Nat.le_of_ble_eq_true rfl)) dX0_whoChalks_9 ⟨Nat.zero_le _, Nat.zero_le _⟩) (fun r_8 e_7 => ?_)
      have e_7 : r_8 = nI (bn (v 3 2 = 0)) := e_7
      subst e_7
      refine o_ifz (tgt := 17) hx hb dX0_whoChalks_12 (by decide) (fun c_9 => ?_) (fun c_9 => ?_)
      · skip
        refine lv_iinc (v := nI 3) (lv' := [(1, .int (nI 3)), (0, .ref (q 0))]) hx hb dX0_whoChalks_17 hl (k := 0) rfl (by decide) (by decide) rfl (fun ls hl => ?_)
        refine lv_goto (tgt := 2) hx hb dX0_whoChalks_20 (by decide) ?_
        refine lv_iload_n hx hb dX0_whoChalks_2 rfl (lv_at hl 0 rfl) ?_
        refine o_const (k := 3) hx hb dX0_whoChalks_3 (by decide) ?_
        refine o_icmp_ge (tgt := 23) hx hb dX0_whoChalks_4 (by decide) (Nat.le_of_ble_eq_true rfl) (Nat.le_of_ble_eq_true rfl) (fun _ => ?_) (fun c0 => absurd c0 (by decide))
        refine o_const (k := 4294967295) hx hb dX0_whoChalks_23 (by decide) ?_
        exact W.iret (v := nI 4294967295) hx hb hrt (fun t ht hW => ⟨_, rfl, (by simp only [b_who, if_neg c_3, if_neg c_6, if_neg c_9]), ht⟩) (fun _ h => nomatch h) dX0_whoChalks_24
      · skip
        refine lv_iload_n hx hb dX0_whoChalks_15 rfl (lv_at hl 0 rfl) ?_
        exact W.iret (v := nI 2) hx hb hrt (fun t ht hW => ⟨_, rfl, (by simp only [b_who, if_neg c_3, if_neg c_6, if_pos c_9]), ht⟩) (fun _ h => nomatch h) dX0_whoChalks_16
    · skip
      refine lv_iload_n hx hb dX0_whoChalks_15 rfl (lv_at hl 0 rfl) ?_
      exact W.iret (v := nI 1) hx hb hrt (fun t ht hW => ⟨_, rfl, (by simp only [b_who, if_neg c_3, if_pos c_6]), ht⟩) (fun _ h => nomatch h) dX0_whoChalks_16
  · skip
    refine lv_iload_n hx hb dX0_whoChalks_15 rfl (lv_at hl 0 rfl) ?_
    exact W.iret (v := nI 0) hx hb hrt (fun t ht hW => ⟨_, rfl, (by simp only [b_who, if_pos c_3]), ht⟩) (fun _ h => nomatch h) dX0_whoChalks_16
theorem inX0_enter_X0 : ∀ w ∈ wsX00, w ∈ wsX0_enter := by decide +kernel
set_option maxHeartbeats 4000000 in
set_option maxRecDepth 100000 in
theorem k_X0_enter (l : Launch) (D : va_G) (cI cR cS cL : ClassId) (sz : Nat) (q : Nat → Nat) (v : Nat → Nat → Nat) (c : Nat) (hc : c < 3) (hp : ∀ c, c < 3 → v 3 c = 4294967295 ∨ v 3 c < 2 ^ 31) : Met l yX0_enter wsX0_enter ({ frames := 2, cells := 0, slots := 0, locals := 43 }) (va_Pc [.ref (q 0), .int (nI c)] (o_B D (o_T cI cR cS cL) (wB q cI v) sz)) (va_Qi (fun rz (_ : Unit) => rz = nI (b_inl (v 3))) (fun (_ : Unit) t => va_P D vwCl (wB q cI (b_enter v c)) t.heap) (va_A (wB q cI v) sz)) 0 0 (va_A (wB q cI v) sz) := by
  refine Met.ofW (cc := cX0_enter) (maxL := 3) (ret := (some .int)) (by decide) rfl ?_
  intro p e s m args below meth cd s₁ B hml hv
  obtain ⟨rfl, hsz, hP, hK, hD0, hN⟩ := hv
  have hx := B.exec
  have hb := B.bytes
  have hrt := B.returns
  have hts := atoms_spec (ws := wsX0_enter) B.pre
  have hown : s.vm.findClass RX0 = some m.cls := findClass_of_methodNamed B.named
  have hlocks := B.notSynchronized
  subst hsz
  have hD := hD0.self (sz := s.heap.size)
  generalize hAe : va_A (wB q cI v) s.heap.size = A at hD ⊢
  have hA : ∀ q : Nat, s.heap.size ≤ q → A q := fun q h => by rw [← hAe]; exact Or.inr h
  have hS : va_S A s.heap s.heap [] := va_S.rf
  have hl := lv_entry ([.ref (q 0), .int (nI c)]) (n := 3) (Nat.le_of_ble_eq_true rfl)
  rw [lg_entry_eq]
  generalize (lg_sl ([.ref (q 0), .int (nI c)]) ++ List.replicate (3 - (lg_sl ([.ref (q 0), .int (nI c)])).length) Slot.unset).toArray = ls at hl ⊢
  have hl : lv_has ls 3 [(0, .ref (q 0)), (1, .int (nI c))] := hl
  have hil := b_inl_le (v 3)
  refine lv_aload_n hx hb dX0_enter_0 rfl (lv_at hl 0 rfl) ?_
  refine o_ri (va_runV (As := []) (rest := []) ⟨hx, hb, hml, hown, hts⟩ (k_X0_inLine l D cI cR cS cL q v (by show ∀ c, c < 3 → v 3 c = 4294967295 ∨ v 3 c < 2 ^ 31; first | assumption | omega)) (cwV 0 hts gX0_enter_X0_inLine rfl rfl rfl (by decide +kernel) ⟨Nat.le_of_ble_eq_true rfl, Nat.le_of_ble_eq_true rfl⟩) (o_v (o_pR hK hN hP) (va_recv hK hP (ci := 0) (q0 := 0) rfl rfl)) rfl rfl hl.1 rfl (lv_room (Nat.le_of_ble_eq_true rfl)) dX0_enter_1 ⟨Nat.zero_le _, Nat.zero_le _⟩) (fun r_2 e_1 => ?_)
  have e_1 : r_2 = nI (b_inl (v 3)) := e_1
  subst e_1
  refine lv_istore_n (lv' := [(2, .int (nI (b_inl (v 3)))), (0, .ref (q 0)), (1, .int (nI c))]) hx hb dX0_enter_4 rfl hl (by decide) rfl (fun ls hl => ?_)
  refine lv_aload_n hx hb dX0_enter_5 rfl (lv_at hl 1 rfl) ?_
  refine va_get (D := D) (ci := 0) (v := .ref (q 3)) (C := RX0) (T := TX0) (N := 5) hx hb hts inX0_enter_X0 hown hK hP 0 rfl rfl 3 (by decide) (hts (.fieldLink RX0 18 "OddNotice$Board" "place" "[I") (List.mem_of_getElem? (i := 1) (by decide +kernel))) (fun _ h9 => h9) rfl dX0_enter_6 ?_
  refine lv_iload_n hx hb dX0_enter_9 rfl (lv_at hl 2 rfl) ?_
  refine lv_iload_n hx hb dX0_enter_10 rfl (lv_at hl 0 rfl) ?_
  refine o_iast (g := (v 3)) hx hb hK hP hD hS 3 0 rfl rfl (by omega) (Nat.le_of_ble_eq_true rfl) dX0_enter_11 (fun H locs hP hD hS => ?_)
  have hP : va_P D vwCl (wB q cI (va_up v 3 (va_up (v 3) c (b_inl (v 3))))) H := hP
  have hD : va_D A (wB q cI (va_up v 3 (va_up (v 3) c (b_inl (v 3))))) := hD
  refine lv_iload_n hx hb dX0_enter_12 rfl (lv_at hl 0 rfl) ?_
  refine o_if_ne (tgt := 26) hx hb dX0_enter_13 (by decide) (by omega) (fun c_3 => ?_) (fun c_3 => ?_)
  · skip
    refine lv_iload_n hx hb dX0_enter_26 rfl (lv_at hl 0 rfl) ?_
    have w_4 : (wB q cI (b_enter v c)) = (wB q cI (va_up v 3 (va_up (v 3) c (b_inl (v 3))))) := (by unfold b_enter; rw [if_neg c_3]; first | done | rfl)
    rw [← w_4] at hP
    exact W.iret (v := nI (b_inl (v 3))) hx hb hrt (fun t ht hW => ⟨⟨_, (), rfl, rfl, by show va_P D vwCl _ t.heap; rw [ht]; exact hP⟩, hS.F ht⟩) hS.2.2 dX0_enter_27
  · skip
    refine lv_aload_n hx hb dX0_enter_16 rfl (lv_at hl 1 rfl) ?_
    refine lv_dup hx hb dX0_enter_17 rfl ?_
    refine va_get (D := D) (ci := 0) (v := .int (nI (v 0 0))) (C := RX0) (T := TX0) (N := 5) hx hb hts inX0_enter_X0 hown hK hP 0 rfl rfl 0 (by decide) (hts (.fieldLink RX0 24 "OddNotice$Board" "number" "I") (List.mem_of_getElem? (i := 2) (by decide +kernel))) (fun _ h9 => h9) rfl dX0_enter_18 ?_
    refine o_const (k := 1) hx hb dX0_enter_21 (by decide) ?_
    refine o_iadd (a := (v 0 0)) (b := 1) (k := ((v 0 0) + 1)) hx hb dX0_enter_22 rfl ?_
    refine va_put (D := D) (ci := 0) (v := .int (nI ((v 0 0) + 1))) (ty := .int) (C := RX0) (T := TX0) (N := 5) hx hb hts inX0_enter_X0 tyX0 tyX0_ok nmX0 hown hK hP hD hS 0 rfl rfl 0 (by decide) (hts (.fieldLink RX0 24 "OddNotice$Board" "number" "I") (List.mem_of_getElem? (i := 2) (by decide +kernel))) (fun _ h9 => h9) rfl (by decide +kernel) rfl rfl (Nat.le_of_ble_eq_true rfl) dX0_enter_23 (fun H locs hP hD hS => ?_)
    have hP : va_P D vwCl (wB q cI (va_up (va_up v 0 (va_up (v 0) 0 ((v 0 0) + 1))) 3 (va_up (v 3) c (b_inl (v 3))))) H := hP
    have hD : va_D A (wB q cI (va_up (va_up v 0 (va_up (v 0) 0 ((v 0 0) + 1))) 3 (va_up (v 3) c (b_inl (v 3))))) := hD
    refine lv_iload_n hx hb dX0_enter_26 rfl (lv_at hl 0 rfl) ?_
    have w_5 : (wB q cI (b_enter v c)) = (wB q cI (va_up (va_up v 0 (va_up (v 0) 0 ((v 0 0) + 1))) 3 (va_up (v 3) c (b_inl (v 3))))) := (by unfold b_enter; rw [if_pos c_3]; first | done | rfl)
    rw [← w_5] at hP
    exact W.iret (v := nI (b_inl (v 3))) hx hb hrt (fun t ht hW => ⟨⟨_, (), rfl, rfl, by show va_P D vwCl _ t.heap; rw [ht]; exact hP⟩, hS.F ht⟩) hS.2.2 dX0_enter_27
theorem inX0_write_X0 : ∀ w ∈ wsX00, w ∈ wsX0_write := by decide +kernel
set_option maxHeartbeats 4000000 in
set_option maxRecDepth 100000 in
theorem k_X0_write (l : Launch) (D : va_G) (cI cR cS cL : ClassId) (sz : Nat) (q : Nat → Nat) (v : Nat → Nat → Nat) (f : Nat) (x : Nat) (hf : f < 5) : Met l yX0_write wsX0_write ({ frames := 0, cells := 0, slots := 0, locals := 0 }) (va_Pc [.ref (q 0), .int (nI f), .int (nI x)] (o_B D (o_T cI cR cS cL) (wB q cI v) sz)) (va_Qi (fun rz (_ : Unit) => rz = nI (v 1 f)) (fun (_ : Unit) t => va_P D vwCl (wB q cI (b_write v f x)) t.heap) (va_A (wB q cI v) sz)) 0 0 (va_A (wB q cI v) sz) := by
  refine Met.ofW (cc := cX0_write) (maxL := 4) (ret := (some .int)) (by decide) rfl ?_
  intro p e s m args below meth cd s₁ B hml hv
  obtain ⟨rfl, hsz, hP, hK, hD0, hN⟩ := hv
  have hx := B.exec
  have hb := B.bytes
  have hrt := B.returns
  have hts := atoms_spec (ws := wsX0_write) B.pre
  have hown : s.vm.findClass RX0 = some m.cls := findClass_of_methodNamed B.named
  have hlocks := B.notSynchronized
  subst hsz
  have hD := hD0.self (sz := s.heap.size)
  generalize hAe : va_A (wB q cI v) s.heap.size = A at hD ⊢
  have hA : ∀ q : Nat, s.heap.size ≤ q → A q := fun q h => by rw [← hAe]; exact Or.inr h
  have hS : va_S A s.heap s.heap [] := va_S.rf
  have hl := lv_entry ([.ref (q 0), .int (nI f), .int (nI x)]) (n := 4) (Nat.le_of_ble_eq_true rfl)
  rw [lg_entry_eq]
  generalize (lg_sl ([.ref (q 0), .int (nI f), .int (nI x)]) ++ List.replicate (4 - (lg_sl ([.ref (q 0), .int (nI f), .int (nI x)])).length) Slot.unset).toArray = ls at hl ⊢
  have hl : lv_has ls 4 [(0, .ref (q 0)), (1, .int (nI f)), (2, .int (nI x))] := hl
  refine lv_aload_n hx hb dX0_write_0 rfl (lv_at hl 0 rfl) ?_
  refine va_get (D := D) (ci := 0) (v := .ref (q 1)) (C := RX0) (T := TX0) (N := 5) hx hb hts inX0_write_X0 hown hK hP 0 rfl rfl 1 (by decide) (hts (.fieldLink RX0 9 "OddNotice$Board" "fields" "[I") (List.mem_of_getElem? (i := 1) (by decide +kernel))) (fun _ h9 => h9) rfl dX0_write_1 ?_
  refine lv_iload_n hx hb dX0_write_4 rfl (lv_at hl 1 rfl) ?_
  refine o_iald (v := nI (v 1 f)) hx hb hK hP 1 0 rfl rfl (by omega) (Nat.le_of_ble_eq_true rfl) rfl dX0_write_5 ?_
  refine lv_istore_n (lv' := [(3, .int (nI (v 1 f))), (0, .ref (q 0)), (1, .int (nI f)), (2, .int (nI x))]) hx hb dX0_write_6 rfl hl (by decide) rfl (fun ls hl => ?_)
  refine lv_aload_n hx hb dX0_write_7 rfl (lv_at hl 1 rfl) ?_
  refine va_get (D := D) (ci := 0) (v := .ref (q 1)) (C := RX0) (T := TX0) (N := 5) hx hb hts inX0_write_X0 hown hK hP 0 rfl rfl 1 (by decide) (hts (.fieldLink RX0 9 "OddNotice$Board" "fields" "[I") (List.mem_of_getElem? (i := 1) (by decide +kernel))) (fun _ h9 => h9) rfl dX0_write_8 ?_
  refine lv_iload_n hx hb dX0_write_11 rfl (lv_at hl 2 rfl) ?_
  refine lv_iload_n hx hb dX0_write_12 rfl (lv_at hl 3 rfl) ?_
  refine o_iast (g := (v 1)) hx hb hK hP hD hS 1 0 rfl rfl (by omega) (Nat.le_of_ble_eq_true rfl) dX0_write_13 (fun H locs hP hD hS => ?_)
  have hP : va_P D vwCl (wB q cI (va_up v 1 (va_up (v 1) f x))) H := hP
  have hD : va_D A (wB q cI (va_up v 1 (va_up (v 1) f x))) := hD
  refine lv_iload_n hx hb dX0_write_14 rfl (lv_at hl 0 rfl) ?_
  have w_1 : (wB q cI (b_write v f x)) = (wB q cI (va_up v 1 (va_up (v 1) f x))) := (by unfold b_write; rfl)
  rw [← w_1] at hP
  exact W.iret (v := nI (v 1 f)) hx hb hrt (fun t ht hW => ⟨⟨_, (), rfl, rfl, by show va_P D vwCl _ t.heap; rw [ht]; exact hP⟩, hS.F ht⟩) hS.2.2 dX0_write_15
theorem inX0_stepForward_X0 : ∀ w ∈ wsX00, w ∈ wsX0_stepForward := by decide +kernel
set_option maxHeartbeats 4000000 in
set_option maxRecDepth 100000 in
theorem k_X0_stepForward (l : Launch) (D : va_G) (cI cR cS cL : ClassId) (sz : Nat) (q : Nat → Nat) (v : Nat → Nat → Nat) (hp : ∀ c, c < 3 → v 3 c = 4294967295 ∨ v 3 c < 2 ^ 31) : Met l yX0_stepForward wsX0_stepForward ({ frames := 0, cells := 0, slots := 0, locals := 0 }) (va_Pc [.ref (q 0)] (o_B D (o_T cI cR cS cL) (wB q cI v) sz)) (va_Qv (fun (_ : Unit) => True) (fun (_ : Unit) t => va_P D vwCl (wB q cI (va_up v 3 (b_stpf (v 3)))) t.heap) (va_A (wB q cI v) sz)) 0 0 (va_A (wB q cI v) sz) := by
  refine Met.ofW (cc := cX0_stepForward) (maxL := 2) (ret := none) (by decide) rfl ?_
  intro p e s m args below meth cd s₁ B hml hv
  obtain ⟨rfl, hsz, hP, hK, hD0, hN⟩ := hv
  have hx := B.exec
  have hb := B.bytes
  have hrt := B.returns
  have hts := atoms_spec (ws := wsX0_stepForward) B.pre
  have hown : s.vm.findClass RX0 = some m.cls := findClass_of_methodNamed B.named
  have hlocks := B.notSynchronized
  subst hsz
  have hD := hD0.self (sz := s.heap.size)
  generalize hAe : va_A (wB q cI v) s.heap.size = A at hD ⊢
  have hA : ∀ q : Nat, s.heap.size ≤ q → A q := fun q h => by rw [← hAe]; exact Or.inr h
  have hS : va_S A s.heap s.heap [] := va_S.rf
  have hl := lv_entry ([.ref (q 0)]) (n := 2) (Nat.le_of_ble_eq_true rfl)
  rw [lg_entry_eq]
  generalize (lg_sl ([.ref (q 0)]) ++ List.replicate (2 - (lg_sl ([.ref (q 0)])).length) Slot.unset).toArray = ls at hl ⊢
  have hl : lv_has ls 2 [(0, .ref (q 0))] := hl
  refine o_const (k := 0) hx hb dX0_stepForward_0 (by decide) ?_
  refine lv_istore_n (lv' := [(1, .int (nI 0)), (0, .ref (q 0))]) hx hb dX0_stepForward_1 rfl hl (by decide) rfl (fun ls hl => ?_)
  refine lv_iload_n hx hb dX0_stepForward_2 rfl (lv_at hl 0 rfl) ?_
  refine o_const (k := 3) hx hb dX0_stepForward_3 (by decide) ?_
  refine o_icmp_ge (tgt := 42) hx hb dX0_stepForward_4 (by decide) (Nat.le_of_ble_eq_true rfl) (Nat.le_of_ble_eq_true rfl) (fun c0 => absurd c0 (by decide)) (fun _ => ?_)
  refine lv_aload_n hx hb dX0_stepForward_7 rfl (lv_at hl 1 rfl) ?_
  refine va_get (D := D) (ci := 0) (v := .ref (q 3)) (C := RX0) (T := TX0) (N := 5) hx hb hts inX0_stepForward_X0 hown hK hP 0 rfl rfl 3 (by decide) (hts (.fieldLink RX0 18 "OddNotice$Board" "place" "[I") (List.mem_of_getElem? (i := 1) (by decide +kernel))) (fun _ h9 => h9) rfl dX0_stepForward_8 ?_
  refine lv_iload_n hx hb dX0_stepForward_11 rfl (lv_at hl 0 rfl) ?_
  refine o_iald (v := nI (v 3 0)) hx hb hK hP 3 0 rfl rfl (Nat.le_of_ble_eq_true rfl) (Nat.le_of_ble_eq_true rfl) rfl dX0_stepForward_12 ?_
  refine o_if_le_pm (tgt := 29) hx hb dX0_stepForward_13 (by decide) (hp 0 (by omega)) (fun c_1 => ?_) (fun c_1 => ?_)
  · skip
    refine lv_aload_n hx hb dX0_stepForward_29 rfl (lv_at hl 1 rfl) ?_
    refine va_get (D := D) (ci := 0) (v := .ref (q 3)) (C := RX0) (T := TX0) (N := 5) hx hb hts inX0_stepForward_X0 hown hK hP 0 rfl rfl 3 (by decide) (hts (.fieldLink RX0 18 "OddNotice$Board" "place" "[I") (List.mem_of_getElem? (i := 1) (by decide +kernel))) (fun _ h9 => h9) rfl dX0_stepForward_30 ?_
    refine lv_iload_n hx hb dX0_stepForward_33 rfl (lv_at hl 0 rfl) ?_
    refine o_const (k := 4294967295) hx hb dX0_stepForward_34 (by decide) ?_
    refine o_iast (g := (v 3)) hx hb hK hP hD hS 3 0 rfl rfl (Nat.le_of_ble_eq_true rfl) (Nat.le_of_ble_eq_true rfl) dX0_stepForward_35 (fun H locs hP hD hS => ?_)
    have hP : va_P D vwCl (wB q cI (va_up v 3 (va_up (v 3) 0 4294967295))) H := hP
    have hD : va_D A (wB q cI (va_up v 3 (va_up (v 3) 0 4294967295))) := hD
    refine lv_iinc (v := nI 1) (lv' := [(1, .int (nI 1)), (0, .ref (q 0))]) hx hb dX0_stepForward_36 hl (k := 0) rfl (by decide) (by decide) rfl (fun ls hl => ?_)
    refine lv_goto (tgt := 2) hx hb dX0_stepForward_39 (by decide) ?_
    refine lv_iload_n hx hb dX0_stepForward_2 rfl (lv_at hl 0 rfl) ?_
    refine o_const (k := 3) hx hb dX0_stepForward_3 (by decide) ?_
    refine o_icmp_ge (tgt := 42) hx hb dX0_stepForward_4 (by decide) (Nat.le_of_ble_eq_true rfl) (Nat.le_of_ble_eq_true rfl) (fun c0 => absurd c0 (by decide)) (fun _ => ?_)
    refine lv_aload_n hx hb dX0_stepForward_7 rfl (lv_at hl 1 rfl) ?_
    refine va_get (D := D) (ci := 0) (v := .ref (q 3)) (C := RX0) (T := TX0) (N := 5) hx hb hts inX0_stepForward_X0 hown hK hP 0 rfl rfl 3 (by decide) (hts (.fieldLink RX0 18 "OddNotice$Board" "place" "[I") (List.mem_of_getElem? (i := 1) (by decide +kernel))) (fun _ h9 => h9) rfl dX0_stepForward_8 ?_
    refine lv_iload_n hx hb dX0_stepForward_11 rfl (lv_at hl 0 rfl) ?_
    refine o_iald (v := nI (v 3 1)) hx hb hK hP 3 0 rfl rfl (Nat.le_of_ble_eq_true rfl) (Nat.le_of_ble_eq_true rfl) (congrArg nI (show (va_up (v 3) 0 4294967295) 1 = (v 3 1) from (o_un (by decide)))) dX0_stepForward_12 ?_
    refine o_if_le_pm (tgt := 29) hx hb dX0_stepForward_13 (by decide) (hp 1 (by omega)) (fun c_2 => ?_) (fun c_2 => ?_)
    · skip
      refine lv_aload_n hx hb dX0_stepForward_29 rfl (lv_at hl 1 rfl) ?_
      refine va_get (D := D) (ci := 0) (v := .ref (q 3)) (C := RX0) (T := TX0) (N := 5) hx hb hts inX0_stepForward_X0 hown hK hP 0 rfl rfl 3 (by decide) (hts (.fieldLink RX0 18 "OddNotice$Board" "place" "[I") (List.mem_of_getElem? (i := 1) (by decide +kernel))) (fun _ h9 => h9) rfl dX0_stepForward_30 ?_
      refine lv_iload_n hx hb dX0_stepForward_33 rfl (lv_at hl 0 rfl) ?_
      refine o_const (k := 4294967295) hx hb dX0_stepForward_34 (by decide) ?_
      refine o_iast (g := (va_up (v 3) 0 4294967295)) hx hb hK hP hD hS 3 0 rfl rfl (Nat.le_of_ble_eq_true rfl) (Nat.le_of_ble_eq_true rfl) dX0_stepForward_35 (fun H locs hP hD hS => ?_)
      have hP : va_P D vwCl (wB q cI (va_up v 3 (va_up (va_up (v 3) 0 4294967295) 1 4294967295))) H := hP
      have hD : va_D A (wB q cI (va_up v 3 (va_up (va_up (v 3) 0 4294967295) 1 4294967295))) := hD
      refine lv_iinc (v := nI 2) (lv' := [(1, .int (nI 2)), (0, .ref (q 0))]) hx hb dX0_stepForward_36 hl (k := 0) rfl (by decide) (by decide) rfl (fun ls hl => ?_)
      refine lv_goto (tgt := 2) hx hb dX0_stepForward_39 (by decide) ?_
      refine lv_iload_n hx hb dX0_stepForward_2 rfl (lv_at hl 0 rfl) ?_
      refine o_const (k := 3) hx hb dX0_stepForward_3 (by decide) ?_
      refine o_icmp_ge (tgt := 42) hx hb dX0_stepForward_4 (by decide) (Nat.le_of_ble_eq_true rfl) (Nat.le_of_ble_eq_true rfl) (fun c0 => absurd c0 (by decide)) (fun _ => ?_)
      refine lv_aload_n hx hb dX0_stepForward_7 rfl (lv_at hl 1 rfl) ?_
      refine va_get (D := D) (ci := 0) (v := .ref (q 3)) (C := RX0) (T := TX0) (N := 5) hx hb hts inX0_stepForward_X0 hown hK hP 0 rfl rfl 3 (by decide) (hts (.fieldLink RX0 18 "OddNotice$Board" "place" "[I") (List.mem_of_getElem? (i := 1) (by decide +kernel))) (fun _ h9 => h9) rfl dX0_stepForward_8 ?_
      refine lv_iload_n hx hb dX0_stepForward_11 rfl (lv_at hl 0 rfl) ?_
      refine o_iald (v := nI (v 3 2)) hx hb hK hP 3 0 rfl rfl (Nat.le_of_ble_eq_true rfl) (Nat.le_of_ble_eq_true rfl) (congrArg nI (show (va_up (va_up (v 3) 0 4294967295) 1 4294967295) 2 = (v 3 2) from (Eq.trans (o_un (by decide)) (o_un (by decide))))) dX0_stepForward_12 ?_
      refine o_if_le_pm (tgt := 29) hx hb dX0_stepForward_13 (by decide) (hp 2 (by omega)) (fun c_3 => ?_) (fun c_3 => ?_)
      · skip
        refine lv_aload_n hx hb dX0_stepForward_29 rfl (lv_at hl 1 rfl) ?_
        refine va_get (D := D) (ci := 0) (v := .ref (q 3)) (C := RX0) (T := TX0) (N := 5) hx hb hts inX0_stepForward_X0 hown hK hP 0 rfl rfl 3 (by decide) (hts (.fieldLink RX0 18 "OddNotice$Board" "place" "[I") (List.mem_of_getElem? (i := 1) (by decide +kernel))) (fun _ h9 => h9) rfl dX0_stepForward_30 ?_
        refine lv_iload_n hx hb dX0_stepForward_33 rfl (lv_at hl 0 rfl) ?_
        refine o_const (k := 4294967295) hx hb dX0_stepForward_34 (by decide) ?_
        refine o_iast (g := (va_up (va_up (v 3) 0 4294967295) 1 4294967295)) hx hb hK hP hD hS 3 0 rfl rfl (Nat.le_of_ble_eq_true rfl) (Nat.le_of_ble_eq_true rfl) dX0_stepForward_35 (fun H locs hP hD hS => ?_)
        have hP : va_P D vwCl (wB q cI (va_up v 3 (va_up (va_up (va_up (v 3) 0 4294967295) 1 4294967295) 2 4294967295))) H := hP
        have hD : va_D A (wB q cI (va_up v 3 (va_up (va_up (va_up (v 3) 0 4294967295) 1 4294967295) 2 4294967295))) := hD
        refine lv_iinc (v := nI 3) (lv' := [(1, .int (nI 3)), (0, .ref (q 0))]) hx hb dX0_stepForward_36 hl (k := 0) rfl (by decide) (by decide) rfl (fun ls hl => ?_)
        refine lv_goto (tgt := 2) hx hb dX0_stepForward_39 (by decide) ?_
        refine lv_iload_n hx hb dX0_stepForward_2 rfl (lv_at hl 0 rfl) ?_
        refine o_const (k := 3) hx hb dX0_stepForward_3 (by decide) ?_
        refine o_icmp_ge (tgt := 42) hx hb dX0_stepForward_4 (by decide) (Nat.le_of_ble_eq_true rfl) (Nat.le_of_ble_eq_true rfl) (fun _ => ?_) (fun c0 => absurd c0 (by decide))
        have w_4 : (wB q cI (va_up v 3 (b_stpf (v 3)))) = (wB q cI (va_up v 3 (va_up (va_up (va_up (v 3) 0 4294967295) 1 4294967295) 2 4294967295))) := (by unfold b_stpf b_stp; rw [if_neg c_1, if_neg c_2, if_neg c_3]; first | done | rfl)
        rw [← w_4] at hP
        exact W.vret hx hb hrt (fun t ht hW => ⟨⟨(), rfl, trivial, by show va_P D vwCl _ t.heap; rw [ht]; exact hP⟩, hS.F ht⟩) hS.2.2 dX0_stepForward_42
      · skip
        refine lv_aload_n hx hb dX0_stepForward_16 rfl (lv_at hl 1 rfl) ?_
        refine va_get (D := D) (ci := 0) (v := .ref (q 3)) (C := RX0) (T := TX0) (N := 5) hx hb hts inX0_stepForward_X0 hown hK hP 0 rfl rfl 3 (by decide) (hts (.fieldLink RX0 18 "OddNotice$Board" "place" "[I") (List.mem_of_getElem? (i := 1) (by decide +kernel))) (fun _ h9 => h9) rfl dX0_stepForward_17 ?_
        refine lv_iload_n hx hb dX0_stepForward_20 rfl (lv_at hl 0 rfl) ?_
        refine lv_dup2_11 hx hb dX0_stepForward_21 rfl rfl ?_
        refine o_iald (v := nI (v 3 2)) hx hb hK hP 3 0 rfl rfl (Nat.le_of_ble_eq_true rfl) (Nat.le_of_ble_eq_true rfl) (congrArg nI (show (va_up (va_up (v 3) 0 4294967295) 1 4294967295) 2 = (v 3 2) from (Eq.trans (o_un (by decide)) (o_un (by decide))))) dX0_stepForward_22 ?_
        refine o_const (k := 1) hx hb dX0_stepForward_23 (by decide) ?_
        refine o_isub (a := (v 3 2)) (b := 1) (k := ((v 3 2) - 1)) hx hb dX0_stepForward_24 (by omega) rfl ?_
        refine o_iast (g := (va_up (va_up (v 3) 0 4294967295) 1 4294967295)) hx hb hK hP hD hS 3 0 rfl rfl (Nat.le_of_ble_eq_true rfl) (Nat.le_of_ble_eq_true rfl) dX0_stepForward_25 (fun H locs hP hD hS => ?_)
        have hP : va_P D vwCl (wB q cI (va_up v 3 (va_up (va_up (va_up (v 3) 0 4294967295) 1 4294967295) 2 ((v 3 2) - 1)))) H := hP
        have hD : va_D A (wB q cI (va_up v 3 (va_up (va_up (va_up (v 3) 0 4294967295) 1 4294967295) 2 ((v 3 2) - 1)))) := hD
        refine lv_goto (tgt := 36) hx hb dX0_stepForward_26 (by decide) ?_
        refine lv_iinc (v := nI 3) (lv' := [(1, .int (nI 3)), (0, .ref (q 0))]) hx hb dX0_stepForward_36 hl (k := 0) rfl (by decide) (by decide) rfl (fun ls hl => ?_)
        refine lv_goto (tgt := 2) hx hb dX0_stepForward_39 (by decide) ?_
        refine lv_iload_n hx hb dX0_stepForward_2 rfl (lv_at hl 0 rfl) ?_
        refine o_const (k := 3) hx hb dX0_stepForward_3 (by decide) ?_
        refine o_icmp_ge (tgt := 42) hx hb dX0_stepForward_4 (by decide) (Nat.le_of_ble_eq_true rfl) (Nat.le_of_ble_eq_true rfl) (fun _ => ?_) (fun c0 => absurd c0 (by decide))
        have w_5 : (wB q cI (va_up v 3 (b_stpf (v 3)))) = (wB q cI (va_up v 3 (va_up (va_up (va_up (v 3) 0 4294967295) 1 4294967295) 2 ((v 3 2) - 1)))) := (by unfold b_stpf b_stp; rw [if_neg c_1, if_neg c_2, if_pos c_3]; first | done | rfl)
        rw [← w_5] at hP
        exact W.vret hx hb hrt (fun t ht hW => ⟨⟨(), rfl, trivial, by show va_P D vwCl _ t.heap; rw [ht]; exact hP⟩, hS.F ht⟩) hS.2.2 dX0_stepForward_42
    · skip
      refine lv_aload_n hx hb dX0_stepForward_16 rfl (lv_at hl 1 rfl) ?_
      refine va_get (D := D) (ci := 0) (v := .ref (q 3)) (C := RX0) (T := TX0) (N := 5) hx hb hts inX0_stepForward_X0 hown hK hP 0 rfl rfl 3 (by decide) (hts (.fieldLink RX0 18 "OddNotice$Board" "place" "[I") (List.mem_of_getElem? (i := 1) (by decide +kernel))) (fun _ h9 => h9) rfl dX0_stepForward_17 ?_
      refine lv_iload_n hx hb dX0_stepForward_20 rfl (lv_at hl 0 rfl) ?_
      refine lv_dup2_11 hx hb dX0_stepForward_21 rfl rfl ?_
      refine o_iald (v := nI (v 3 1)) hx hb hK hP 3 0 rfl rfl (Nat.le_of_ble_eq_true rfl) (Nat.le_of_ble_eq_true rfl) (congrArg nI (show (va_up (v 3) 0 4294967295) 1 = (v 3 1) from (o_un (by decide)))) dX0_stepForward_22 ?_
      refine o_const (k := 1) hx hb dX0_stepForward_23 (by decide) ?_
      refine o_isub (a := (v 3 1)) (b := 1) (k := ((v 3 1) - 1)) hx hb dX0_stepForward_24 (by omega) rfl ?_
      refine o_iast (g := (va_up (v 3) 0 4294967295)) hx hb hK hP hD hS 3 0 rfl rfl (Nat.le_of_ble_eq_true rfl) (Nat.le_of_ble_eq_true rfl) dX0_stepForward_25 (fun H locs hP hD hS => ?_)
      have hP : va_P D vwCl (wB q cI (va_up v 3 (va_up (va_up (v 3) 0 4294967295) 1 ((v 3 1) - 1)))) H := hP
      have hD : va_D A (wB q cI (va_up v 3 (va_up (va_up (v 3) 0 4294967295) 1 ((v 3 1) - 1)))) := hD
      refine lv_goto (tgt := 36) hx hb dX0_stepForward_26 (by decide) ?_
      refine lv_iinc (v := nI 2) (lv' := [(1, .int (nI 2)), (0, .ref (q 0))]) hx hb dX0_stepForward_36 hl (k := 0) rfl (by decide) (by decide) rfl (fun ls hl => ?_)
      refine lv_goto (tgt := 2) hx hb dX0_stepForward_39 (by decide) ?_
      refine lv_iload_n hx hb dX0_stepForward_2 rfl (lv_at hl 0 rfl) ?_
      refine o_const (k := 3) hx hb dX0_stepForward_3 (by decide) ?_
      refine o_icmp_ge (tgt := 42) hx hb dX0_stepForward_4 (by decide) (Nat.le_of_ble_eq_true rfl) (Nat.le_of_ble_eq_true rfl) (fun c0 => absurd c0 (by decide)) (fun _ => ?_)
      refine lv_aload_n hx hb dX0_stepForward_7 rfl (lv_at hl 1 rfl) ?_
      refine va_get (D := D) (ci := 0) (v := .ref (q 3)) (C := RX0) (T := TX0) (N := 5) hx hb hts inX0_stepForward_X0 hown hK hP 0 rfl rfl 3 (by decide) (hts (.fieldLink RX0 18 "OddNotice$Board" "place" "[I") (List.mem_of_getElem? (i := 1) (by decide +kernel))) (fun _ h9 => h9) rfl dX0_stepForward_8 ?_
      refine lv_iload_n hx hb dX0_stepForward_11 rfl (lv_at hl 0 rfl) ?_
      refine o_iald (v := nI (v 3 2)) hx hb hK hP 3 0 rfl rfl (Nat.le_of_ble_eq_true rfl) (Nat.le_of_ble_eq_true rfl) (congrArg nI (show (va_up (va_up (v 3) 0 4294967295) 1 ((v 3 1) - 1)) 2 = (v 3 2) from (Eq.trans (o_un (by decide)) (o_un (by decide))))) dX0_stepForward_12 ?_
      refine o_if_le_pm (tgt := 29) hx hb dX0_stepForward_13 (by decide) (hp 2 (by omega)) (fun c_6 => ?_) (fun c_6 => ?_)
      · skip
        refine lv_aload_n hx hb dX0_stepForward_29 rfl (lv_at hl 1 rfl) ?_
        refine va_get (D := D) (ci := 0) (v := .ref (q 3)) (C := RX0) (T := TX0) (N := 5) hx hb hts inX0_stepForward_X0 hown hK hP 0 rfl rfl 3 (by decide) (hts (.fieldLink RX0 18 "OddNotice$Board" "place" "[I") (List.mem_of_getElem? (i := 1) (by decide +kernel))) (fun _ h9 => h9) rfl dX0_stepForward_30 ?_
        refine lv_iload_n hx hb dX0_stepForward_33 rfl (lv_at hl 0 rfl) ?_
        refine o_const (k := 4294967295) hx hb dX0_stepForward_34 (by decide) ?_
        refine o_iast (g := (va_up (va_up (v 3) 0 4294967295) 1 ((v 3 1) - 1))) hx hb hK hP hD hS 3 0 rfl rfl (Nat.le_of_ble_eq_true rfl) (Nat.le_of_ble_eq_true rfl) dX0_stepForward_35 (fun H locs hP hD hS => ?_)
        have hP : va_P D vwCl (wB q cI (va_up v 3 (va_up (va_up (va_up (v 3) 0 4294967295) 1 ((v 3 1) - 1)) 2 4294967295))) H := hP
        have hD : va_D A (wB q cI (va_up v 3 (va_up (va_up (va_up (v 3) 0 4294967295) 1 ((v 3 1) - 1)) 2 4294967295))) := hD
        refine lv_iinc (v := nI 3) (lv' := [(1, .int (nI 3)), (0, .ref (q 0))]) hx hb dX0_stepForward_36 hl (k := 0) rfl (by decide) (by decide) rfl (fun ls hl => ?_)
        refine lv_goto (tgt := 2) hx hb dX0_stepForward_39 (by decide) ?_
        refine lv_iload_n hx hb dX0_stepForward_2 rfl (lv_at hl 0 rfl) ?_
        refine o_const (k := 3) hx hb dX0_stepForward_3 (by decide) ?_
        refine o_icmp_ge (tgt := 42) hx hb dX0_stepForward_4 (by decide) (Nat.le_of_ble_eq_true rfl) (Nat.le_of_ble_eq_true rfl) (fun _ => ?_) (fun c0 => absurd c0 (by decide))
        have w_7 : (wB q cI (va_up v 3 (b_stpf (v 3)))) = (wB q cI (va_up v 3 (va_up (va_up (va_up (v 3) 0 4294967295) 1 ((v 3 1) - 1)) 2 4294967295))) := (by unfold b_stpf b_stp; rw [if_neg c_1, if_pos c_2, if_neg c_6]; first | done | rfl)
        rw [← w_7] at hP
        exact W.vret hx hb hrt (fun t ht hW => ⟨⟨(), rfl, trivial, by show va_P D vwCl _ t.heap; rw [ht]; exact hP⟩, hS.F ht⟩) hS.2.2 dX0_stepForward_42
      · skip
        refine lv_aload_n hx hb dX0_stepForward_16 rfl (lv_at hl 1 rfl) ?_
        refine va_get (D := D) (ci := 0) (v := .ref (q 3)) (C := RX0) (T := TX0) (N := 5) hx hb hts inX0_stepForward_X0 hown hK hP 0 rfl rfl 3 (by decide) (hts (.fieldLink RX0 18 "OddNotice$Board" "place" "[I") (List.mem_of_getElem? (i := 1) (by decide +kernel))) (fun _ h9 => h9) rfl dX0_stepForward_17 ?_
        refine lv_iload_n hx hb dX0_stepForward_20 rfl (lv_at hl 0 rfl) ?_
        refine lv_dup2_11 hx hb dX0_stepForward_21 rfl rfl ?_
        refine o_iald (v := nI (v 3 2)) hx hb hK hP 3 0 rfl rfl (Nat.le_of_ble_eq_true rfl) (Nat.le_of_ble_eq_true rfl) (congrArg nI (show (va_up (va_up (v 3) 0 4294967295) 1 ((v 3 1) - 1)) 2 = (v 3 2) from (Eq.trans (o_un (by decide)) (o_un (by decide))))) dX0_stepForward_22 ?_
        refine o_const (k := 1) hx hb dX0_stepForward_23 (by decide) ?_
        refine o_isub (a := (v 3 2)) (b := 1) (k := ((v 3 2) - 1)) hx hb dX0_stepForward_24 (by omega) rfl ?_
        refine o_iast (g := (va_up (va_up (v 3) 0 4294967295) 1 ((v 3 1) - 1))) hx hb hK hP hD hS 3 0 rfl rfl (Nat.le_of_ble_eq_true rfl) (Nat.le_of_ble_eq_true rfl) dX0_stepForward_25 (fun H locs hP hD hS => ?_)
        have hP : va_P D vwCl (wB q cI (va_up v 3 (va_up (va_up (va_up (v 3) 0 4294967295) 1 ((v 3 1) - 1)) 2 ((v 3 2) - 1)))) H := hP
        have hD : va_D A (wB q cI (va_up v 3 (va_up (va_up (va_up (v 3) 0 4294967295) 1 ((v 3 1) - 1)) 2 ((v 3 2) - 1)))) := hD
        refine lv_goto (tgt := 36) hx hb dX0_stepForward_26 (by decide) ?_
        refine lv_iinc (v := nI 3) (lv' := [(1, .int (nI 3)), (0, .ref (q 0))]) hx hb dX0_stepForward_36 hl (k := 0) rfl (by decide) (by decide) rfl (fun ls hl => ?_)
        refine lv_goto (tgt := 2) hx hb dX0_stepForward_39 (by decide) ?_
        refine lv_iload_n hx hb dX0_stepForward_2 rfl (lv_at hl 0 rfl) ?_
        refine o_const (k := 3) hx hb dX0_stepForward_3 (by decide) ?_
        refine o_icmp_ge (tgt := 42) hx hb dX0_stepForward_4 (by decide) (Nat.le_of_ble_eq_true rfl) (Nat.le_of_ble_eq_true rfl) (fun _ => ?_) (fun c0 => absurd c0 (by decide))
        have w_8 : (wB q cI (va_up v 3 (b_stpf (v 3)))) = (wB q cI (va_up v 3 (va_up (va_up (va_up (v 3) 0 4294967295) 1 ((v 3 1) - 1)) 2 ((v 3 2) - 1)))) := (by unfold b_stpf b_stp; rw [if_neg c_1, if_pos c_2, if_pos c_6]; first | done | rfl)
        rw [← w_8] at hP
        exact W.vret hx hb hrt (fun t ht hW => ⟨⟨(), rfl, trivial, by show va_P D vwCl _ t.heap; rw [ht]; exact hP⟩, hS.F ht⟩) hS.2.2 dX0_stepForward_42
  · skip
    refine lv_aload_n hx hb dX0_stepForward_16 rfl (lv_at hl 1 rfl) ?_
    refine va_get (D := D) (ci := 0) (v := .ref (q 3)) (C := RX0) (T := TX0) (N := 5) hx hb hts inX0_stepForward_X0 hown hK hP 0 rfl rfl 3 (by decide) (hts (.fieldLink RX0 18 "OddNotice$Board" "place" "[I") (List.mem_of_getElem? (i := 1) (by decide +kernel))) (fun _ h9 => h9) rfl dX0_stepForward_17 ?_
    refine lv_iload_n hx hb dX0_stepForward_20 rfl (lv_at hl 0 rfl) ?_
    refine lv_dup2_11 hx hb dX0_stepForward_21 rfl rfl ?_
    refine o_iald (v := nI (v 3 0)) hx hb hK hP 3 0 rfl rfl (Nat.le_of_ble_eq_true rfl) (Nat.le_of_ble_eq_true rfl) rfl dX0_stepForward_22 ?_
    refine o_const (k := 1) hx hb dX0_stepForward_23 (by decide) ?_
    refine o_isub (a := (v 3 0)) (b := 1) (k := ((v 3 0) - 1)) hx hb dX0_stepForward_24 (by omega) rfl ?_
    refine o_iast (g := (v 3)) hx hb hK hP hD hS 3 0 rfl rfl (Nat.le_of_ble_eq_true rfl) (Nat.le_of_ble_eq_true rfl) dX0_stepForward_25 (fun H locs hP hD hS => ?_)
    have hP : va_P D vwCl (wB q cI (va_up v 3 (va_up (v 3) 0 ((v 3 0) - 1)))) H := hP
    have hD : va_D A (wB q cI (va_up v 3 (va_up (v 3) 0 ((v 3 0) - 1)))) := hD
    refine lv_goto (tgt := 36) hx hb dX0_stepForward_26 (by decide) ?_
    refine lv_iinc (v := nI 1) (lv' := [(1, .int (nI 1)), (0, .ref (q 0))]) hx hb dX0_stepForward_36 hl (k := 0) rfl (by decide) (by decide) rfl (fun ls hl => ?_)
    refine lv_goto (tgt := 2) hx hb dX0_stepForward_39 (by decide) ?_
    refine lv_iload_n hx hb dX0_stepForward_2 rfl (lv_at hl 0 rfl) ?_
    refine o_const (k := 3) hx hb dX0_stepForward_3 (by decide) ?_
    refine o_icmp_ge (tgt := 42) hx hb dX0_stepForward_4 (by decide) (Nat.le_of_ble_eq_true rfl) (Nat.le_of_ble_eq_true rfl) (fun c0 => absurd c0 (by decide)) (fun _ => ?_)
    refine lv_aload_n hx hb dX0_stepForward_7 rfl (lv_at hl 1 rfl) ?_
    refine va_get (D := D) (ci := 0) (v := .ref (q 3)) (C := RX0) (T := TX0) (N := 5) hx hb hts inX0_stepForward_X0 hown hK hP 0 rfl rfl 3 (by decide) (hts (.fieldLink RX0 18 "OddNotice$Board" "place" "[I") (List.mem_of_getElem? (i := 1) (by decide +kernel))) (fun _ h9 => h9) rfl dX0_stepForward_8 ?_
    refine lv_iload_n hx hb dX0_stepForward_11 rfl (lv_at hl 0 rfl) ?_
    refine o_iald (v := nI (v 3 1)) hx hb hK hP 3 0 rfl rfl (Nat.le_of_ble_eq_true rfl) (Nat.le_of_ble_eq_true rfl) (congrArg nI (show (va_up (v 3) 0 ((v 3 0) - 1)) 1 = (v 3 1) from (o_un (by decide)))) dX0_stepForward_12 ?_
    refine o_if_le_pm (tgt := 29) hx hb dX0_stepForward_13 (by decide) (hp 1 (by omega)) (fun c_9 => ?_) (fun c_9 => ?_)
    · skip
      refine lv_aload_n hx hb dX0_stepForward_29 rfl (lv_at hl 1 rfl) ?_
      refine va_get (D := D) (ci := 0) (v := .ref (q 3)) (C := RX0) (T := TX0) (N := 5) hx hb hts inX0_stepForward_X0 hown hK hP 0 rfl rfl 3 (by decide) (hts (.fieldLink RX0 18 "OddNotice$Board" "place" "[I") (List.mem_of_getElem? (i := 1) (by decide +kernel))) (fun _ h9 => h9) rfl dX0_stepForward_30 ?_
      refine lv_iload_n hx hb dX0_stepForward_33 rfl (lv_at hl 0 rfl) ?_
      refine o_const (k := 4294967295) hx hb dX0_stepForward_34 (by decide) ?_
      refine o_iast (g := (va_up (v 3) 0 ((v 3 0) - 1))) hx hb hK hP hD hS 3 0 rfl rfl (Nat.le_of_ble_eq_true rfl) (Nat.le_of_ble_eq_true rfl) dX0_stepForward_35 (fun H locs hP hD hS => ?_)
      have hP : va_P D vwCl (wB q cI (va_up v 3 (va_up (va_up (v 3) 0 ((v 3 0) - 1)) 1 4294967295))) H := hP
      have hD : va_D A (wB q cI (va_up v 3 (va_up (va_up (v 3) 0 ((v 3 0) - 1)) 1 4294967295))) := hD
      refine lv_iinc (v := nI 2) (lv' := [(1, .int (nI 2)), (0, .ref (q 0))]) hx hb dX0_stepForward_36 hl (k := 0) rfl (by decide) (by decide) rfl (fun ls hl => ?_)
      refine lv_goto (tgt := 2) hx hb dX0_stepForward_39 (by decide) ?_
      refine lv_iload_n hx hb dX0_stepForward_2 rfl (lv_at hl 0 rfl) ?_
      refine o_const (k := 3) hx hb dX0_stepForward_3 (by decide) ?_
      refine o_icmp_ge (tgt := 42) hx hb dX0_stepForward_4 (by decide) (Nat.le_of_ble_eq_true rfl) (Nat.le_of_ble_eq_true rfl) (fun c0 => absurd c0 (by decide)) (fun _ => ?_)
      refine lv_aload_n hx hb dX0_stepForward_7 rfl (lv_at hl 1 rfl) ?_
      refine va_get (D := D) (ci := 0) (v := .ref (q 3)) (C := RX0) (T := TX0) (N := 5) hx hb hts inX0_stepForward_X0 hown hK hP 0 rfl rfl 3 (by decide) (hts (.fieldLink RX0 18 "OddNotice$Board" "place" "[I") (List.mem_of_getElem? (i := 1) (by decide +kernel))) (fun _ h9 => h9) rfl dX0_stepForward_8 ?_
      refine lv_iload_n hx hb dX0_stepForward_11 rfl (lv_at hl 0 rfl) ?_
      refine o_iald (v := nI (v 3 2)) hx hb hK hP 3 0 rfl rfl (Nat.le_of_ble_eq_true rfl) (Nat.le_of_ble_eq_true rfl) (congrArg nI (show (va_up (va_up (v 3) 0 ((v 3 0) - 1)) 1 4294967295) 2 = (v 3 2) from (Eq.trans (o_un (by decide)) (o_un (by decide))))) dX0_stepForward_12 ?_
      refine o_if_le_pm (tgt := 29) hx hb dX0_stepForward_13 (by decide) (hp 2 (by omega)) (fun c_10 => ?_) (fun c_10 => ?_)
      · skip
        refine lv_aload_n hx hb dX0_stepForward_29 rfl (lv_at hl 1 rfl) ?_
        refine va_get (D := D) (ci := 0) (v := .ref (q 3)) (C := RX0) (T := TX0) (N := 5) hx hb hts inX0_stepForward_X0 hown hK hP 0 rfl rfl 3 (by decide) (hts (.fieldLink RX0 18 "OddNotice$Board" "place" "[I") (List.mem_of_getElem? (i := 1) (by decide +kernel))) (fun _ h9 => h9) rfl dX0_stepForward_30 ?_
        refine lv_iload_n hx hb dX0_stepForward_33 rfl (lv_at hl 0 rfl) ?_
        refine o_const (k := 4294967295) hx hb dX0_stepForward_34 (by decide) ?_
        refine o_iast (g := (va_up (va_up (v 3) 0 ((v 3 0) - 1)) 1 4294967295)) hx hb hK hP hD hS 3 0 rfl rfl (Nat.le_of_ble_eq_true rfl) (Nat.le_of_ble_eq_true rfl) dX0_stepForward_35 (fun H locs hP hD hS => ?_)
        have hP : va_P D vwCl (wB q cI (va_up v 3 (va_up (va_up (va_up (v 3) 0 ((v 3 0) - 1)) 1 4294967295) 2 4294967295))) H := hP
        have hD : va_D A (wB q cI (va_up v 3 (va_up (va_up (va_up (v 3) 0 ((v 3 0) - 1)) 1 4294967295) 2 4294967295))) := hD
        refine lv_iinc (v := nI 3) (lv' := [(1, .int (nI 3)), (0, .ref (q 0))]) hx hb dX0_stepForward_36 hl (k := 0) rfl (by decide) (by decide) rfl (fun ls hl => ?_)
        refine lv_goto (tgt := 2) hx hb dX0_stepForward_39 (by decide) ?_
        refine lv_iload_n hx hb dX0_stepForward_2 rfl (lv_at hl 0 rfl) ?_
        refine o_const (k := 3) hx hb dX0_stepForward_3 (by decide) ?_
        refine o_icmp_ge (tgt := 42) hx hb dX0_stepForward_4 (by decide) (Nat.le_of_ble_eq_true rfl) (Nat.le_of_ble_eq_true rfl) (fun _ => ?_) (fun c0 => absurd c0 (by decide))
        have w_11 : (wB q cI (va_up v 3 (b_stpf (v 3)))) = (wB q cI (va_up v 3 (va_up (va_up (va_up (v 3) 0 ((v 3 0) - 1)) 1 4294967295) 2 4294967295))) := (by unfold b_stpf b_stp; rw [if_pos c_1, if_neg c_9, if_neg c_10]; first | done | rfl)
        rw [← w_11] at hP
        exact W.vret hx hb hrt (fun t ht hW => ⟨⟨(), rfl, trivial, by show va_P D vwCl _ t.heap; rw [ht]; exact hP⟩, hS.F ht⟩) hS.2.2 dX0_stepForward_42
      · skip
        refine lv_aload_n hx hb dX0_stepForward_16 rfl (lv_at hl 1 rfl) ?_
        refine va_get (D := D) (ci := 0) (v := .ref (q 3)) (C := RX0) (T := TX0) (N := 5) hx hb hts inX0_stepForward_X0 hown hK hP 0 rfl rfl 3 (by decide) (hts (.fieldLink RX0 18 "OddNotice$Board" "place" "[I") (List.mem_of_getElem? (i := 1) (by decide +kernel))) (fun _ h9 => h9) rfl dX0_stepForward_17 ?_
        refine lv_iload_n hx hb dX0_stepForward_20 rfl (lv_at hl 0 rfl) ?_
        refine lv_dup2_11 hx hb dX0_stepForward_21 rfl rfl ?_
        refine o_iald (v := nI (v 3 2)) hx hb hK hP 3 0 rfl rfl (Nat.le_of_ble_eq_true rfl) (Nat.le_of_ble_eq_true rfl) (congrArg nI (show (va_up (va_up (v 3) 0 ((v 3 0) - 1)) 1 4294967295) 2 = (v 3 2) from (Eq.trans (o_un (by decide)) (o_un (by decide))))) dX0_stepForward_22 ?_
        refine o_const (k := 1) hx hb dX0_stepForward_23 (by decide) ?_
        refine o_isub (a := (v 3 2)) (b := 1) (k := ((v 3 2) - 1)) hx hb dX0_stepForward_24 (by omega) rfl ?_
        refine o_iast (g := (va_up (va_up (v 3) 0 ((v 3 0) - 1)) 1 4294967295)) hx hb hK hP hD hS 3 0 rfl rfl (Nat.le_of_ble_eq_true rfl) (Nat.le_of_ble_eq_true rfl) dX0_stepForward_25 (fun H locs hP hD hS => ?_)
        have hP : va_P D vwCl (wB q cI (va_up v 3 (va_up (va_up (va_up (v 3) 0 ((v 3 0) - 1)) 1 4294967295) 2 ((v 3 2) - 1)))) H := hP
        have hD : va_D A (wB q cI (va_up v 3 (va_up (va_up (va_up (v 3) 0 ((v 3 0) - 1)) 1 4294967295) 2 ((v 3 2) - 1)))) := hD
        refine lv_goto (tgt := 36) hx hb dX0_stepForward_26 (by decide) ?_
        refine lv_iinc (v := nI 3) (lv' := [(1, .int (nI 3)), (0, .ref (q 0))]) hx hb dX0_stepForward_36 hl (k := 0) rfl (by decide) (by decide) rfl (fun ls hl => ?_)
        refine lv_goto (tgt := 2) hx hb dX0_stepForward_39 (by decide) ?_
        refine lv_iload_n hx hb dX0_stepForward_2 rfl (lv_at hl 0 rfl) ?_
        refine o_const (k := 3) hx hb dX0_stepForward_3 (by decide) ?_
        refine o_icmp_ge (tgt := 42) hx hb dX0_stepForward_4 (by decide) (Nat.le_of_ble_eq_true rfl) (Nat.le_of_ble_eq_true rfl) (fun _ => ?_) (fun c0 => absurd c0 (by decide))
        have w_12 : (wB q cI (va_up v 3 (b_stpf (v 3)))) = (wB q cI (va_up v 3 (va_up (va_up (va_up (v 3) 0 ((v 3 0) - 1)) 1 4294967295) 2 ((v 3 2) - 1)))) := (by unfold b_stpf b_stp; rw [if_pos c_1, if_neg c_9, if_pos c_10]; first | done | rfl)
        rw [← w_12] at hP
        exact W.vret hx hb hrt (fun t ht hW => ⟨⟨(), rfl, trivial, by show va_P D vwCl _ t.heap; rw [ht]; exact hP⟩, hS.F ht⟩) hS.2.2 dX0_stepForward_42
    · skip
      refine lv_aload_n hx hb dX0_stepForward_16 rfl (lv_at hl 1 rfl) ?_
      refine va_get (D := D) (ci := 0) (v := .ref (q 3)) (C := RX0) (T := TX0) (N := 5) hx hb hts inX0_stepForward_X0 hown hK hP 0 rfl rfl 3 (by decide) (hts (.fieldLink RX0 18 "OddNotice$Board" "place" "[I") (List.mem_of_getElem? (i := 1) (by decide +kernel))) (fun _ h9 => h9) rfl dX0_stepForward_17 ?_
      refine lv_iload_n hx hb dX0_stepForward_20 rfl (lv_at hl 0 rfl) ?_
      refine lv_dup2_11 hx hb dX0_stepForward_21 rfl rfl ?_
      refine o_iald (v := nI (v 3 1)) hx hb hK hP 3 0 rfl rfl (Nat.le_of_ble_eq_true rfl) (Nat.le_of_ble_eq_true rfl) (congrArg nI (show (va_up (v 3) 0 ((v 3 0) - 1)) 1 = (v 3 1) from (o_un (by decide)))) dX0_stepForward_22 ?_
      refine o_const (k := 1) hx hb dX0_stepForward_23 (by decide) ?_
      refine o_isub (a := (v 3 1)) (b := 1) (k := ((v 3 1) - 1)) hx hb dX0_stepForward_24 (by omega) rfl ?_
      refine o_iast (g := (va_up (v 3) 0 ((v 3 0) - 1))) hx hb hK hP hD hS 3 0 rfl rfl (Nat.le_of_ble_eq_true rfl) (Nat.le_of_ble_eq_true rfl) dX0_stepForward_25 (fun H locs hP hD hS => ?_)
      have hP : va_P D vwCl (wB q cI (va_up v 3 (va_up (va_up (v 3) 0 ((v 3 0) - 1)) 1 ((v 3 1) - 1)))) H := hP
      have hD : va_D A (wB q cI (va_up v 3 (va_up (va_up (v 3) 0 ((v 3 0) - 1)) 1 ((v 3 1) - 1)))) := hD
      refine lv_goto (tgt := 36) hx hb dX0_stepForward_26 (by decide) ?_
      refine lv_iinc (v := nI 2) (lv' := [(1, .int (nI 2)), (0, .ref (q 0))]) hx hb dX0_stepForward_36 hl (k := 0) rfl (by decide) (by decide) rfl (fun ls hl => ?_)
      refine lv_goto (tgt := 2) hx hb dX0_stepForward_39 (by decide) ?_
      refine lv_iload_n hx hb dX0_stepForward_2 rfl (lv_at hl 0 rfl) ?_
      refine o_const (k := 3) hx hb dX0_stepForward_3 (by decide) ?_
      refine o_icmp_ge (tgt := 42) hx hb dX0_stepForward_4 (by decide) (Nat.le_of_ble_eq_true rfl) (Nat.le_of_ble_eq_true rfl) (fun c0 => absurd c0 (by decide)) (fun _ => ?_)
      refine lv_aload_n hx hb dX0_stepForward_7 rfl (lv_at hl 1 rfl) ?_
      refine va_get (D := D) (ci := 0) (v := .ref (q 3)) (C := RX0) (T := TX0) (N := 5) hx hb hts inX0_stepForward_X0 hown hK hP 0 rfl rfl 3 (by decide) (hts (.fieldLink RX0 18 "OddNotice$Board" "place" "[I") (List.mem_of_getElem? (i := 1) (by decide +kernel))) (fun _ h9 => h9) rfl dX0_stepForward_8 ?_
      refine lv_iload_n hx hb dX0_stepForward_11 rfl (lv_at hl 0 rfl) ?_
      refine o_iald (v := nI (v 3 2)) hx hb hK hP 3 0 rfl rfl (Nat.le_of_ble_eq_true rfl) (Nat.le_of_ble_eq_true rfl) (congrArg nI (show (va_up (va_up (v 3) 0 ((v 3 0) - 1)) 1 ((v 3 1) - 1)) 2 = (v 3 2) from (Eq.trans (o_un (by decide)) (o_un (by decide))))) dX0_stepForward_12 ?_
      refine o_if_le_pm (tgt := 29) hx hb dX0_stepForward_13 (by decide) (hp 2 (by omega)) (fun c_13 => ?_) (fun c_13 => ?_)
      · skip
        refine lv_aload_n hx hb dX0_stepForward_29 rfl (lv_at hl 1 rfl) ?_
        refine va_get (D := D) (ci := 0) (v := .ref (q 3)) (C := RX0) (T := TX0) (N := 5) hx hb hts inX0_stepForward_X0 hown hK hP 0 rfl rfl 3 (by decide) (hts (.fieldLink RX0 18 "OddNotice$Board" "place" "[I") (List.mem_of_getElem? (i := 1) (by decide +kernel))) (fun _ h9 => h9) rfl dX0_stepForward_30 ?_
        refine lv_iload_n hx hb dX0_stepForward_33 rfl (lv_at hl 0 rfl) ?_
        refine o_const (k := 4294967295) hx hb dX0_stepForward_34 (by decide) ?_
        refine o_iast (g := (va_up (va_up (v 3) 0 ((v 3 0) - 1)) 1 ((v 3 1) - 1))) hx hb hK hP hD hS 3 0 rfl rfl (Nat.le_of_ble_eq_true rfl) (Nat.le_of_ble_eq_true rfl) dX0_stepForward_35 (fun H locs hP hD hS => ?_)
        have hP : va_P D vwCl (wB q cI (va_up v 3 (va_up (va_up (va_up (v 3) 0 ((v 3 0) - 1)) 1 ((v 3 1) - 1)) 2 4294967295))) H := hP
        have hD : va_D A (wB q cI (va_up v 3 (va_up (va_up (va_up (v 3) 0 ((v 3 0) - 1)) 1 ((v 3 1) - 1)) 2 4294967295))) := hD
        refine lv_iinc (v := nI 3) (lv' := [(1, .int (nI 3)), (0, .ref (q 0))]) hx hb dX0_stepForward_36 hl (k := 0) rfl (by decide) (by decide) rfl (fun ls hl => ?_)
        refine lv_goto (tgt := 2) hx hb dX0_stepForward_39 (by decide) ?_
        refine lv_iload_n hx hb dX0_stepForward_2 rfl (lv_at hl 0 rfl) ?_
        refine o_const (k := 3) hx hb dX0_stepForward_3 (by decide) ?_
        refine o_icmp_ge (tgt := 42) hx hb dX0_stepForward_4 (by decide) (Nat.le_of_ble_eq_true rfl) (Nat.le_of_ble_eq_true rfl) (fun _ => ?_) (fun c0 => absurd c0 (by decide))
        have w_14 : (wB q cI (va_up v 3 (b_stpf (v 3)))) = (wB q cI (va_up v 3 (va_up (va_up (va_up (v 3) 0 ((v 3 0) - 1)) 1 ((v 3 1) - 1)) 2 4294967295))) := (by unfold b_stpf b_stp; rw [if_pos c_1, if_pos c_9, if_neg c_13]; first | done | rfl)
        rw [← w_14] at hP
        exact W.vret hx hb hrt (fun t ht hW => ⟨⟨(), rfl, trivial, by show va_P D vwCl _ t.heap; rw [ht]; exact hP⟩, hS.F ht⟩) hS.2.2 dX0_stepForward_42
      · skip
        refine lv_aload_n hx hb dX0_stepForward_16 rfl (lv_at hl 1 rfl) ?_
        refine va_get (D := D) (ci := 0) (v := .ref (q 3)) (C := RX0) (T := TX0) (N := 5) hx hb hts inX0_stepForward_X0 hown hK hP 0 rfl rfl 3 (by decide) (hts (.fieldLink RX0 18 "OddNotice$Board" "place" "[I") (List.mem_of_getElem? (i := 1) (by decide +kernel))) (fun _ h9 => h9) rfl dX0_stepForward_17 ?_
        refine lv_iload_n hx hb dX0_stepForward_20 rfl (lv_at hl 0 rfl) ?_
        refine lv_dup2_11 hx hb dX0_stepForward_21 rfl rfl ?_
        refine o_iald (v := nI (v 3 2)) hx hb hK hP 3 0 rfl rfl (Nat.le_of_ble_eq_true rfl) (Nat.le_of_ble_eq_true rfl) (congrArg nI (show (va_up (va_up (v 3) 0 ((v 3 0) - 1)) 1 ((v 3 1) - 1)) 2 = (v 3 2) from (Eq.trans (o_un (by decide)) (o_un (by decide))))) dX0_stepForward_22 ?_
        refine o_const (k := 1) hx hb dX0_stepForward_23 (by decide) ?_
        refine o_isub (a := (v 3 2)) (b := 1) (k := ((v 3 2) - 1)) hx hb dX0_stepForward_24 (by omega) rfl ?_
        refine o_iast (g := (va_up (va_up (v 3) 0 ((v 3 0) - 1)) 1 ((v 3 1) - 1))) hx hb hK hP hD hS 3 0 rfl rfl (Nat.le_of_ble_eq_true rfl) (Nat.le_of_ble_eq_true rfl) dX0_stepForward_25 (fun H locs hP hD hS => ?_)
        have hP : va_P D vwCl (wB q cI (va_up v 3 (va_up (va_up (va_up (v 3) 0 ((v 3 0) - 1)) 1 ((v 3 1) - 1)) 2 ((v 3 2) - 1)))) H := hP
        have hD : va_D A (wB q cI (va_up v 3 (va_up (va_up (va_up (v 3) 0 ((v 3 0) - 1)) 1 ((v 3 1) - 1)) 2 ((v 3 2) - 1)))) := hD
        refine lv_goto (tgt := 36) hx hb dX0_stepForward_26 (by decide) ?_
        refine lv_iinc (v := nI 3) (lv' := [(1, .int (nI 3)), (0, .ref (q 0))]) hx hb dX0_stepForward_36 hl (k := 0) rfl (by decide) (by decide) rfl (fun ls hl => ?_)
        refine lv_goto (tgt := 2) hx hb dX0_stepForward_39 (by decide) ?_
        refine lv_iload_n hx hb dX0_stepForward_2 rfl (lv_at hl 0 rfl) ?_
        refine o_const (k := 3) hx hb dX0_stepForward_3 (by decide) ?_
        refine o_icmp_ge (tgt := 42) hx hb dX0_stepForward_4 (by decide) (Nat.le_of_ble_eq_true rfl) (Nat.le_of_ble_eq_true rfl) (fun _ => ?_) (fun c0 => absurd c0 (by decide))
        have w_15 : (wB q cI (va_up v 3 (b_stpf (v 3)))) = (wB q cI (va_up v 3 (va_up (va_up (va_up (v 3) 0 ((v 3 0) - 1)) 1 ((v 3 1) - 1)) 2 ((v 3 2) - 1)))) := (by unfold b_stpf b_stp; rw [if_pos c_1, if_pos c_9, if_pos c_13]; first | done | rfl)
        rw [← w_15] at hP
        exact W.vret hx hb hrt (fun t ht hW => ⟨⟨(), rfl, trivial, by show va_P D vwCl _ t.heap; rw [ht]; exact hP⟩, hS.F ht⟩) hS.2.2 dX0_stepForward_42
theorem inX0_latestWhole_X0 : ∀ w ∈ wsX00, w ∈ wsX0_latestWhole := by decide +kernel
set_option maxHeartbeats 4000000 in
set_option maxRecDepth 100000 in
theorem k_X0_latestWhole (l : Launch) (D : va_G) (cI cR cS cL : ClassId) (q : Nat → Nat) (v : Nat → Nat → Nat) (hn : v 0 0 < 2 ^ 31) : Met l yX0_latestWhole wsX0_latestWhole ({ frames := 0, cells := 0, slots := 0, locals := 0 }) (va_Pc [.ref (q 0)] (o_R D (o_T cI cR cS cL) (wB q cI v))) (vp_Si (fun rz => rz = nI (v 0 0 / 2))) 0 0 (fun _ => False) := by
  refine Met.ofW (cc := cX0_latestWhole) (maxL := 1) (ret := (some .int)) (by decide) rfl ?_
  intro p e s m args below meth cd s₁ B hml hv
  obtain ⟨rfl, hP, hK, hN⟩ := hv
  have hx := B.exec
  have hb := B.bytes
  have hrt := B.returns
  have hts := atoms_spec (ws := wsX0_latestWhole) B.pre
  have hown : s.vm.findClass RX0 = some m.cls := findClass_of_methodNamed B.named
  have hlocks := B.notSynchronized
  have hl := lv_entry ([.ref (q 0)]) (n := 1) (Nat.le_of_ble_eq_true rfl)
  rw [lg_entry_eq]
  generalize (lg_sl ([.ref (q 0)]) ++ List.replicate (1 - (lg_sl ([.ref (q 0)])).length) Slot.unset).toArray = ls at hl ⊢
  have hl : lv_has ls 1 [(0, .ref (q 0))] := hl
  refine lv_aload_n hx hb dX0_latestWhole_0 rfl (lv_at hl 0 rfl) ?_
  refine va_get (D := D) (ci := 0) (v := .int (nI (v 0 0))) (C := RX0) (T := TX0) (N := 5) hx hb hts inX0_latestWhole_X0 hown hK hP 0 rfl rfl 0 (by decide) (hts (.fieldLink RX0 24 "OddNotice$Board" "number" "I") (List.mem_of_getElem? (i := 1) (by decide +kernel))) (fun _ h9 => h9) rfl dX0_latestWhole_1 ?_
  refine o_const (k := 2) hx hb dX0_latestWhole_4 (by decide) ?_
  refine o_idiv (a := (v 0 0)) (b := 2) (k := ((v 0 0) / 2)) hx hb dX0_latestWhole_5 (by omega) (by decide) (Nat.le_of_ble_eq_true rfl) rfl ?_
  exact W.iret (v := nI ((v 0 0) / 2)) hx hb hrt (fun t ht hW => ⟨_, rfl, rfl, ht⟩) (fun _ h => nomatch h) dX0_latestWhole_6
set_option maxHeartbeats 4000000 in
set_option maxRecDepth 100000 in
theorem k_X0_keptAt (l : Launch) (D : va_G) (cI cR cS cL : ClassId) (n : Nat) (hn : n < 2 ^ 31) : Met l yX0_keptAt wsX0_keptAt ({ frames := 1, cells := 0, slots := 0, locals := 22 }) (va_Pc [.int (nI n)] (o_R D (o_T cI cR cS cL) [])) (vp_Si (fun rz => rz = nI (n % 16 * 5))) 0 0 (fun _ => False) := by
  refine Met.ofW (cc := cX0_keptAt) (maxL := 1) (ret := (some .int)) (by decide) rfl ?_
  intro p e s m args below meth cd s₁ B hml hv
  obtain ⟨rfl, hP, hK, hN⟩ := hv
  have hx := B.exec
  have hb := B.bytes
  have hrt := B.returns
  have hts := atoms_spec (ws := wsX0_keptAt) B.pre
  have hown : s.vm.findClass RX0 = some m.cls := findClass_of_methodNamed B.named
  have hlocks := B.notSynchronized
  have hl := lv_entry ([.int (nI n)]) (n := 1) (Nat.le_of_ble_eq_true rfl)
  rw [lg_entry_eq]
  generalize (lg_sl ([.int (nI n)]) ++ List.replicate (1 - (lg_sl ([.int (nI n)])).length) Slot.unset).toArray = ls at hl ⊢
  have hl : lv_has ls 1 [(0, .int (nI n))] := hl
  refine lv_iload_n hx hb dX0_keptAt_0 rfl (lv_at hl 0 rfl) ?_
  refine o_bipush (k := 16) hx hb dX0_keptAt_1 (by decide) ?_
  refine o_ri (va_runS (As := [.int (nI n), .int (nI 16)]) (rest := []) ⟨hx, hb, hml, hown, hts⟩ (k_J9_floorMod_7cf53 l D cI cR cS cL n 16 (by show n < 2 ^ 31; first | assumption | omega) (by show 0 < 16; first | assumption | omega) (by show 16 < 2 ^ 31; first | assumption | omega)) (va_cwS 2 hts gX0_keptAt_J9_floorMod_7cf53 rfl rfl rfl (by decide +kernel) ⟨Nat.le_of_ble_eq_true rfl, Nat.le_of_ble_eq_true rfl⟩) (o_pR hK hN (hP.sub (ws' := []) [] rfl)) rfl rfl hl.1 rfl (lv_room (Nat.le_of_ble_eq_true rfl)) dX0_keptAt_3 ⟨Nat.zero_le _, Nat.zero_le _⟩) (fun r_2 e_1 => ?_)
  have e_1 : r_2 = nI (n % 16) := e_1
  subst e_1
  refine o_const (k := 5) hx hb dX0_keptAt_6 (by decide) ?_
  refine o_imul (a := (n % 16)) (b := 5) (k := (n % 16 * 5)) hx hb dX0_keptAt_7 rfl ?_
  exact W.iret (v := nI (n % 16 * 5)) hx hb hrt (fun t ht hW => ⟨_, rfl, rfl, ht⟩) (fun _ h => nomatch h) dX0_keptAt_8
theorem inX0_keepFields_X0 : ∀ w ∈ wsX00, w ∈ wsX0_keepFields := by decide +kernel
set_option maxHeartbeats 4000000 in
set_option maxRecDepth 100000 in
theorem k_X0_keepFields (l : Launch) (D : va_G) (cI cR cS cL : ClassId) (sz : Nat) (q : Nat → Nat) (v : Nat → Nat → Nat) (hn : v 0 0 < 2 ^ 31) : Met l yX0_keepFields wsX0_keepFields ({ frames := 2, cells := 0, slots := 0, locals := 42 }) (va_Pc [.ref (q 0)] (o_B D (o_T cI cR cS cL) (wB q cI v) sz)) (va_Qv (fun (_ : Unit) => True) (fun (_ : Unit) t => va_P D vwCl (wB q cI (va_up v 4 (va_cpy (v 1) (v 4) 0 (v 0 0 / 2 % 16 * 5) 5))) t.heap) (va_A (wB q cI v) sz)) 0 0 (va_A (wB q cI v) sz) := by
  refine Met.ofW (cc := cX0_keepFields) (maxL := 1) (ret := none) (by decide) rfl ?_
  intro p e s m args below meth cd s₁ B hml hv
  obtain ⟨rfl, hsz, hP, hK, hD0, hN⟩ := hv
  have hx := B.exec
  have hb := B.bytes
  have hrt := B.returns
  have hts := atoms_spec (ws := wsX0_keepFields) B.pre
  have hown : s.vm.findClass RX0 = some m.cls := findClass_of_methodNamed B.named
  have hlocks := B.notSynchronized
  subst hsz
  have hD := hD0.self (sz := s.heap.size)
  generalize hAe : va_A (wB q cI v) s.heap.size = A at hD ⊢
  have hA : ∀ q : Nat, s.heap.size ≤ q → A q := fun q h => by rw [← hAe]; exact Or.inr h
  have hS : va_S A s.heap s.heap [] := va_S.rf
  have hl := lv_entry ([.ref (q 0)]) (n := 1) (Nat.le_of_ble_eq_true rfl)
  rw [lg_entry_eq]
  generalize (lg_sl ([.ref (q 0)]) ++ List.replicate (1 - (lg_sl ([.ref (q 0)])).length) Slot.unset).toArray = ls at hl ⊢
  have hl : lv_has ls 1 [(0, .ref (q 0))] := hl
  refine lv_aload_n hx hb dX0_keepFields_0 rfl (lv_at hl 0 rfl) ?_
  refine va_get (D := D) (ci := 0) (v := .ref (q 1)) (C := RX0) (T := TX0) (N := 5) hx hb hts inX0_keepFields_X0 hown hK hP 0 rfl rfl 1 (by decide) (hts (.fieldLink RX0 9 "OddNotice$Board" "fields" "[I") (List.mem_of_getElem? (i := 1) (by decide +kernel))) (fun _ h9 => h9) rfl dX0_keepFields_1 ?_
  refine o_const (k := 0) hx hb dX0_keepFields_4 (by decide) ?_
  refine lv_aload_n hx hb dX0_keepFields_5 rfl (lv_at hl 0 rfl) ?_
  refine va_get (D := D) (ci := 0) (v := .ref (q 4)) (C := RX0) (T := TX0) (N := 5) hx hb hts inX0_keepFields_X0 hown hK hP 0 rfl rfl 4 (by decide) (hts (.fieldLink RX0 21 "OddNotice$Board" "kept" "[I") (List.mem_of_getElem? (i := 2) (by decide +kernel))) (fun _ h9 => h9) rfl dX0_keepFields_6 ?_
  refine lv_aload_n hx hb dX0_keepFields_9 rfl (lv_at hl 0 rfl) ?_
  refine o_ri (va_runV (As := []) (rest := [.ref (q 4), .int (nI 0), .ref (q 1)]) ⟨hx, hb, hml, hown, hts⟩ (k_X0_latestWhole l D cI cR cS cL q v (by show v 0 0 < 2 ^ 31; first | assumption | omega)) (cwV 0 hts gX0_keepFields_X0_latestWhole rfl rfl rfl (by decide +kernel) ⟨Nat.le_of_ble_eq_true rfl, Nat.le_of_ble_eq_true rfl⟩) (o_v (o_pR hK hN hP) (va_recv hK hP (ci := 0) (q0 := 0) rfl rfl)) rfl rfl hl.1 rfl (lv_room (Nat.le_of_ble_eq_true rfl)) dX0_keepFields_10 ⟨Nat.zero_le _, Nat.zero_le _⟩) (fun r_2 e_1 => ?_)
  have e_1 : r_2 = nI (v 0 0 / 2) := e_1
  subst e_1
  refine o_ri (va_runS (As := [.int (nI (v 0 0 / 2))]) (rest := [.ref (q 4), .int (nI 0), .ref (q 1)]) ⟨hx, hb, hml, hown, hts⟩ (k_X0_keptAt l D cI cR cS cL (v 0 0 / 2) (by show (v 0 0 / 2) < 2 ^ 31; first | assumption | omega)) (va_cwS 1 hts gX0_keepFields_X0_keptAt rfl rfl rfl (by decide +kernel) ⟨Nat.le_of_ble_eq_true rfl, Nat.le_of_ble_eq_true rfl⟩) (o_pR hK hN (hP.sub (ws' := []) [] rfl)) rfl rfl hl.1 rfl (lv_room (Nat.le_of_ble_eq_true rfl)) dX0_keepFields_13 ⟨Nat.zero_le _, Nat.zero_le _⟩) (fun r_4 e_3 => ?_)
  have e_3 : r_4 = nI ((v 0 0 / 2) % 16 * 5) := e_3
  subst e_3
  refine o_const (k := 5) hx hb dX0_keepFields_16 (by decide) ?_
  refine o_copy (f := (v 1)) (g := (v 4)) hx hb (hml.trans hl.1.symm) hown (hts (.methodLink RX0 52 arraycopyName) (List.mem_of_getElem? (i := 3) (by decide +kernel))) (hts (.native arraycopyName) (List.mem_of_getElem? (i := 4) (by decide +kernel))) (hts (.static arraycopyName) (List.mem_of_getElem? (i := 5) (by decide +kernel))) (hts (.initialized "java/lang/System") (List.mem_of_getElem? (i := 6) (by decide +kernel))) hK hP hD hS 1 4 0 rfl rfl rfl (Nat.le_of_ble_eq_true rfl) (by omega) (Nat.le_of_ble_eq_true rfl) (Nat.le_of_ble_eq_true rfl) (Nat.le_of_ble_eq_true rfl) (Nat.le_of_ble_eq_true rfl) dX0_keepFields_17 (fun H locs hP hD hS => ?_)
  have hP : va_P D vwCl (wB q cI (va_up v 4 (va_cpy (v 1) (v 4) 0 ((v 0 0 / 2) % 16 * 5) 5))) H := hP
  have hD : va_D A (wB q cI (va_up v 4 (va_cpy (v 1) (v 4) 0 ((v 0 0 / 2) % 16 * 5) 5))) := hD
  have w_5 : (wB q cI (va_up v 4 (va_cpy (v 1) (v 4) 0 (v 0 0 / 2 % 16 * 5) 5))) = (wB q cI (va_up v 4 (va_cpy (v 1) (v 4) 0 ((v 0 0 / 2) % 16 * 5) 5))) := rfl
  rw [← w_5] at hP
  exact W.vret hx hb hrt (fun t ht hW => ⟨⟨(), rfl, trivial, by show va_P D vwCl _ t.heap; rw [ht]; exact hP⟩, hS.F ht⟩) hS.2.2 dX0_keepFields_20
set_option maxHeartbeats 4000000 in
set_option maxRecDepth 100000 in
theorem k_X0_oldestKept (l : Launch) (D : va_G) (cI cR cS cL : ClassId) (q : Nat → Nat) (v : Nat → Nat → Nat) (hn : v 0 0 < 2 ^ 30) : Met l yX0_oldestKept wsX0_oldestKept ({ frames := 1, cells := 0, slots := 0, locals := 20 }) (va_Pc [.ref (q 0)] (o_R D (o_T cI cR cS cL) (wB q cI v))) (vp_Si (fun rz => rz = nI (v 0 0 / 2 - 15))) 0 0 (fun _ => False) := by
  refine Met.ofW (cc := cX0_oldestKept) (maxL := 1) (ret := (some .int)) (by decide) rfl ?_
  intro p e s m args below meth cd s₁ B hml hv
  obtain ⟨rfl, hP, hK, hN⟩ := hv
  have hx := B.exec
  have hb := B.bytes
  have hrt := B.returns
  have hts := atoms_spec (ws := wsX0_oldestKept) B.pre
  have hown : s.vm.findClass RX0 = some m.cls := findClass_of_methodNamed B.named
  have hlocks := B.notSynchronized
  have hl := lv_entry ([.ref (q 0)]) (n := 1) (Nat.le_of_ble_eq_true rfl)
  rw [lg_entry_eq]
  generalize (lg_sl ([.ref (q 0)]) ++ List.replicate (1 - (lg_sl ([.ref (q 0)])).length) Slot.unset).toArray = ls at hl ⊢
  have hl : lv_has ls 1 [(0, .ref (q 0))] := hl
  refine o_const (k := 0) hx hb dX0_oldestKept_0 (by decide) ?_
  refine lv_aload_n hx hb dX0_oldestKept_1 rfl (lv_at hl 0 rfl) ?_
  refine o_ri (va_runV (As := []) (rest := [.int (nI 0)]) ⟨hx, hb, hml, hown, hts⟩ (k_X0_latestWhole l D cI cR cS cL q v (by show v 0 0 < 2 ^ 31; first | assumption | omega)) (cwV 0 hts gX0_oldestKept_X0_latestWhole rfl rfl rfl (by decide +kernel) ⟨Nat.le_of_ble_eq_true rfl, Nat.le_of_ble_eq_true rfl⟩) (o_v (o_pR hK hN hP) (va_recv hK hP (ci := 0) (q0 := 0) rfl rfl)) rfl rfl hl.1 rfl (lv_room (Nat.le_of_ble_eq_true rfl)) dX0_oldestKept_2 ⟨Nat.zero_le _, Nat.zero_le _⟩) (fun r_2 e_1 => ?_)
  have e_1 : r_2 = nI (v 0 0 / 2) := e_1
  subst e_1
  refine o_bipush (k := 16) hx hb dX0_oldestKept_5 (by decide) ?_
  refine lv_isub hx hb dX0_oldestKept_7 ?_
  refine o_const (k := 1) hx hb dX0_oldestKept_8 (by decide) ?_
  refine lv_iadd hx hb dX0_oldestKept_9 ?_
  refine va_mmax (x := nI 0) (y := ((nI (v 0 0 / 2) - nI 16) + nI 1)) hx hb (hml.trans hl.1.symm) hown (hts (.methodLink RX0 64 Lib.Math.max.name) (List.mem_of_getElem? (i := 1) (by decide +kernel))) (hts (.static Lib.Math.max.name) (List.mem_of_getElem? (i := 2) (by decide +kernel))) (hts (.initialized "java/lang/Math") (List.mem_of_getElem? (i := 3) (by decide +kernel))) (hts (.code Lib.Math.max.name Lib.Math.max.code 2 (some .int)) (List.mem_of_getElem? (i := 4) (by decide +kernel))) (Nat.le_of_ble_eq_true rfl) (Nat.le_of_ble_eq_true rfl) (Nat.zero_le _) (Nat.zero_le _) dX0_oldestKept_10 ?_
  refine o_ti (o_max0 (by omega)) ?_
  exact W.iret (v := nI (v 0 0 / 2 - 15)) hx hb hrt (fun t ht hW => ⟨_, rfl, rfl, ht⟩) (fun _ h => nomatch h) dX0_oldestKept_13
theorem inX0_keptValue_X0 : ∀ w ∈ wsX00, w ∈ wsX0_keptValue := by decide +kernel
set_option maxHeartbeats 4000000 in
set_option maxRecDepth 100000 in
theorem k_X0_keptValue (l : Launch) (D : va_G) (cI cR cS cL : ClassId) (q : Nat → Nat) (v : Nat → Nat → Nat) (n : Nat) (f : Nat) (hn : v 0 0 < 2 ^ 30) (h1 : n < 2 ^ 31) (h2 : f < 5) : Met l yX0_keptValue wsX0_keptValue ({ frames := 2, cells := 0, slots := 0, locals := 42 }) (va_Pc [.ref (q 0), .int (nI n), .int (nI f)] (o_R D (o_T cI cR cS cL) (wB q cI v))) (vp_Si (fun rz => rz = nI (b_kv v n f))) 0 0 (fun _ => False) := by
  refine Met.ofW (cc := cX0_keptValue) (maxL := 3) (ret := (some .int)) (by decide) rfl ?_
  intro p e s m args below meth cd s₁ B hml hv
  obtain ⟨rfl, hP, hK, hN⟩ := hv
  have hx := B.exec
  have hb := B.bytes
  have hrt := B.returns
  have hts := atoms_spec (ws := wsX0_keptValue) B.pre
  have hown : s.vm.findClass RX0 = some m.cls := findClass_of_methodNamed B.named
  have hlocks := B.notSynchronized
  have hl := lv_entry ([.ref (q 0), .int (nI n), .int (nI f)]) (n := 3) (Nat.le_of_ble_eq_true rfl)
  rw [lg_entry_eq]
  generalize (lg_sl ([.ref (q 0), .int (nI n), .int (nI f)]) ++ List.replicate (3 - (lg_sl ([.ref (q 0), .int (nI n), .int (nI f)])).length) Slot.unset).toArray = ls at hl ⊢
  have hl : lv_has ls 3 [(0, .ref (q 0)), (1, .int (nI n)), (2, .int (nI f))] := hl
  refine lv_iload_n hx hb dX0_keptValue_0 rfl (lv_at hl 1 rfl) ?_
  refine lv_aload_n hx hb dX0_keptValue_1 rfl (lv_at hl 0 rfl) ?_
  refine o_ri (va_runV (As := []) (rest := [.int (nI n)]) ⟨hx, hb, hml, hown, hts⟩ (k_X0_oldestKept l D cI cR cS cL q v (by show v 0 0 < 2 ^ 30; first | assumption | omega)) (cwV 0 hts gX0_keptValue_X0_oldestKept rfl rfl rfl (by decide +kernel) ⟨Nat.le_of_ble_eq_true rfl, Nat.le_of_ble_eq_true rfl⟩) (o_v (o_pR hK hN hP) (va_recv hK hP (ci := 0) (q0 := 0) rfl rfl)) rfl rfl hl.1 rfl (lv_room (Nat.le_of_ble_eq_true rfl)) dX0_keptValue_2 ⟨Nat.zero_le _, Nat.zero_le _⟩) (fun r_2 e_1 => ?_)
  have e_1 : r_2 = nI (v 0 0 / 2 - 15) := e_1
  subst e_1
  refine o_icmp_lt (tgt := 16) hx hb dX0_keptValue_5 (by decide) (by omega) (by omega) (fun c_3 => ?_) (fun c_3 => ?_)
  · skip
    refine o_const (k := 4294967295) hx hb dX0_keptValue_16 (by decide) ?_
    exact W.iret (v := nI 4294967295) hx hb hrt (fun t ht hW => ⟨_, rfl, (by simp only [b_kv, if_pos c_3]), ht⟩) (fun _ h => nomatch h) dX0_keptValue_17
  · skip
    refine lv_iload_n hx hb dX0_keptValue_8 rfl (lv_at hl 1 rfl) ?_
    refine lv_aload_n hx hb dX0_keptValue_9 rfl (lv_at hl 0 rfl) ?_
    refine o_ri (va_runV (As := []) (rest := [.int (nI n)]) ⟨hx, hb, hml, hown, hts⟩ (k_X0_latestWhole l D cI cR cS cL q v (by show v 0 0 < 2 ^ 31; first | assumption | omega)) (cwV 0 hts gX0_keptValue_X0_latestWhole rfl rfl rfl (by decide +kernel) ⟨Nat.le_of_ble_eq_true rfl, Nat.le_of_ble_eq_true rfl⟩) (o_v (o_pR hK hN hP) (va_recv hK hP (ci := 0) (q0 := 0) rfl rfl)) rfl rfl hl.1 rfl (lv_room (Nat.le_of_ble_eq_true rfl)) dX0_keptValue_10 ⟨Nat.zero_le _, Nat.zero_le _⟩) (fun r_5 e_4 => ?_)
    have e_4 : r_5 = nI (v 0 0 / 2) := e_4
    subst e_4
    refine o_icmp_le (tgt := 18) hx hb dX0_keptValue_13 (by decide) (by omega) (by omega) (fun c_6 => ?_) (fun c_6 => ?_)
    · skip
      refine lv_aload_n hx hb dX0_keptValue_18 rfl (lv_at hl 0 rfl) ?_
      refine va_get (D := D) (ci := 0) (v := .ref (q 4)) (C := RX0) (T := TX0) (N := 5) hx hb hts inX0_keptValue_X0 hown hK hP 0 rfl rfl 4 (by decide) (hts (.fieldLink RX0 21 "OddNotice$Board" "kept" "[I") (List.mem_of_getElem? (i := 1) (by decide +kernel))) (fun _ h9 => h9) rfl dX0_keptValue_19 ?_
      refine lv_iload_n hx hb dX0_keptValue_22 rfl (lv_at hl 1 rfl) ?_
      refine o_ri (va_runS (As := [.int (nI n)]) (rest := [.ref (q 4)]) ⟨hx, hb, hml, hown, hts⟩ (k_X0_keptAt l D cI cR cS cL n (by show n < 2 ^ 31; first | assumption | omega)) (va_cwS 1 hts gX0_keptValue_X0_keptAt rfl rfl rfl (by decide +kernel) ⟨Nat.le_of_ble_eq_true rfl, Nat.le_of_ble_eq_true rfl⟩) (o_pR hK hN (hP.sub (ws' := []) [] rfl)) rfl rfl hl.1 rfl (lv_room (Nat.le_of_ble_eq_true rfl)) dX0_keptValue_23 ⟨Nat.zero_le _, Nat.zero_le _⟩) (fun r_8 e_7 => ?_)
      have e_7 : r_8 = nI (n % 16 * 5) := e_7
      subst e_7
      refine lv_iload_n hx hb dX0_keptValue_26 rfl (lv_at hl 2 rfl) ?_
      refine o_iadd (a := (n % 16 * 5)) (b := f) (k := (n % 16 * 5 + f)) hx hb dX0_keptValue_27 rfl ?_
      refine o_iald (v := nI (v 4 (n % 16 * 5 + f))) hx hb hK hP 4 0 rfl rfl (by omega) (Nat.le_of_ble_eq_true rfl) rfl dX0_keptValue_28 ?_
      exact W.iret (v := nI (v 4 (n % 16 * 5 + f))) hx hb hrt (fun t ht hW => ⟨_, rfl, (by simp only [b_kv, if_neg c_3, if_neg c_6]), ht⟩) (fun _ h => nomatch h) dX0_keptValue_29
    · skip
      refine o_const (k := 4294967295) hx hb dX0_keptValue_16 (by decide) ?_
      exact W.iret (v := nI 4294967295) hx hb hrt (fun t ht hW => ⟨_, rfl, (by simp only [b_kv, if_neg c_3, if_pos c_6]), ht⟩) (fun _ h => nomatch h) dX0_keptValue_17
theorem inX0_isSame_X0 : ∀ w ∈ wsX00, w ∈ wsX0_isSame := by decide +kernel
set_option maxHeartbeats 4000000 in
set_option maxRecDepth 100000 in
theorem k_X0_isSame (l : Launch) (D : va_G) (cI cR cS cL : ClassId) (q : Nat → Nat) (v : Nat → Nat → Nat) (a : Nat) (w : Nat → Nat) (ar : Nat) (har : ar + 5 ≤ 80) : Met l yX0_isSame wsX0_isSame ({ frames := 0, cells := 0, slots := 0, locals := 0 }) (va_Pc [.ref (q 0), .int (nI ar), .ref a] (o_R D (o_T cI cR cS cL) (wB q cI v ++ [oa cI a 5 w]))) (vp_Si (fun rz => rz = nI (b_sm (v 4) w ar))) 0 0 (fun _ => False) := by
  refine Met.ofW (cc := cX0_isSame) (maxL := 4) (ret := (some .boolean)) (by decide) rfl ?_
  intro p e s m args below meth cd s₁ B hml hv
  obtain ⟨rfl, hP, hK, hN⟩ := hv
  have hx := B.exec
  have hb := B.bytes
  have hrt := B.returns
  have hts := atoms_spec (ws := wsX0_isSame) B.pre
  have hown : s.vm.findClass RX0 = some m.cls := findClass_of_methodNamed B.named
  have hlocks := B.notSynchronized
  have hl := lv_entry ([.ref (q 0), .int (nI ar), .ref a]) (n := 4) (Nat.le_of_ble_eq_true rfl)
  rw [lg_entry_eq]
  generalize (lg_sl ([.ref (q 0), .int (nI ar), .ref a]) ++ List.replicate (4 - (lg_sl ([.ref (q 0), .int (nI ar), .ref a])).length) Slot.unset).toArray = ls at hl ⊢
  have hl : lv_has ls 4 [(0, .ref (q 0)), (1, .int (nI ar)), (2, .ref a)] := hl
  refine o_const (k := 0) hx hb dX0_isSame_0 (by decide) ?_
  refine lv_istore_n (lv' := [(3, .int (nI 0)), (0, .ref (q 0)), (1, .int (nI ar)), (2, .ref a)]) hx hb dX0_isSame_1 rfl hl (by decide) rfl (fun ls hl => ?_)
  refine lv_iload_n hx hb dX0_isSame_2 rfl (lv_at hl 0 rfl) ?_
  refine o_const (k := 5) hx hb dX0_isSame_3 (by decide) ?_
  refine o_icmp_ge (tgt := 29) hx hb dX0_isSame_4 (by decide) (Nat.le_of_ble_eq_true rfl) (Nat.le_of_ble_eq_true rfl) (fun c0 => absurd c0 (by decide)) (fun _ => ?_)
  refine lv_aload_n hx hb dX0_isSame_7 rfl (lv_at hl 1 rfl) ?_
  refine va_get (D := D) (ci := 0) (v := .ref (q 4)) (C := RX0) (T := TX0) (N := 5) hx hb hts inX0_isSame_X0 hown hK hP 0 rfl rfl 4 (by decide) (hts (.fieldLink RX0 21 "OddNotice$Board" "kept" "[I") (List.mem_of_getElem? (i := 1) (by decide +kernel))) (fun _ h9 => h9) rfl dX0_isSame_8 ?_
  refine lv_iload_n hx hb dX0_isSame_11 rfl (lv_at hl 2 rfl) ?_
  refine lv_iload_n hx hb dX0_isSame_12 rfl (lv_at hl 0 rfl) ?_
  refine o_iadd (a := ar) (b := 0) (k := ar) hx hb dX0_isSame_13 rfl ?_
  refine o_iald (v := nI (v 4 ar)) hx hb hK hP 4 0 rfl rfl (by omega) (Nat.le_of_ble_eq_true rfl) rfl dX0_isSame_14 ?_
  refine lv_aload_n hx hb dX0_isSame_15 rfl (lv_at hl 3 rfl) ?_
  refine lv_iload_n hx hb dX0_isSame_16 rfl (lv_at hl 0 rfl) ?_
  refine o_iald (v := nI (w 0)) hx hb hK hP 5 0 rfl rfl (Nat.le_of_ble_eq_true rfl) (Nat.le_of_ble_eq_true rfl) rfl dX0_isSame_17 ?_
  refine lv_icmp_eq (tgt := 23) hx hb dX0_isSame_18 (by decide) (fun c_1 => ?_) (fun c_1 => ?_)
  · skip
    refine lv_iinc (v := nI 1) (lv' := [(3, .int (nI 1)), (0, .ref (q 0)), (1, .int (nI ar)), (2, .ref a)]) hx hb dX0_isSame_23 hl (k := 0) rfl (by decide) (by decide) rfl (fun ls hl => ?_)
    refine lv_goto (tgt := 2) hx hb dX0_isSame_26 (by decide) ?_
    refine lv_iload_n hx hb dX0_isSame_2 rfl (lv_at hl 0 rfl) ?_
    refine o_const (k := 5) hx hb dX0_isSame_3 (by decide) ?_
    refine o_icmp_ge (tgt := 29) hx hb dX0_isSame_4 (by decide) (Nat.le_of_ble_eq_true rfl) (Nat.le_of_ble_eq_true rfl) (fun c0 => absurd c0 (by decide)) (fun _ => ?_)
    refine lv_aload_n hx hb dX0_isSame_7 rfl (lv_at hl 1 rfl) ?_
    refine va_get (D := D) (ci := 0) (v := .ref (q 4)) (C := RX0) (T := TX0) (N := 5) hx hb hts inX0_isSame_X0 hown hK hP 0 rfl rfl 4 (by decide) (hts (.fieldLink RX0 21 "OddNotice$Board" "kept" "[I") (List.mem_of_getElem? (i := 1) (by decide +kernel))) (fun _ h9 => h9) rfl dX0_isSame_8 ?_
    refine lv_iload_n hx hb dX0_isSame_11 rfl (lv_at hl 2 rfl) ?_
    refine lv_iload_n hx hb dX0_isSame_12 rfl (lv_at hl 0 rfl) ?_
    refine o_iadd (a := ar) (b := 1) (k := (ar + 1)) hx hb dX0_isSame_13 rfl ?_
    refine o_iald (v := nI (v 4 (ar + 1))) hx hb hK hP 4 0 rfl rfl (by omega) (Nat.le_of_ble_eq_true rfl) rfl dX0_isSame_14 ?_
    refine lv_aload_n hx hb dX0_isSame_15 rfl (lv_at hl 3 rfl) ?_
    refine lv_iload_n hx hb dX0_isSame_16 rfl (lv_at hl 0 rfl) ?_
    refine o_iald (v := nI (w 1)) hx hb hK hP 5 0 rfl rfl (Nat.le_of_ble_eq_true rfl) (Nat.le_of_ble_eq_true rfl) rfl dX0_isSame_17 ?_
    refine lv_icmp_eq (tgt := 23) hx hb dX0_isSame_18 (by decide) (fun c_2 => ?_) (fun c_2 => ?_)
    · skip
      refine lv_iinc (v := nI 2) (lv' := [(3, .int (nI 2)), (0, .ref (q 0)), (1, .int (nI ar)), (2, .ref a)]) hx hb dX0_isSame_23 hl (k := 0) rfl (by decide) (by decide) rfl (fun ls hl => ?_)
      refine lv_goto (tgt := 2) hx hb dX0_isSame_26 (by decide) ?_
      refine lv_iload_n hx hb dX0_isSame_2 rfl (lv_at hl 0 rfl) ?_
      refine o_const (k := 5) hx hb dX0_isSame_3 (by decide) ?_
      refine o_icmp_ge (tgt := 29) hx hb dX0_isSame_4 (by decide) (Nat.le_of_ble_eq_true rfl) (Nat.le_of_ble_eq_true rfl) (fun c0 => absurd c0 (by decide)) (fun _ => ?_)
      refine lv_aload_n hx hb dX0_isSame_7 rfl (lv_at hl 1 rfl) ?_
      refine va_get (D := D) (ci := 0) (v := .ref (q 4)) (C := RX0) (T := TX0) (N := 5) hx hb hts inX0_isSame_X0 hown hK hP 0 rfl rfl 4 (by decide) (hts (.fieldLink RX0 21 "OddNotice$Board" "kept" "[I") (List.mem_of_getElem? (i := 1) (by decide +kernel))) (fun _ h9 => h9) rfl dX0_isSame_8 ?_
      refine lv_iload_n hx hb dX0_isSame_11 rfl (lv_at hl 2 rfl) ?_
      refine lv_iload_n hx hb dX0_isSame_12 rfl (lv_at hl 0 rfl) ?_
      refine o_iadd (a := ar) (b := 2) (k := (ar + 2)) hx hb dX0_isSame_13 rfl ?_
      refine o_iald (v := nI (v 4 (ar + 2))) hx hb hK hP 4 0 rfl rfl (by omega) (Nat.le_of_ble_eq_true rfl) rfl dX0_isSame_14 ?_
      refine lv_aload_n hx hb dX0_isSame_15 rfl (lv_at hl 3 rfl) ?_
      refine lv_iload_n hx hb dX0_isSame_16 rfl (lv_at hl 0 rfl) ?_
      refine o_iald (v := nI (w 2)) hx hb hK hP 5 0 rfl rfl (Nat.le_of_ble_eq_true rfl) (Nat.le_of_ble_eq_true rfl) rfl dX0_isSame_17 ?_
      refine lv_icmp_eq (tgt := 23) hx hb dX0_isSame_18 (by decide) (fun c_3 => ?_) (fun c_3 => ?_)
      · skip
        refine lv_iinc (v := nI 3) (lv' := [(3, .int (nI 3)), (0, .ref (q 0)), (1, .int (nI ar)), (2, .ref a)]) hx hb dX0_isSame_23 hl (k := 0) rfl (by decide) (by decide) rfl (fun ls hl => ?_)
        refine lv_goto (tgt := 2) hx hb dX0_isSame_26 (by decide) ?_
        refine lv_iload_n hx hb dX0_isSame_2 rfl (lv_at hl 0 rfl) ?_
        refine o_const (k := 5) hx hb dX0_isSame_3 (by decide) ?_
        refine o_icmp_ge (tgt := 29) hx hb dX0_isSame_4 (by decide) (Nat.le_of_ble_eq_true rfl) (Nat.le_of_ble_eq_true rfl) (fun c0 => absurd c0 (by decide)) (fun _ => ?_)
        refine lv_aload_n hx hb dX0_isSame_7 rfl (lv_at hl 1 rfl) ?_
        refine va_get (D := D) (ci := 0) (v := .ref (q 4)) (C := RX0) (T := TX0) (N := 5) hx hb hts inX0_isSame_X0 hown hK hP 0 rfl rfl 4 (by decide) (hts (.fieldLink RX0 21 "OddNotice$Board" "kept" "[I") (List.mem_of_getElem? (i := 1) (by decide +kernel))) (fun _ h9 => h9) rfl dX0_isSame_8 ?_
        refine lv_iload_n hx hb dX0_isSame_11 rfl (lv_at hl 2 rfl) ?_
        refine lv_iload_n hx hb dX0_isSame_12 rfl (lv_at hl 0 rfl) ?_
        refine o_iadd (a := ar) (b := 3) (k := (ar + 3)) hx hb dX0_isSame_13 rfl ?_
        refine o_iald (v := nI (v 4 (ar + 3))) hx hb hK hP 4 0 rfl rfl (by omega) (Nat.le_of_ble_eq_true rfl) rfl dX0_isSame_14 ?_
        refine lv_aload_n hx hb dX0_isSame_15 rfl (lv_at hl 3 rfl) ?_
        refine lv_iload_n hx hb dX0_isSame_16 rfl (lv_at hl 0 rfl) ?_
        refine o_iald (v := nI (w 3)) hx hb hK hP 5 0 rfl rfl (Nat.le_of_ble_eq_true rfl) (Nat.le_of_ble_eq_true rfl) rfl dX0_isSame_17 ?_
        refine lv_icmp_eq (tgt := 23) hx hb dX0_isSame_18 (by decide) (fun c_4 => ?_) (fun c_4 => ?_)
        · skip
          refine lv_iinc (v := nI 4) (lv' := [(3, .int (nI 4)), (0, .ref (q 0)), (1, .int (nI ar)), (2, .ref a)]) hx hb dX0_isSame_23 hl (k := 0) rfl (by decide) (by decide) rfl (fun ls hl => ?_)
          refine lv_goto (tgt := 2) hx hb dX0_isSame_26 (by decide) ?_
          refine lv_iload_n hx hb dX0_isSame_2 rfl (lv_at hl 0 rfl) ?_
          refine o_const (k := 5) hx hb dX0_isSame_3 (by decide) ?_
          refine o_icmp_ge (tgt := 29) hx hb dX0_isSame_4 (by decide) (Nat.le_of_ble_eq_true rfl) (Nat.le_of_ble_eq_true rfl) (fun c0 => absurd c0 (by decide)) (fun _ => ?_)
          refine lv_aload_n hx hb dX0_isSame_7 rfl (lv_at hl 1 rfl) ?_
          refine va_get (D := D) (ci := 0) (v := .ref (q 4)) (C := RX0) (T := TX0) (N := 5) hx hb hts inX0_isSame_X0 hown hK hP 0 rfl rfl 4 (by decide) (hts (.fieldLink RX0 21 "OddNotice$Board" "kept" "[I") (List.mem_of_getElem? (i := 1) (by decide +kernel))) (fun _ h9 => h9) rfl dX0_isSame_8 ?_
          refine lv_iload_n hx hb dX0_isSame_11 rfl (lv_at hl 2 rfl) ?_
          refine lv_iload_n hx hb dX0_isSame_12 rfl (lv_at hl 0 rfl) ?_
          refine o_iadd (a := ar) (b := 4) (k := (ar + 4)) hx hb dX0_isSame_13 rfl ?_
          refine o_iald (v := nI (v 4 (ar + 4))) hx hb hK hP 4 0 rfl rfl (by omega) (Nat.le_of_ble_eq_true rfl) rfl dX0_isSame_14 ?_
          refine lv_aload_n hx hb dX0_isSame_15 rfl (lv_at hl 3 rfl) ?_
          refine lv_iload_n hx hb dX0_isSame_16 rfl (lv_at hl 0 rfl) ?_
          refine o_iald (v := nI (w 4)) hx hb hK hP 5 0 rfl rfl (Nat.le_of_ble_eq_true rfl) (Nat.le_of_ble_eq_true rfl) rfl dX0_isSame_17 ?_
          refine lv_icmp_eq (tgt := 23) hx hb dX0_isSame_18 (by decide) (fun c_5 => ?_) (fun c_5 => ?_)
          · skip
            refine lv_iinc (v := nI 5) (lv' := [(3, .int (nI 5)), (0, .ref (q 0)), (1, .int (nI ar)), (2, .ref a)]) hx hb dX0_isSame_23 hl (k := 0) rfl (by decide) (by decide) rfl (fun ls hl => ?_)
            refine lv_goto (tgt := 2) hx hb dX0_isSame_26 (by decide) ?_
            refine lv_iload_n hx hb dX0_isSame_2 rfl (lv_at hl 0 rfl) ?_
            refine o_const (k := 5) hx hb dX0_isSame_3 (by decide) ?_
            refine o_icmp_ge (tgt := 29) hx hb dX0_isSame_4 (by decide) (Nat.le_of_ble_eq_true rfl) (Nat.le_of_ble_eq_true rfl) (fun _ => ?_) (fun c0 => absurd c0 (by decide))
            refine o_const (k := 1) hx hb dX0_isSame_29 (by decide) ?_
            exact W.zret (v := nI 1) hx hb hrt rfl (fun t ht hW => ⟨_, rfl, (by simp only [b_sm, if_pos c_1, if_pos c_2, if_pos c_3, if_pos c_4, if_pos c_5]), ht⟩) (fun _ h => nomatch h) dX0_isSame_30
          · skip
            refine o_const (k := 0) hx hb dX0_isSame_21 (by decide) ?_
            exact W.zret (v := nI 0) hx hb hrt rfl (fun t ht hW => ⟨_, rfl, (by simp only [b_sm, if_pos c_1, if_pos c_2, if_pos c_3, if_pos c_4, if_neg c_5]), ht⟩) (fun _ h => nomatch h) dX0_isSame_22
        · skip
          refine o_const (k := 0) hx hb dX0_isSame_21 (by decide) ?_
          exact W.zret (v := nI 0) hx hb hrt rfl (fun t ht hW => ⟨_, rfl, (by simp only [b_sm, if_pos c_1, if_pos c_2, if_pos c_3, if_neg c_4]), ht⟩) (fun _ h => nomatch h) dX0_isSame_22
      · skip
        refine o_const (k := 0) hx hb dX0_isSame_21 (by decide) ?_
        exact W.zret (v := nI 0) hx hb hrt rfl (fun t ht hW => ⟨_, rfl, (by simp only [b_sm, if_pos c_1, if_pos c_2, if_neg c_3]), ht⟩) (fun _ h => nomatch h) dX0_isSame_22
    · skip
      refine o_const (k := 0) hx hb dX0_isSame_21 (by decide) ?_
      exact W.zret (v := nI 0) hx hb hrt rfl (fun t ht hW => ⟨_, rfl, (by simp only [b_sm, if_pos c_1, if_neg c_2]), ht⟩) (fun _ h => nomatch h) dX0_isSame_22
  · skip
    refine o_const (k := 0) hx hb dX0_isSame_21 (by decide) ?_
    exact W.zret (v := nI 0) hx hb hrt rfl (fun t ht hW => ⟨_, rfl, (by simp only [b_sm, if_neg c_1]), ht⟩) (fun _ h => nomatch h) dX0_isSame_22
set_option maxHeartbeats 4000000 in
set_option maxRecDepth 100000 in
theorem k_X0_latestSame (l : Launch) (D : va_G) (cI cR cS cL : ClassId) (q : Nat → Nat) (v : Nat → Nat → Nat) (a : Nat) (w : Nat → Nat) (hn : v 0 0 < 2 ^ 30) : Met l yX0_latestSame wsX0_latestSame ({ frames := 2, cells := 0, slots := 0, locals := 42 }) (va_Pc [.ref (q 0), .ref a] (o_R D (o_T cI cR cS cL) (wB q cI v ++ [oa cI a 5 w]))) (vp_Si (fun rz => rz = nI (b_ls (v 4) w (v 0 0 / 2) 16 0))) 0 0 (fun _ => False) := by
  refine Met.ofW (cc := cX0_latestSame) (maxL := 4) (ret := (some .int)) (by decide) rfl ?_
  intro p e s m args below meth cd s₁ B hml hv
  obtain ⟨rfl, hP, hK, hN⟩ := hv
  have hx := B.exec
  have hb := B.bytes
  have hrt := B.returns
  have hts := atoms_spec (ws := wsX0_latestSame) B.pre
  have hown : s.vm.findClass RX0 = some m.cls := findClass_of_methodNamed B.named
  have hlocks := B.notSynchronized
  have hl := lv_entry ([.ref (q 0), .ref a]) (n := 4) (Nat.le_of_ble_eq_true rfl)
  rw [lg_entry_eq]
  generalize (lg_sl ([.ref (q 0), .ref a]) ++ List.replicate (4 - (lg_sl ([.ref (q 0), .ref a])).length) Slot.unset).toArray = ls at hl ⊢
  have hl : lv_has ls 4 [(0, .ref (q 0)), (1, .ref a)] := hl
  refine lv_aload_n hx hb dX0_latestSame_0 rfl (lv_at hl 0 rfl) ?_
  refine o_ri (va_runV (As := []) (rest := []) ⟨hx, hb, hml, hown, hts⟩ (k_X0_latestWhole l D cI cR cS cL q v (by show v 0 0 < 2 ^ 31; first | assumption | omega)) (cwV 0 hts gX0_latestSame_X0_latestWhole rfl rfl rfl (by decide +kernel) ⟨Nat.le_of_ble_eq_true rfl, Nat.le_of_ble_eq_true rfl⟩) (o_v (o_pR hK hN (hP.sub (ws' := (wB q cI v)) [0, 1, 2, 3, 4] rfl)) (va_recv hK hP (ci := 0) (q0 := 0) rfl rfl)) rfl rfl hl.1 rfl (lv_room (Nat.le_of_ble_eq_true rfl)) dX0_latestSame_1 ⟨Nat.zero_le _, Nat.zero_le _⟩) (fun r_2 e_1 => ?_)
  have e_1 : r_2 = nI (v 0 0 / 2) := e_1
  subst e_1
  refine lv_istore_n (lv' := [(2, .int (nI (v 0 0 / 2))), (0, .ref (q 0)), (1, .ref a)]) hx hb dX0_latestSame_4 rfl hl (by decide) rfl (fun ls hl => ?_)
  refine o_const (k := 0) hx hb dX0_latestSame_5 (by decide) ?_
  refine lv_istore_n (lv' := [(3, .int (nI 0)), (2, .int (nI (v 0 0 / 2))), (0, .ref (q 0)), (1, .ref a)]) hx hb dX0_latestSame_6 rfl hl (by decide) rfl (fun ls hl => ?_)
  have lp_1 : ∀ (fu : Nat) (i : Nat), i ≤ 16 → b_ls (v 4) w (v 0 0 / 2) 16 0 = b_ls (v 4) w (v 0 0 / 2) (16 - i) i → 16 - i < fu → ∀ (ls : Array Slot) (hl : lv_has ls 4 [(3, .int (nI i)), (2, .int (nI (v 0 0 / 2))), (0, .ref (q 0)), (1, .ref a)]), W p l e (headSpec wsX0_latestSame ({ frames := 2, cells := 0, slots := 0, locals := 42 })).room s m ([.ref (q 0), .ref a] : List Value).toArray below meth cd s.heap [] 0 0 (MQ below (vp_Si (fun rz => rz = nI (b_ls (v 4) w (v 0 0 / 2) 16 0))) ([.ref (q 0), .ref a] : List Value).toArray s 0 0 (fun _ => False)) (F0 m 7 ls []) := by
    intro fu
    induction fu with
    | zero => intro i hi hq hm; exact absurd hm (Nat.not_lt_zero _)
    | succ fu ih_1 =>
      intro i hi hq hm_1 ls hl
      refine lv_iload_n hx hb dX0_latestSame_7 rfl (lv_at hl 0 rfl) ?_
      refine o_bipush (k := 16) hx hb dX0_latestSame_8 (by decide) ?_
      refine o_icmp_ge (tgt := 42) hx hb dX0_latestSame_10 (by decide) (by omega) (Nat.le_of_ble_eq_true rfl) (fun c_3 => ?_) (fun c_3 => ?_)
      · skip
        refine o_const (k := 4294967295) hx hb dX0_latestSame_42 (by decide) ?_
        exact W.iret (v := nI 4294967295) hx hb hrt (fun t ht hW => ⟨_, rfl, (congrArg nI ((hq.trans (b_ls_end _ _ _ _ (by omega))).symm)), ht⟩) (fun _ h => nomatch h) dX0_latestSame_43
      · skip
        refine lv_iload_n hx hb dX0_latestSame_13 rfl (lv_at hl 0 rfl) ?_
        refine lv_iload_n hx hb dX0_latestSame_14 rfl (lv_at hl 1 rfl) ?_
        refine o_icmp_gt (tgt := 42) hx hb dX0_latestSame_15 (by decide) (by omega) (by omega) (fun c_4 => ?_) (fun c_4 => ?_)
        · skip
          refine o_const (k := 4294967295) hx hb dX0_latestSame_42 (by decide) ?_
          exact W.iret (v := nI 4294967295) hx hb hrt (fun t ht hW => ⟨_, rfl, (congrArg nI ((hq.trans (b_ls_out _ _ _ _ (by omega))).symm)), ht⟩) (fun _ h => nomatch h) dX0_latestSame_43
        · skip
          refine lv_aload_n hx hb dX0_latestSame_18 rfl (lv_at hl 2 rfl) ?_
          refine lv_iload_n hx hb dX0_latestSame_19 rfl (lv_at hl 1 rfl) ?_
          refine lv_iload_n hx hb dX0_latestSame_20 rfl (lv_at hl 0 rfl) ?_
          refine o_isub (a := (v 0 0 / 2)) (b := i) (k := (v 0 0 / 2 - i)) hx hb dX0_latestSame_21 (by omega) rfl ?_
          refine o_ri (va_runS (As := [.int (nI (v 0 0 / 2 - i))]) (rest := [.ref (q 0)]) ⟨hx, hb, hml, hown, hts⟩ (k_X0_keptAt l D cI cR cS cL (v 0 0 / 2 - i) (by show (v 0 0 / 2 - i) < 2 ^ 31; first | assumption | omega)) (va_cwS 1 hts gX0_latestSame_X0_keptAt rfl rfl rfl (by decide +kernel) ⟨Nat.le_of_ble_eq_true rfl, Nat.le_of_ble_eq_true rfl⟩) (o_pR hK hN (hP.sub (ws' := []) [] rfl)) rfl rfl hl.1 rfl (lv_room (Nat.le_of_ble_eq_true rfl)) dX0_latestSame_22 ⟨Nat.zero_le _, Nat.zero_le _⟩) (fun r_6 e_5 => ?_)
          have e_5 : r_6 = nI ((v 0 0 / 2 - i) % 16 * 5) := e_5
          subst e_5
          refine lv_aload_n hx hb dX0_latestSame_25 rfl (lv_at hl 3 rfl) ?_
          refine o_ri (va_runV (As := [.int (nI ((v 0 0 / 2 - i) % 16 * 5)), .ref a]) (rest := []) ⟨hx, hb, hml, hown, hts⟩ (k_X0_isSame l D cI cR cS cL q v a w ((v 0 0 / 2 - i) % 16 * 5) (by show ((v 0 0 / 2 - i) % 16 * 5) + 5 ≤ 80; first | assumption | omega)) (cwV 2 hts gX0_latestSame_X0_isSame rfl rfl rfl (by decide +kernel) ⟨Nat.le_of_ble_eq_true rfl, Nat.le_of_ble_eq_true rfl⟩) (o_v (o_pR hK hN hP) (va_recv hK hP (ci := 0) (q0 := 0) rfl rfl)) rfl rfl hl.1 rfl (lv_room (Nat.le_of_ble_eq_true rfl)) dX0_latestSame_26 ⟨Nat.zero_le _, Nat.zero_le _⟩) (fun r_8 e_7 => ?_)
          have e_7 : r_8 = nI (b_sm (v 4) w ((v 0 0 / 2 - i) % 16 * 5)) := e_7
          subst e_7
          have hsm := b_sm_le (v 4) w ((v 0 0 / 2 - i) % 16 * 5)
          refine o_if_eq (tgt := 36) hx hb dX0_latestSame_29 (by decide) (by omega) (fun c_9 => ?_) (fun c_9 => ?_)
          · skip
            refine lv_iinc (v := nI (i + 1)) (lv' := [(3, .int (nI (i + 1))), (2, .int (nI (v 0 0 / 2))), (0, .ref (q 0)), (1, .ref a)]) hx hb dX0_latestSame_36 hl (k := 0) rfl (o_inc1 _) (by decide) rfl (fun ls hl => ?_)
            refine lv_goto (tgt := 7) hx hb dX0_latestSame_39 (by decide) ?_
            exact ih_1  (i + 1) (by omega) (hq.trans (b_ls_next _ _ _ _ (by omega) (by omega) (by omega))) (by omega) ls (lv_sub hl [0, 1, 2, 3] rfl)
          · skip
            refine lv_iload_n hx hb dX0_latestSame_32 rfl (lv_at hl 1 rfl) ?_
            refine lv_iload_n hx hb dX0_latestSame_33 rfl (lv_at hl 0 rfl) ?_
            refine o_isub (a := (v 0 0 / 2)) (b := i) (k := (v 0 0 / 2 - i)) hx hb dX0_latestSame_34 (by omega) rfl ?_
            exact W.iret (v := nI (v 0 0 / 2 - i)) hx hb hrt (fun t ht hW => ⟨_, rfl, (congrArg nI ((hq.trans (b_ls_hit _ _ _ _ (by omega) (by omega) (by omega))).symm)), ht⟩) (fun _ h => nomatch h) dX0_latestSame_35
  exact lp_1 _ 0 (by omega) (rfl) (Nat.lt_succ_self _) ls (lv_sub hl [0, 1, 2, 3] rfl)
theorem inX0_leave_X0 : ∀ w ∈ wsX00, w ∈ wsX0_leave := by decide +kernel
set_option maxHeartbeats 4000000 in
set_option maxRecDepth 100000 in
theorem k_X0_leave (l : Launch) (D : va_G) (cI cR cS cL : ClassId) (sz : Nat) (q : Nat → Nat) (v : Nat → Nat → Nat) (c : Nat) (hc : c < 3) (hn : v 0 0 < 2 ^ 30) (hp : ∀ c, c < 3 → v 3 c = 4294967295 ∨ v 3 c < 2 ^ 31) : Met l yX0_leave wsX0_leave ({ frames := 3, cells := 0, slots := 0, locals := 62 }) (va_Pc [.ref (q 0), .int (nI c)] (o_B D (o_T cI cR cS cL) (wB q cI v) sz)) (va_Qi (fun rz (_ : Unit) => rz = nI ((v 0 0 + 1) / 2)) (fun (_ : Unit) t => va_P D vwCl (wB q cI (b_leave v c)) t.heap) (va_A (wB q cI v) sz)) 0 0 (va_A (wB q cI v) sz) := by
  refine Met.ofW (cc := cX0_leave) (maxL := 3) (ret := (some .int)) (by decide) rfl ?_
  intro p e s m args below meth cd s₁ B hml hv
  obtain ⟨rfl, hsz, hP, hK, hD0, hN⟩ := hv
  have hx := B.exec
  have hb := B.bytes
  have hrt := B.returns
  have hts := atoms_spec (ws := wsX0_leave) B.pre
  have hown : s.vm.findClass RX0 = some m.cls := findClass_of_methodNamed B.named
  have hlocks := B.notSynchronized
  subst hsz
  have hD := hD0.self (sz := s.heap.size)
  generalize hAe : va_A (wB q cI v) s.heap.size = A at hD ⊢
  have hA : ∀ q : Nat, s.heap.size ≤ q → A q := fun q h => by rw [← hAe]; exact Or.inr h
  have hS : va_S A s.heap s.heap [] := va_S.rf
  have hl := lv_entry ([.ref (q 0), .int (nI c)]) (n := 3) (Nat.le_of_ble_eq_true rfl)
  rw [lg_entry_eq]
  generalize (lg_sl ([.ref (q 0), .int (nI c)]) ++ List.replicate (3 - (lg_sl ([.ref (q 0), .int (nI c)])).length) Slot.unset).toArray = ls at hl ⊢
  have hl : lv_has ls 3 [(0, .ref (q 0)), (1, .int (nI c))] := hl
  refine lv_aload_n hx hb dX0_leave_0 rfl (lv_at hl 0 rfl) ?_
  refine va_get (D := D) (ci := 0) (v := .ref (q 2)) (C := RX0) (T := TX0) (N := 5) hx hb hts inX0_leave_X0 hown hK hP 0 rfl rfl 2 (by decide) (hts (.fieldLink RX0 15 "OddNotice$Board" "timesDone" "[I") (List.mem_of_getElem? (i := 1) (by decide +kernel))) (fun _ h9 => h9) rfl dX0_leave_1 ?_
  refine lv_iload_n hx hb dX0_leave_4 rfl (lv_at hl 1 rfl) ?_
  refine lv_dup2_11 hx hb dX0_leave_5 rfl rfl ?_
  refine o_iald (v := nI (v 2 c)) hx hb hK hP 2 0 rfl rfl (by omega) (Nat.le_of_ble_eq_true rfl) rfl dX0_leave_6 ?_
  refine o_const (k := 1) hx hb dX0_leave_7 (by decide) ?_
  refine o_iadd (a := (v 2 c)) (b := 1) (k := ((v 2 c) + 1)) hx hb dX0_leave_8 rfl ?_
  refine o_iast (g := (v 2)) hx hb hK hP hD hS 2 0 rfl rfl (by omega) (Nat.le_of_ble_eq_true rfl) dX0_leave_9 (fun H locs hP hD hS => ?_)
  have hP : va_P D vwCl (wB q cI (va_up v 2 (va_up (v 2) c ((v 2 c) + 1)))) H := hP
  have hD : va_D A (wB q cI (va_up v 2 (va_up (v 2) c ((v 2 c) + 1)))) := hD
  refine lv_aload_n hx hb dX0_leave_10 rfl (lv_at hl 0 rfl) ?_
  refine o_wv (va_runV (As := []) (rest := []) ⟨hx, hb, hml, hown, hts⟩ (k_X0_stepForward l D cI cR cS cL H.size q (va_up v 2 (va_up (v 2) c ((v 2 c) + 1))) (fun c hc => hp c hc)) (cwV 0 hts gX0_leave_X0_stepForward rfl rfl rfl (by decide +kernel) ⟨Nat.le_of_ble_eq_true rfl, Nat.le_of_ble_eq_true rfl⟩) (o_v (o_pB hK hN hP hD) (va_recv hK hP (ci := 0) (q0 := 0) rfl rfl)) rfl rfl hl.1 rfl (lv_room (Nat.le_of_ble_eq_true rfl)) dX0_leave_11 ⟨Nat.zero_le _, Nat.zero_le _⟩) hP hD hS hA [0, 1, 2, 3, 4] (by decide) rfl (fun _ => rfl) (fun _ H locs e_1 hP hD hS => ?_)
  have hP : va_P D vwCl (wB q cI (va_up (va_up v 2 (va_up (v 2) c ((v 2 c) + 1))) 3 (b_stpf (v 3)))) H := hP
  have hD : va_D A (wB q cI (va_up (va_up v 2 (va_up (v 2) c ((v 2 c) + 1))) 3 (b_stpf (v 3)))) := hD
  refine lv_aload_n hx hb dX0_leave_14 rfl (lv_at hl 0 rfl) ?_
  refine lv_dup hx hb dX0_leave_15 rfl ?_
  refine va_get (D := D) (ci := 0) (v := .int (nI (v 0 0))) (C := RX0) (T := TX0) (N := 5) hx hb hts inX0_leave_X0 hown hK hP 0 rfl rfl 0 (by decide) (hts (.fieldLink RX0 24 "OddNotice$Board" "number" "I") (List.mem_of_getElem? (i := 2) (by decide +kernel))) (fun _ h9 => h9) rfl dX0_leave_16 ?_
  refine o_const (k := 1) hx hb dX0_leave_19 (by decide) ?_
  refine o_iadd (a := (v 0 0)) (b := 1) (k := ((v 0 0) + 1)) hx hb dX0_leave_20 rfl ?_
  refine va_put (D := D) (ci := 0) (v := .int (nI ((v 0 0) + 1))) (ty := .int) (C := RX0) (T := TX0) (N := 5) hx hb hts inX0_leave_X0 tyX0 tyX0_ok nmX0 hown hK hP hD hS 0 rfl rfl 0 (by decide) (hts (.fieldLink RX0 24 "OddNotice$Board" "number" "I") (List.mem_of_getElem? (i := 2) (by decide +kernel))) (fun _ h9 => h9) rfl (by decide +kernel) rfl rfl (Nat.le_of_ble_eq_true rfl) dX0_leave_21 (fun H locs hP hD hS => ?_)
  have hP : va_P D vwCl (wB q cI (va_up (va_up (va_up v 0 (va_up (v 0) 0 ((v 0 0) + 1))) 2 (va_up (v 2) c ((v 2 c) + 1))) 3 (b_stpf (v 3)))) H := hP
  have hD : va_D A (wB q cI (va_up (va_up (va_up v 0 (va_up (v 0) 0 ((v 0 0) + 1))) 2 (va_up (v 2) c ((v 2 c) + 1))) 3 (b_stpf (v 3)))) := hD
  refine lv_aload_n hx hb dX0_leave_24 rfl (lv_at hl 0 rfl) ?_
  refine o_wv (va_runV (As := []) (rest := []) ⟨hx, hb, hml, hown, hts⟩ (k_X0_keepFields l D cI cR cS cL H.size q (va_up (va_up (va_up v 0 (va_up (v 0) 0 ((v 0 0) + 1))) 2 (va_up (v 2) c ((v 2 c) + 1))) 3 (b_stpf (v 3))) (by show v 0 0 + 1 < 2 ^ 31; omega)) (cwV 0 hts gX0_leave_X0_keepFields rfl rfl rfl (by decide +kernel) ⟨Nat.le_of_ble_eq_true rfl, Nat.le_of_ble_eq_true rfl⟩) (o_v (o_pB hK hN hP hD) (va_recv hK hP (ci := 0) (q0 := 0) rfl rfl)) rfl rfl hl.1 rfl (lv_room (Nat.le_of_ble_eq_true rfl)) dX0_leave_25 ⟨Nat.zero_le _, Nat.zero_le _⟩) hP hD hS hA [0, 1, 2, 3, 4] (by decide) rfl (fun _ => rfl) (fun _ H locs e_2 hP hD hS => ?_)
  have hP : va_P D vwCl (wB q cI (va_up (va_up (va_up (va_up v 0 (va_up (v 0) 0 ((v 0 0) + 1))) 2 (va_up (v 2) c ((v 2 c) + 1))) 3 (b_stpf (v 3))) 4 (va_cpy (v 1) (v 4) 0 (((v 0 0) + 1) / 2 % 16 * 5) 5))) H := hP
  have hD : va_D A (wB q cI (va_up (va_up (va_up (va_up v 0 (va_up (v 0) 0 ((v 0 0) + 1))) 2 (va_up (v 2) c ((v 2 c) + 1))) 3 (b_stpf (v 3))) 4 (va_cpy (v 1) (v 4) 0 (((v 0 0) + 1) / 2 % 16 * 5) 5))) := hD
  refine lv_aload_n hx hb dX0_leave_28 rfl (lv_at hl 0 rfl) ?_
  refine o_ri (va_runV (As := []) (rest := []) ⟨hx, hb, hml, hown, hts⟩ (k_X0_latestWhole l D cI cR cS cL q (va_up (va_up (va_up (va_up v 0 (va_up (v 0) 0 ((v 0 0) + 1))) 2 (va_up (v 2) c ((v 2 c) + 1))) 3 (b_stpf (v 3))) 4 (va_cpy (v 1) (v 4) 0 (((v 0 0) + 1) / 2 % 16 * 5) 5)) (by show v 0 0 + 1 < 2 ^ 31; omega)) (cwV 0 hts gX0_leave_X0_latestWhole rfl rfl rfl (by decide +kernel) ⟨Nat.le_of_ble_eq_true rfl, Nat.le_of_ble_eq_true rfl⟩) (o_v (o_pR hK hN hP) (va_recv hK hP (ci := 0) (q0 := 0) rfl rfl)) rfl rfl hl.1 rfl (lv_room (Nat.le_of_ble_eq_true rfl)) dX0_leave_29 ⟨Nat.zero_le _, Nat.zero_le _⟩) (fun r_4 e_3 => ?_)
  have e_3 : r_4 = nI (((v 0 0) + 1) / 2) := e_3
  subst e_3
  refine lv_istore_n (lv' := [(2, .int (nI (((v 0 0) + 1) / 2))), (0, .ref (q 0)), (1, .int (nI c))]) hx hb dX0_leave_32 rfl hl (by decide) rfl (fun ls hl => ?_)
  refine lv_aload_n hx hb dX0_leave_33 rfl (lv_at hl 1 rfl) ?_
  refine o_ri (va_runV (As := []) (rest := []) ⟨hx, hb, hml, hown, hts⟩ (k_X0_inLine l D cI cR cS cL q (va_up (va_up (va_up (va_up v 0 (va_up (v 0) 0 ((v 0 0) + 1))) 2 (va_up (v 2) c ((v 2 c) + 1))) 3 (b_stpf (v 3))) 4 (va_cpy (v 1) (v 4) 0 (((v 0 0) + 1) / 2 % 16 * 5) 5)) (fun c hc => b_stpf_pl hp c hc)) (cwV 0 hts gX0_leave_X0_inLine rfl rfl rfl (by decide +kernel) ⟨Nat.le_of_ble_eq_true rfl, Nat.le_of_ble_eq_true rfl⟩) (o_v (o_pR hK hN hP) (va_recv hK hP (ci := 0) (q0 := 0) rfl rfl)) rfl rfl hl.1 rfl (lv_room (Nat.le_of_ble_eq_true rfl)) dX0_leave_34 ⟨Nat.zero_le _, Nat.zero_le _⟩) (fun r_6 e_5 => ?_)
  have e_5 : r_6 = nI (b_inl ((b_stpf (v 3)))) := e_5
  subst e_5
  have hil := b_inl_le (b_stpf (v 3))
  refine o_if_le (tgt := 50) hx hb dX0_leave_37 (by decide) (by omega) (fun c_7 => ?_) (fun c_7 => ?_)
  · skip
    refine lv_iload_n hx hb dX0_leave_50 rfl (lv_at hl 0 rfl) ?_
    have w_8 : (wB q cI (b_leave v c)) = (wB q cI (va_up (va_up (va_up (va_up v 0 (va_up (v 0) 0 ((v 0 0) + 1))) 2 (va_up (v 2) c ((v 2 c) + 1))) 3 (b_stpf (v 3))) 4 (va_cpy (v 1) (v 4) 0 (((v 0 0) + 1) / 2 % 16 * 5) 5))) := (by unfold b_leave; rw [if_neg c_7]; first | done | rfl)
    rw [← w_8] at hP
    exact W.iret (v := nI (((v 0 0) + 1) / 2)) hx hb hrt (fun t ht hW => ⟨⟨_, (), rfl, (by simp only [b_leave, if_neg c_7]), by show va_P D vwCl _ t.heap; rw [ht]; exact hP⟩, hS.F ht⟩) hS.2.2 dX0_leave_51
  · skip
    refine lv_aload_n hx hb dX0_leave_40 rfl (lv_at hl 1 rfl) ?_
    refine lv_dup hx hb dX0_leave_41 rfl ?_
    refine va_get (D := D) (ci := 0) (v := .int (nI ((v 0 0) + 1))) (C := RX0) (T := TX0) (N := 5) hx hb hts inX0_leave_X0 hown hK hP 0 rfl rfl 0 (by decide) (hts (.fieldLink RX0 24 "OddNotice$Board" "number" "I") (List.mem_of_getElem? (i := 2) (by decide +kernel))) (fun _ h9 => h9) rfl dX0_leave_42 ?_
    refine o_const (k := 1) hx hb dX0_leave_45 (by decide) ?_
    refine o_iadd (a := ((v 0 0) + 1)) (b := 1) (k := ((v 0 0) + 2)) hx hb dX0_leave_46 rfl ?_
    refine va_put (D := D) (ci := 0) (v := .int (nI ((v 0 0) + 2))) (ty := .int) (C := RX0) (T := TX0) (N := 5) hx hb hts inX0_leave_X0 tyX0 tyX0_ok nmX0 hown hK hP hD hS 0 rfl rfl 0 (by decide) (hts (.fieldLink RX0 24 "OddNotice$Board" "number" "I") (List.mem_of_getElem? (i := 2) (by decide +kernel))) (fun _ h9 => h9) rfl (by decide +kernel) rfl rfl (Nat.le_of_ble_eq_true rfl) dX0_leave_47 (fun H locs hP hD hS => ?_)
    have hP : va_P D vwCl (wB q cI (va_up (va_up (va_up (va_up v 0 (va_up (v 0) 0 ((v 0 0) + 2))) 2 (va_up (v 2) c ((v 2 c) + 1))) 3 (b_stpf (v 3))) 4 (va_cpy (v 1) (v 4) 0 (((v 0 0) + 1) / 2 % 16 * 5) 5))) H := hP
    have hD : va_D A (wB q cI (va_up (va_up (va_up (va_up v 0 (va_up (v 0) 0 ((v 0 0) + 2))) 2 (va_up (v 2) c ((v 2 c) + 1))) 3 (b_stpf (v 3))) 4 (va_cpy (v 1) (v 4) 0 (((v 0 0) + 1) / 2 % 16 * 5) 5))) := hD
    refine lv_iload_n hx hb dX0_leave_50 rfl (lv_at hl 0 rfl) ?_
    have w_9 : (wB q cI (b_leave v c)) = (wB q cI (va_up (va_up (va_up (va_up v 0 (va_up (v 0) 0 ((v 0 0) + 2))) 2 (va_up (v 2) c ((v 2 c) + 1))) 3 (b_stpf (v 3))) 4 (va_cpy (v 1) (v 4) 0 (((v 0 0) + 1) / 2 % 16 * 5) 5))) := (by unfold b_leave; rw [if_pos c_7]; first | done | rfl)
    rw [← w_9] at hP
    exact W.iret (v := nI (((v 0 0) + 1) / 2)) hx hb hrt (fun t ht hW => ⟨⟨_, (), rfl, (by simp only [b_leave, if_pos c_7]), by show va_P D vwCl _ t.heap; rw [ht]; exact hP⟩, hS.F ht⟩) hS.2.2 dX0_leave_51
theorem inX0_copyFrom_X0 : ∀ w ∈ wsX00, w ∈ wsX0_copyFrom := by decide +kernel
set_option maxHeartbeats 4000000 in
set_option maxRecDepth 100000 in
theorem k_X0_copyFrom (l : Launch) (D : va_G) (cI cR cS cL : ClassId) (sz : Nat) (q : Nat → Nat) (u : Nat → Nat → Nat) (qb : Nat → Nat) (v : Nat → Nat → Nat) : Met l yX0_copyFrom wsX0_copyFrom ({ frames := 1, cells := 0, slots := 0, locals := 18 }) (va_Pc [.ref (q 0), .ref (qb 0)] (o_B D (o_T cI cR cS cL) (wB q cI u ++ wB qb cI v) sz)) (va_Qv (fun (_ : Unit) => True) (fun (_ : Unit) t => va_P D vwCl (wB q cI v ++ wB qb cI v) t.heap) (va_A (wB q cI u ++ wB qb cI v) sz)) 0 0 (va_A (wB q cI u ++ wB qb cI v) sz) := by
  refine Met.ofW (cc := cX0_copyFrom) (maxL := 2) (ret := none) (by decide) rfl ?_
  intro p e s m args below meth cd s₁ B hml hv
  obtain ⟨rfl, hsz, hP, hK, hD0, hN⟩ := hv
  have hx := B.exec
  have hb := B.bytes
  have hrt := B.returns
  have hts := atoms_spec (ws := wsX0_copyFrom) B.pre
  have hown : s.vm.findClass RX0 = some m.cls := findClass_of_methodNamed B.named
  have hlocks := B.notSynchronized
  subst hsz
  have hD := hD0.self (sz := s.heap.size)
  generalize hAe : va_A (wB q cI u ++ wB qb cI v) s.heap.size = A at hD ⊢
  have hA : ∀ q : Nat, s.heap.size ≤ q → A q := fun q h => by rw [← hAe]; exact Or.inr h
  have hS : va_S A s.heap s.heap [] := va_S.rf
  have hl := lv_entry ([.ref (q 0), .ref (qb 0)]) (n := 2) (Nat.le_of_ble_eq_true rfl)
  rw [lg_entry_eq]
  generalize (lg_sl ([.ref (q 0), .ref (qb 0)]) ++ List.replicate (2 - (lg_sl ([.ref (q 0), .ref (qb 0)])).length) Slot.unset).toArray = ls at hl ⊢
  have hl : lv_has ls 2 [(0, .ref (q 0)), (1, .ref (qb 0))] := hl
  refine lv_aload_n hx hb dX0_copyFrom_0 rfl (lv_at hl 0 rfl) ?_
  refine lv_aload_n hx hb dX0_copyFrom_1 rfl (lv_at hl 1 rfl) ?_
  refine va_get (D := D) (ci := 0) (v := .int (nI (v 0 0))) (C := RX0) (T := TX0) (N := 5) hx hb hts inX0_copyFrom_X0 hown hK hP 5 rfl rfl 0 (by decide) (hts (.fieldLink RX0 24 "OddNotice$Board" "number" "I") (List.mem_of_getElem? (i := 1) (by decide +kernel))) (fun _ h9 => h9) rfl dX0_copyFrom_2 ?_
  refine va_put (D := D) (ci := 0) (v := .int (nI (v 0 0))) (ty := .int) (C := RX0) (T := TX0) (N := 5) hx hb hts inX0_copyFrom_X0 tyX0 tyX0_ok nmX0 hown hK hP hD hS 0 rfl rfl 0 (by decide) (hts (.fieldLink RX0 24 "OddNotice$Board" "number" "I") (List.mem_of_getElem? (i := 1) (by decide +kernel))) (fun _ h9 => h9) rfl (by decide +kernel) rfl rfl (Nat.le_of_ble_eq_true rfl) dX0_copyFrom_5 (fun H locs hP hD hS => ?_)
  have hP : va_P D vwCl (wB q cI (va_up u 0 (va_up (u 0) 0 (v 0 0))) ++ wB qb cI v) H := hP
  have hD : va_D A (wB q cI (va_up u 0 (va_up (u 0) 0 (v 0 0))) ++ wB qb cI v) := hD
  refine lv_aload_n hx hb dX0_copyFrom_8 rfl (lv_at hl 1 rfl) ?_
  refine va_get (D := D) (ci := 0) (v := .ref (qb 1)) (C := RX0) (T := TX0) (N := 5) hx hb hts inX0_copyFrom_X0 hown hK hP 5 rfl rfl 1 (by decide) (hts (.fieldLink RX0 9 "OddNotice$Board" "fields" "[I") (List.mem_of_getElem? (i := 2) (by decide +kernel))) (fun _ h9 => h9) rfl dX0_copyFrom_9 ?_
  refine o_const (k := 0) hx hb dX0_copyFrom_12 (by decide) ?_
  refine lv_aload_n hx hb dX0_copyFrom_13 rfl (lv_at hl 0 rfl) ?_
  refine va_get (D := D) (ci := 0) (v := .ref (q 1)) (C := RX0) (T := TX0) (N := 5) hx hb hts inX0_copyFrom_X0 hown hK hP 0 rfl rfl 1 (by decide) (hts (.fieldLink RX0 9 "OddNotice$Board" "fields" "[I") (List.mem_of_getElem? (i := 2) (by decide +kernel))) (fun _ h9 => h9) rfl dX0_copyFrom_14 ?_
  refine o_const (k := 0) hx hb dX0_copyFrom_17 (by decide) ?_
  refine o_const (k := 5) hx hb dX0_copyFrom_18 (by decide) ?_
  refine o_copy (f := (v 1)) (g := (u 1)) hx hb (hml.trans hl.1.symm) hown (hts (.methodLink RX0 52 arraycopyName) (List.mem_of_getElem? (i := 3) (by decide +kernel))) (hts (.native arraycopyName) (List.mem_of_getElem? (i := 4) (by decide +kernel))) (hts (.static arraycopyName) (List.mem_of_getElem? (i := 5) (by decide +kernel))) (hts (.initialized "java/lang/System") (List.mem_of_getElem? (i := 6) (by decide +kernel))) hK hP hD hS 6 1 0 rfl rfl rfl (Nat.le_of_ble_eq_true rfl) (Nat.le_of_ble_eq_true rfl) (Nat.le_of_ble_eq_true rfl) (Nat.le_of_ble_eq_true rfl) (Nat.le_of_ble_eq_true rfl) (Nat.le_of_ble_eq_true rfl) dX0_copyFrom_19 (fun H locs hP hD hS => ?_)
  have hP := o_P_eq (g := (v 1)) hP 1 rfl (fun k hk => if_pos ⟨Nat.zero_le _, by omega⟩ |>.trans (by simp))
  have hD := o_D_eq (e := (oa cI (q 1) 5 (v 1)).2) hD (k := 1) rfl
  have hP : va_P D vwCl (wB q cI (va_up (va_up u 0 (va_up (u 0) 0 (v 0 0))) 1 (v 1)) ++ wB qb cI v) H := hP
  have hD : va_D A (wB q cI (va_up (va_up u 0 (va_up (u 0) 0 (v 0 0))) 1 (v 1)) ++ wB qb cI v) := hD
  refine lv_aload_n hx hb dX0_copyFrom_22 rfl (lv_at hl 1 rfl) ?_
  refine va_get (D := D) (ci := 0) (v := .ref (qb 2)) (C := RX0) (T := TX0) (N := 5) hx hb hts inX0_copyFrom_X0 hown hK hP 5 rfl rfl 2 (by decide) (hts (.fieldLink RX0 15 "OddNotice$Board" "timesDone" "[I") (List.mem_of_getElem? (i := 7) (by decide +kernel))) (fun _ h9 => h9) rfl dX0_copyFrom_23 ?_
  refine o_const (k := 0) hx hb dX0_copyFrom_26 (by decide) ?_
  refine lv_aload_n hx hb dX0_copyFrom_27 rfl (lv_at hl 0 rfl) ?_
  refine va_get (D := D) (ci := 0) (v := .ref (q 2)) (C := RX0) (T := TX0) (N := 5) hx hb hts inX0_copyFrom_X0 hown hK hP 0 rfl rfl 2 (by decide) (hts (.fieldLink RX0 15 "OddNotice$Board" "timesDone" "[I") (List.mem_of_getElem? (i := 7) (by decide +kernel))) (fun _ h9 => h9) rfl dX0_copyFrom_28 ?_
  refine o_const (k := 0) hx hb dX0_copyFrom_31 (by decide) ?_
  refine o_const (k := 3) hx hb dX0_copyFrom_32 (by decide) ?_
  refine o_copy (f := (v 2)) (g := (u 2)) hx hb (hml.trans hl.1.symm) hown (hts (.methodLink RX0 52 arraycopyName) (List.mem_of_getElem? (i := 3) (by decide +kernel))) (hts (.native arraycopyName) (List.mem_of_getElem? (i := 4) (by decide +kernel))) (hts (.static arraycopyName) (List.mem_of_getElem? (i := 5) (by decide +kernel))) (hts (.initialized "java/lang/System") (List.mem_of_getElem? (i := 6) (by decide +kernel))) hK hP hD hS 7 2 0 rfl rfl rfl (Nat.le_of_ble_eq_true rfl) (Nat.le_of_ble_eq_true rfl) (Nat.le_of_ble_eq_true rfl) (Nat.le_of_ble_eq_true rfl) (Nat.le_of_ble_eq_true rfl) (Nat.le_of_ble_eq_true rfl) dX0_copyFrom_33 (fun H locs hP hD hS => ?_)
  have hP := o_P_eq (g := (v 2)) hP 2 rfl (fun k hk => if_pos ⟨Nat.zero_le _, by omega⟩ |>.trans (by simp))
  have hD := o_D_eq (e := (oa cI (q 2) 3 (v 2)).2) hD (k := 2) rfl
  have hP : va_P D vwCl (wB q cI (va_up (va_up (va_up u 0 (va_up (u 0) 0 (v 0 0))) 1 (v 1)) 2 (v 2)) ++ wB qb cI v) H := hP
  have hD : va_D A (wB q cI (va_up (va_up (va_up u 0 (va_up (u 0) 0 (v 0 0))) 1 (v 1)) 2 (v 2)) ++ wB qb cI v) := hD
  refine lv_aload_n hx hb dX0_copyFrom_36 rfl (lv_at hl 1 rfl) ?_
  refine va_get (D := D) (ci := 0) (v := .ref (qb 3)) (C := RX0) (T := TX0) (N := 5) hx hb hts inX0_copyFrom_X0 hown hK hP 5 rfl rfl 3 (by decide) (hts (.fieldLink RX0 18 "OddNotice$Board" "place" "[I") (List.mem_of_getElem? (i := 8) (by decide +kernel))) (fun _ h9 => h9) rfl dX0_copyFrom_37 ?_
  refine o_const (k := 0) hx hb dX0_copyFrom_40 (by decide) ?_
  refine lv_aload_n hx hb dX0_copyFrom_41 rfl (lv_at hl 0 rfl) ?_
  refine va_get (D := D) (ci := 0) (v := .ref (q 3)) (C := RX0) (T := TX0) (N := 5) hx hb hts inX0_copyFrom_X0 hown hK hP 0 rfl rfl 3 (by decide) (hts (.fieldLink RX0 18 "OddNotice$Board" "place" "[I") (List.mem_of_getElem? (i := 8) (by decide +kernel))) (fun _ h9 => h9) rfl dX0_copyFrom_42 ?_
  refine o_const (k := 0) hx hb dX0_copyFrom_45 (by decide) ?_
  refine o_const (k := 3) hx hb dX0_copyFrom_46 (by decide) ?_
  refine o_copy (f := (v 3)) (g := (u 3)) hx hb (hml.trans hl.1.symm) hown (hts (.methodLink RX0 52 arraycopyName) (List.mem_of_getElem? (i := 3) (by decide +kernel))) (hts (.native arraycopyName) (List.mem_of_getElem? (i := 4) (by decide +kernel))) (hts (.static arraycopyName) (List.mem_of_getElem? (i := 5) (by decide +kernel))) (hts (.initialized "java/lang/System") (List.mem_of_getElem? (i := 6) (by decide +kernel))) hK hP hD hS 8 3 0 rfl rfl rfl (Nat.le_of_ble_eq_true rfl) (Nat.le_of_ble_eq_true rfl) (Nat.le_of_ble_eq_true rfl) (Nat.le_of_ble_eq_true rfl) (Nat.le_of_ble_eq_true rfl) (Nat.le_of_ble_eq_true rfl) dX0_copyFrom_47 (fun H locs hP hD hS => ?_)
  have hP := o_P_eq (g := (v 3)) hP 3 rfl (fun k hk => if_pos ⟨Nat.zero_le _, by omega⟩ |>.trans (by simp))
  have hD := o_D_eq (e := (oa cI (q 3) 3 (v 3)).2) hD (k := 3) rfl
  have hP : va_P D vwCl (wB q cI (va_up (va_up (va_up (va_up u 0 (va_up (u 0) 0 (v 0 0))) 1 (v 1)) 2 (v 2)) 3 (v 3)) ++ wB qb cI v) H := hP
  have hD : va_D A (wB q cI (va_up (va_up (va_up (va_up u 0 (va_up (u 0) 0 (v 0 0))) 1 (v 1)) 2 (v 2)) 3 (v 3)) ++ wB qb cI v) := hD
  refine lv_aload_n hx hb dX0_copyFrom_50 rfl (lv_at hl 1 rfl) ?_
  refine va_get (D := D) (ci := 0) (v := .ref (qb 4)) (C := RX0) (T := TX0) (N := 5) hx hb hts inX0_copyFrom_X0 hown hK hP 5 rfl rfl 4 (by decide) (hts (.fieldLink RX0 21 "OddNotice$Board" "kept" "[I") (List.mem_of_getElem? (i := 9) (by decide +kernel))) (fun _ h9 => h9) rfl dX0_copyFrom_51 ?_
  refine o_const (k := 0) hx hb dX0_copyFrom_54 (by decide) ?_
  refine lv_aload_n hx hb dX0_copyFrom_55 rfl (lv_at hl 0 rfl) ?_
  refine va_get (D := D) (ci := 0) (v := .ref (q 4)) (C := RX0) (T := TX0) (N := 5) hx hb hts inX0_copyFrom_X0 hown hK hP 0 rfl rfl 4 (by decide) (hts (.fieldLink RX0 21 "OddNotice$Board" "kept" "[I") (List.mem_of_getElem? (i := 9) (by decide +kernel))) (fun _ h9 => h9) rfl dX0_copyFrom_56 ?_
  refine o_const (k := 0) hx hb dX0_copyFrom_59 (by decide) ?_
  refine o_bipush (k := 80) hx hb dX0_copyFrom_60 (by decide) ?_
  refine o_copy (f := (v 4)) (g := (u 4)) hx hb (hml.trans hl.1.symm) hown (hts (.methodLink RX0 52 arraycopyName) (List.mem_of_getElem? (i := 3) (by decide +kernel))) (hts (.native arraycopyName) (List.mem_of_getElem? (i := 4) (by decide +kernel))) (hts (.static arraycopyName) (List.mem_of_getElem? (i := 5) (by decide +kernel))) (hts (.initialized "java/lang/System") (List.mem_of_getElem? (i := 6) (by decide +kernel))) hK hP hD hS 9 4 0 rfl rfl rfl (Nat.le_of_ble_eq_true rfl) (Nat.le_of_ble_eq_true rfl) (Nat.le_of_ble_eq_true rfl) (Nat.le_of_ble_eq_true rfl) (Nat.le_of_ble_eq_true rfl) (Nat.le_of_ble_eq_true rfl) dX0_copyFrom_62 (fun H locs hP hD hS => ?_)
  have hP := o_P_eq (g := (v 4)) hP 4 rfl (fun k hk => if_pos ⟨Nat.zero_le _, by omega⟩ |>.trans (by simp))
  have hD := o_D_eq (e := (oa cI (q 4) 80 (v 4)).2) hD (k := 4) rfl
  have hP : va_P D vwCl (wB q cI (va_up (va_up (va_up (va_up (va_up u 0 (va_up (u 0) 0 (v 0 0))) 1 (v 1)) 2 (v 2)) 3 (v 3)) 4 (v 4)) ++ wB qb cI v) H := hP
  have hD : va_D A (wB q cI (va_up (va_up (va_up (va_up (va_up u 0 (va_up (u 0) 0 (v 0 0))) 1 (v 1)) 2 (v 2)) 3 (v 3)) 4 (v 4)) ++ wB qb cI v) := hD
  have w_1 : (wB q cI v ++ wB qb cI v) = (wB q cI (va_up (va_up (va_up (va_up (va_up u 0 (va_up (u 0) 0 (v 0 0))) 1 (v 1)) 2 (v 2)) 3 (v 3)) 4 (v 4)) ++ wB qb cI v) := rfl
  rw [← w_1] at hP
  exact W.vret hx hb hrt (fun t ht hW => ⟨⟨(), rfl, trivial, by show va_P D vwCl _ t.heap; rw [ht]; exact hP⟩, hS.F ht⟩) hS.2.2 dX0_copyFrom_65
