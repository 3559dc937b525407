theorem inX4_field_X4 : ∀ w ∈ wsX40, w ∈ wsX4_field := by decide +kernel
theorem inX4_field_X2 : ∀ w ∈ wsX20, w ∈ wsX4_field := by decide +kernel
theorem inX4_field_X0 : ∀ w ∈ wsX00, w ∈ wsX4_field := by decide +kernel
set_option maxHeartbeats 4000000 in
set_option maxRecDepth 100000 in
theorem k_X4_field (l : Launch) (D : va_G) (cI cR cS cL : ClassId) (o : Nat → Nat) (x : Nat → Nat → Nat) (v : Nat → Nat → Nat) (tl : va_W) (b : Nat) (f : Nat) (hf : f < 5) : Met l yX4_field wsX4_field ({ frames := 1, cells := 0, slots := 0, locals := 21 }) (va_Pc [.ref (o 0), .int (nI f)] (o_R D (o_T cI cR cS cL) (wO o cI cR cS x v tl))) (vp_Si (fun rz => rz = nI (v 1 f))) 0 0 (fun _ => False) := by
  refine Met.ofW (cc := cX4_field) (maxL := 2) (ret := (some .int)) (by decide) rfl ?_
  intro p e s m args below meth cd s₁ B hml hv
  obtain ⟨rfl, hP, hK, hN⟩ := hv
  have hx := B.exec
  have hb := B.bytes
  have hrt := B.returns
  have hts := atoms_spec (ws := wsX4_field) B.pre
  have hown : s.vm.findClass RX4 = some m.cls := findClass_of_methodNamed B.named
  have hlocks := B.notSynchronized
  have hl := lv_entry ([.ref (o 0), .int (nI f)]) (n := 2) (Nat.le_of_ble_eq_true rfl)
  rw [lg_entry_eq]
  generalize (lg_sl ([.ref (o 0), .int (nI f)]) ++ List.replicate (2 - (lg_sl ([.ref (o 0), .int (nI f)])).length) Slot.unset).toArray = ls at hl ⊢
  have hl : lv_has ls 2 [(0, .ref (o 0)), (1, .int (nI f))] := hl
  refine lv_iload_n hx hb dX4_field_0 rfl (lv_at hl 1 rfl) ?_
  refine o_const (k := 5) hx hb dX4_field_1 (by decide) ?_
  refine o_ri (va_runS (As := [.int (nI f), .int (nI 5)]) (rest := []) ⟨hx, hb, hml, hown, hts⟩ (k_X4_isBelow l D cI cR cS cL f 5 (by show f < 2 ^ 32; first | assumption | omega) (by show 5 < 2 ^ 31; first | assumption | omega)) (va_cwS 2 hts gX4_field_X4_isBelow rfl rfl rfl (by decide +kernel) ⟨Nat.le_of_ble_eq_true rfl, Nat.le_of_ble_eq_true rfl⟩) (o_pR hK hN (hP.sub (ws' := []) [] rfl)) rfl rfl hl.1 rfl (lv_room (Nat.le_of_ble_eq_true rfl)) dX4_field_2 ⟨Nat.zero_le _, Nat.zero_le _⟩) (fun r_2 e_1 => ?_)
  have e_1 : r_2 = nI (bn (f < 5)) := e_1
  subst e_1
  refine o_ifnz (tgt := 18) hx hb dX4_field_5 (by decide) (fun c_3 => ?_) (fun c_3 => ?_)
  · skip
    refine lv_aload_n hx hb dX4_field_18 rfl (lv_at hl 0 rfl) ?_
    refine va_get (D := D) (ci := 4) (v := .ref (o 5)) (C := RX4) (T := TX4) (N := 6) hx hb hts inX4_field_X4 hown hK hP 0 rfl rfl 0 (by decide) (hts (.fieldLink RX4 10 "OddNotice" "now" "LOddNotice$State;") (List.mem_of_getElem? (i := 3) (by decide +kernel))) (fun _ h9 => h9) rfl dX4_field_19 ?_
    refine va_get (D := D) (ci := 2) (v := .ref (o 6)) (C := RX2) (T := TX2) (N := 4) hx hb hts inX4_field_X2 hown hK hP 5 rfl rfl 0 (by decide) (hts (.fieldLink RX4 42 "OddNotice$State" "board" "LOddNotice$Board;") (List.mem_of_getElem? (i := 4) (by decide +kernel))) (fun _ h9 => h9) rfl dX4_field_22 ?_
    refine va_get (D := D) (ci := 0) (v := .ref (o 7)) (C := RX0) (T := TX0) (N := 5) hx hb hts inX4_field_X0 hown hK hP 7 rfl rfl 1 (by decide) (hts (.fieldLink RX4 164 "OddNotice$Board" "fields" "[I") (List.mem_of_getElem? (i := 5) (by decide +kernel))) (fun _ h9 => h9) rfl dX4_field_25 ?_
    refine lv_iload_n hx hb dX4_field_28 rfl (lv_at hl 1 rfl) ?_
    refine o_iald (v := nI (v 1 f)) hx hb hK hP 8 0 rfl rfl (by omega) (Nat.le_of_ble_eq_true rfl) rfl dX4_field_29 ?_
    exact W.iret (v := nI (v 1 f)) hx hb hrt (fun t ht hW => ⟨_, rfl, rfl, ht⟩) (fun _ h => nomatch h) dX4_field_30
  · skip
    exfalso
    omega
theorem inX4_notice_X4 : ∀ w ∈ wsX40, w ∈ wsX4_notice := by decide +kernel
theorem inX4_notice_X2 : ∀ w ∈ wsX20, w ∈ wsX4_notice := by decide +kernel
set_option maxHeartbeats 4000000 in
set_option maxRecDepth 100000 in
theorem k_X4_notice (l : Launch) (D : va_G) (cI cR cS cL : ClassId) (o : Nat → Nat) (x : Nat → Nat → Nat) (v : Nat → Nat → Nat) (tl : va_W) (b : Nat) (n : Nat) (f : Nat) (hSI : s_I b v) (hb : b < 2 ^ 28) (hn : n < 2 ^ 31) (hf : f < 5) : Met l yX4_notice wsX4_notice ({ frames := 3, cells := 0, slots := 0, locals := 64 }) (va_Pc [.ref (o 0), .int (nI n), .int (nI f)] (o_R D (o_T cI cR cS cL) (wO o cI cR cS x v tl))) (vp_Si (fun rz => rz = nI (b_kv v n f))) 0 0 (fun _ => False) := by
  refine Met.ofW (cc := cX4_notice) (maxL := 3) (ret := (some .int)) (by decide) rfl ?_
  intro p e s m args below meth cd s₁ B hml hv
  obtain ⟨rfl, hP, hK, hN⟩ := hv
  have hx := B.exec
  have hb := B.bytes
  have hrt := B.returns
  have hts := atoms_spec (ws := wsX4_notice) B.pre
  have hown : s.vm.findClass RX4 = some m.cls := findClass_of_methodNamed B.named
  have hlocks := B.notSynchronized
  have hl := lv_entry ([.ref (o 0), .int (nI n), .int (nI f)]) (n := 3) (Nat.le_of_ble_eq_true rfl)
  rw [lg_entry_eq]
  generalize (lg_sl ([.ref (o 0), .int (nI n), .int (nI f)]) ++ List.replicate (3 - (lg_sl ([.ref (o 0), .int (nI n), .int (nI f)])).length) Slot.unset).toArray = ls at hl ⊢
  have hl : lv_has ls 3 [(0, .ref (o 0)), (1, .int (nI n)), (2, .int (nI f))] := hl
  have hSc := hSI
  obtain ⟨⟨i1, i2, i3, hpl⟩, i5⟩ := hSI
  refine lv_iload_n hx hb dX4_notice_0 rfl (lv_at hl 2 rfl) ?_
  refine o_const (k := 5) hx hb dX4_notice_1 (by decide) ?_
  refine o_ri (va_runS (As := [.int (nI f), .int (nI 5)]) (rest := []) ⟨hx, hb, hml, hown, hts⟩ (k_X4_isBelow l D cI cR cS cL f 5 (by show f < 2 ^ 32; first | assumption | omega) (by show 5 < 2 ^ 31; first | assumption | omega)) (va_cwS 2 hts gX4_notice_X4_isBelow rfl rfl rfl (by decide +kernel) ⟨Nat.le_of_ble_eq_true rfl, Nat.le_of_ble_eq_true rfl⟩) (o_pR hK hN (hP.sub (ws' := []) [] rfl)) rfl rfl hl.1 rfl (lv_room (Nat.le_of_ble_eq_true rfl)) dX4_notice_2 ⟨Nat.zero_le _, Nat.zero_le _⟩) (fun r_2 e_1 => ?_)
  have e_1 : r_2 = nI (bn (f < 5)) := e_1
  subst e_1
  refine o_ifnz (tgt := 18) hx hb dX4_notice_5 (by decide) (fun c_3 => ?_) (fun c_3 => ?_)
  · skip
    refine lv_iload_n hx hb dX4_notice_18 rfl (lv_at hl 1 rfl) ?_
    refine o_if_ge (tgt := 32) hx hb dX4_notice_19 (by decide) (by omega) ?_
    refine lv_aload_n hx hb dX4_notice_32 rfl (lv_at hl 0 rfl) ?_
    refine va_get (D := D) (ci := 4) (v := .ref (o 5)) (C := RX4) (T := TX4) (N := 6) hx hb hts inX4_notice_X4 hown hK hP 0 rfl rfl 0 (by decide) (hts (.fieldLink RX4 10 "OddNotice" "now" "LOddNotice$State;") (List.mem_of_getElem? (i := 5) (by decide +kernel))) (fun _ h9 => h9) rfl dX4_notice_33 ?_
    refine va_get (D := D) (ci := 2) (v := .ref (o 6)) (C := RX2) (T := TX2) (N := 4) hx hb hts inX4_notice_X2 hown hK hP 5 rfl rfl 0 (by decide) (hts (.fieldLink RX4 42 "OddNotice$State" "board" "LOddNotice$Board;") (List.mem_of_getElem? (i := 6) (by decide +kernel))) (fun _ h9 => h9) rfl dX4_notice_36 ?_
    refine lv_iload_n hx hb dX4_notice_39 rfl (lv_at hl 1 rfl) ?_
    refine lv_iload_n hx hb dX4_notice_40 rfl (lv_at hl 2 rfl) ?_
    refine o_ri (va_runV (As := [.int (nI n), .int (nI f)]) (rest := []) ⟨hx, hb, hml, hown, hts⟩ (k_X0_keptValue l D cI cR cS cL (fun k => o (k + 6)) v n f (by show v 0 0 < 2 ^ 30; first | assumption | omega) (by show n < 2 ^ 31; first | assumption | omega) (by show f < 5; first | assumption | omega)) (cwV 2 hts gX4_notice_X0_keptValue rfl rfl rfl (by decide +kernel) ⟨Nat.le_of_ble_eq_true rfl, Nat.le_of_ble_eq_true rfl⟩) (o_v (o_pR hK hN (hP.sub (ws' := (wB (fun k => o (k + 6)) cI v)) [7, 8, 9, 10, 11] rfl)) (va_recv hK hP (ci := 0) (q0 := 7) rfl rfl)) rfl rfl hl.1 rfl (lv_room (Nat.le_of_ble_eq_true rfl)) dX4_notice_41 ⟨Nat.zero_le _, Nat.zero_le _⟩) (fun r_5 e_4 => ?_)
    have e_4 : r_5 = nI (b_kv v n f) := e_4
    subst e_4
    exact W.iret (v := nI (b_kv v n f)) hx hb hrt (fun t ht hW => ⟨_, rfl, rfl, ht⟩) (fun _ h => nomatch h) dX4_notice_44
  · skip
    exfalso
    omega
theorem inX4_clerk_X4 : ∀ w ∈ wsX40, w ∈ wsX4_clerk := by decide +kernel
theorem inX4_clerk_X2 : ∀ w ∈ wsX20, w ∈ wsX4_clerk := by decide +kernel
theorem inX4_clerk_X0 : ∀ w ∈ wsX00, w ∈ wsX4_clerk := by decide +kernel
set_option maxHeartbeats 4000000 in
set_option maxRecDepth 100000 in
theorem k_X4_clerk (l : Launch) (D : va_G) (cI cR cS cL : ClassId) (o : Nat → Nat) (x : Nat → Nat → Nat) (v : Nat → Nat → Nat) (tl : va_W) (b : Nat) (c : Nat) (k : Nat) (hSI : s_I b v) (hb : b < 2 ^ 28) (hc : c < 3) (hk : k < 3) : Met l yX4_clerk wsX4_clerk ({ frames := 2, cells := 0, slots := 0, locals := 42 }) (va_Pc [.ref (o 0), .int (nI c), .int (nI k)] (o_R D (o_T cI cR cS cL) (wO o cI cR cS x v tl))) (vp_Si (fun rz => rz = nI (c_clk v c k))) 0 0 (fun _ => False) := by
  refine Met.ofW (cc := cX4_clerk) (maxL := 3) (ret := (some .int)) (by decide) rfl ?_
  intro p e s m args below meth cd s₁ B hml hv
  obtain ⟨rfl, hP, hK, hN⟩ := hv
  have hx := B.exec
  have hb := B.bytes
  have hrt := B.returns
  have hts := atoms_spec (ws := wsX4_clerk) B.pre
  have hown : s.vm.findClass RX4 = some m.cls := findClass_of_methodNamed B.named
  have hlocks := B.notSynchronized
  have hl := lv_entry ([.ref (o 0), .int (nI c), .int (nI k)]) (n := 3) (Nat.le_of_ble_eq_true rfl)
  rw [lg_entry_eq]
  generalize (lg_sl ([.ref (o 0), .int (nI c), .int (nI k)]) ++ List.replicate (3 - (lg_sl ([.ref (o 0), .int (nI c), .int (nI k)])).length) Slot.unset).toArray = ls at hl ⊢
  have hl : lv_has ls 3 [(0, .ref (o 0)), (1, .int (nI c)), (2, .int (nI k))] := hl
  rcases o_lt3 hk with rfl | rfl | rfl
  · skip
    have hSc := hSI
    obtain ⟨⟨i1, i2, i3, hpl⟩, i5⟩ := hSI
    refine lv_iload_n hx hb dX4_clerk_0 rfl (lv_at hl 1 rfl) ?_
    refine o_const (k := 3) hx hb dX4_clerk_1 (by decide) ?_
    refine o_ri (va_runS (As := [.int (nI c), .int (nI 3)]) (rest := []) ⟨hx, hb, hml, hown, hts⟩ (k_X4_isBelow l D cI cR cS cL c 3 (by show c < 2 ^ 32; first | assumption | omega) (by show 3 < 2 ^ 31; first | assumption | omega)) (va_cwS 2 hts gX4_clerk_X4_isBelow rfl rfl rfl (by decide +kernel) ⟨Nat.le_of_ble_eq_true rfl, Nat.le_of_ble_eq_true rfl⟩) (o_pR hK hN (hP.sub (ws' := []) [] rfl)) rfl rfl hl.1 rfl (lv_room (Nat.le_of_ble_eq_true rfl)) dX4_clerk_2 ⟨Nat.zero_le _, Nat.zero_le _⟩) (fun r_2 e_1 => ?_)
    have e_1 : r_2 = nI (bn (c < 3)) := e_1
    subst e_1
    refine o_ifnz (tgt := 18) hx hb dX4_clerk_5 (by decide) (fun c_3 => ?_) (fun c_3 => ?_)
    · skip
      refine lv_iload_n hx hb dX4_clerk_18 rfl (lv_at hl 2 rfl) ?_
      refine lv_tableIn (tgt := 44) (off := 25) hx hb dX4_clerk_19 (by decide) (by decide) (by decide) (by decide) ?_
      refine lv_aload_n hx hb dX4_clerk_44 rfl (lv_at hl 0 rfl) ?_
      refine va_get (D := D) (ci := 4) (v := .ref (o 5)) (C := RX4) (T := TX4) (N := 6) hx hb hts inX4_clerk_X4 hown hK hP 0 rfl rfl 0 (by decide) (hts (.fieldLink RX4 10 "OddNotice" "now" "LOddNotice$State;") (List.mem_of_getElem? (i := 5) (by decide +kernel))) (fun _ h9 => h9) rfl dX4_clerk_45 ?_
      refine va_get (D := D) (ci := 2) (v := .ref (o 6)) (C := RX2) (T := TX2) (N := 4) hx hb hts inX4_clerk_X2 hown hK hP 5 rfl rfl 0 (by decide) (hts (.fieldLink RX4 42 "OddNotice$State" "board" "LOddNotice$Board;") (List.mem_of_getElem? (i := 6) (by decide +kernel))) (fun _ h9 => h9) rfl dX4_clerk_48 ?_
      refine lv_iload_n hx hb dX4_clerk_51 rfl (lv_at hl 1 rfl) ?_
      refine o_ri (va_runV (As := [.int (nI c)]) (rest := []) ⟨hx, hb, hml, hown, hts⟩ (k_X0_doing l D cI cR cS cL (fun k => o (k + 6)) v c (by show c < 3; first | assumption | omega) (by have := hpl c (by omega); omega)) (cwV 1 hts gX4_clerk_X0_doing rfl rfl rfl (by decide +kernel) ⟨Nat.le_of_ble_eq_true rfl, Nat.le_of_ble_eq_true rfl⟩) (o_v (o_pR hK hN (hP.sub (ws' := (wB (fun k => o (k + 6)) cI v)) [7, 8, 9, 10, 11] rfl)) (va_recv hK hP (ci := 0) (q0 := 7) rfl rfl)) rfl rfl hl.1 rfl (lv_room (Nat.le_of_ble_eq_true rfl)) dX4_clerk_52 ⟨Nat.zero_le _, Nat.zero_le _⟩) (fun r_5 e_4 => ?_)
      have e_4 : r_5 = nI (b_doing (v 3) c) := e_4
      subst e_4
      exact W.iret (v := nI (b_doing (v 3) c)) hx hb hrt (fun t ht hW => ⟨_, rfl, rfl, ht⟩) (fun _ h => nomatch h) dX4_clerk_55
    · skip
      exfalso
      omega
  · skip
    have hSc := hSI
    obtain ⟨⟨i1, i2, i3, hpl⟩, i5⟩ := hSI
    refine lv_iload_n hx hb dX4_clerk_0 rfl (lv_at hl 1 rfl) ?_
    refine o_const (k := 3) hx hb dX4_clerk_1 (by decide) ?_
    refine o_ri (va_runS (As := [.int (nI c), .int (nI 3)]) (rest := []) ⟨hx, hb, hml, hown, hts⟩ (k_X4_isBelow l D cI cR cS cL c 3 (by show c < 2 ^ 32; first | assumption | omega) (by show 3 < 2 ^ 31; first | assumption | omega)) (va_cwS 2 hts gX4_clerk_X4_isBelow rfl rfl rfl (by decide +kernel) ⟨Nat.le_of_ble_eq_true rfl, Nat.le_of_ble_eq_true rfl⟩) (o_pR hK hN (hP.sub (ws' := []) [] rfl)) rfl rfl hl.1 rfl (lv_room (Nat.le_of_ble_eq_true rfl)) dX4_clerk_2 ⟨Nat.zero_le _, Nat.zero_le _⟩) (fun r_7 e_6 => ?_)
    have e_6 : r_7 = nI (bn (c < 3)) := e_6
    subst e_6
    refine o_ifnz (tgt := 18) hx hb dX4_clerk_5 (by decide) (fun c_8 => ?_) (fun c_8 => ?_)
    · skip
      refine lv_iload_n hx hb dX4_clerk_18 rfl (lv_at hl 2 rfl) ?_
      refine lv_tableIn (tgt := 56) (off := 37) hx hb dX4_clerk_19 (by decide) (by decide) (by decide) (by decide) ?_
      refine lv_aload_n hx hb dX4_clerk_56 rfl (lv_at hl 0 rfl) ?_
      refine va_get (D := D) (ci := 4) (v := .ref (o 5)) (C := RX4) (T := TX4) (N := 6) hx hb hts inX4_clerk_X4 hown hK hP 0 rfl rfl 0 (by decide) (hts (.fieldLink RX4 10 "OddNotice" "now" "LOddNotice$State;") (List.mem_of_getElem? (i := 5) (by decide +kernel))) (fun _ h9 => h9) rfl dX4_clerk_57 ?_
      refine va_get (D := D) (ci := 2) (v := .ref (o 6)) (C := RX2) (T := TX2) (N := 4) hx hb hts inX4_clerk_X2 hown hK hP 5 rfl rfl 0 (by decide) (hts (.fieldLink RX4 42 "OddNotice$State" "board" "LOddNotice$Board;") (List.mem_of_getElem? (i := 6) (by decide +kernel))) (fun _ h9 => h9) rfl dX4_clerk_60 ?_
      refine lv_iload_n hx hb dX4_clerk_63 rfl (lv_at hl 1 rfl) ?_
      refine o_ri (va_runV (As := [.int (nI c)]) (rest := []) ⟨hx, hb, hml, hown, hts⟩ (k_X0_waitingAhead l D cI cR cS cL (fun k => o (k + 6)) v c (by show c < 3; first | assumption | omega) (by have := hpl c (by omega); omega)) (cwV 1 hts gX4_clerk_X0_waitingAhead rfl rfl rfl (by decide +kernel) ⟨Nat.le_of_ble_eq_true rfl, Nat.le_of_ble_eq_true rfl⟩) (o_v (o_pR hK hN (hP.sub (ws' := (wB (fun k => o (k + 6)) cI v)) [7, 8, 9, 10, 11] rfl)) (va_recv hK hP (ci := 0) (q0 := 7) rfl rfl)) rfl rfl hl.1 rfl (lv_room (Nat.le_of_ble_eq_true rfl)) dX4_clerk_64 ⟨Nat.zero_le _, Nat.zero_le _⟩) (fun r_10 e_9 => ?_)
      have e_9 : r_10 = nI (b_ahead (v 3) c) := e_9
      subst e_9
      exact W.iret (v := nI (b_ahead (v 3) c)) hx hb hrt (fun t ht hW => ⟨_, rfl, rfl, ht⟩) (fun _ h => nomatch h) dX4_clerk_67
    · skip
      exfalso
      omega
  · skip
    have hSc := hSI
    obtain ⟨⟨i1, i2, i3, hpl⟩, i5⟩ := hSI
    refine lv_iload_n hx hb dX4_clerk_0 rfl (lv_at hl 1 rfl) ?_
    refine o_const (k := 3) hx hb dX4_clerk_1 (by decide) ?_
    refine o_ri (va_runS (As := [.int (nI c), .int (nI 3)]) (rest := []) ⟨hx, hb, hml, hown, hts⟩ (k_X4_isBelow l D cI cR cS cL c 3 (by show c < 2 ^ 32; first | assumption | omega) (by show 3 < 2 ^ 31; first | assumption | omega)) (va_cwS 2 hts gX4_clerk_X4_isBelow rfl rfl rfl (by decide +kernel) ⟨Nat.le_of_ble_eq_true rfl, Nat.le_of_ble_eq_true rfl⟩) (o_pR hK hN (hP.sub (ws' := []) [] rfl)) rfl rfl hl.1 rfl (lv_room (Nat.le_of_ble_eq_true rfl)) dX4_clerk_2 ⟨Nat.zero_le _, Nat.zero_le _⟩) (fun r_12 e_11 => ?_)
    have e_11 : r_12 = nI (bn (c < 3)) := e_11
    subst e_11
    refine o_ifnz (tgt := 18) hx hb dX4_clerk_5 (by decide) (fun c_13 => ?_) (fun c_13 => ?_)
    · skip
      refine lv_iload_n hx hb dX4_clerk_18 rfl (lv_at hl 2 rfl) ?_
      refine lv_tableIn (tgt := 68) (off := 49) hx hb dX4_clerk_19 (by decide) (by decide) (by decide) (by decide) ?_
      refine lv_aload_n hx hb dX4_clerk_68 rfl (lv_at hl 0 rfl) ?_
      refine va_get (D := D) (ci := 4) (v := .ref (o 5)) (C := RX4) (T := TX4) (N := 6) hx hb hts inX4_clerk_X4 hown hK hP 0 rfl rfl 0 (by decide) (hts (.fieldLink RX4 10 "OddNotice" "now" "LOddNotice$State;") (List.mem_of_getElem? (i := 5) (by decide +kernel))) (fun _ h9 => h9) rfl dX4_clerk_69 ?_
      refine va_get (D := D) (ci := 2) (v := .ref (o 6)) (C := RX2) (T := TX2) (N := 4) hx hb hts inX4_clerk_X2 hown hK hP 5 rfl rfl 0 (by decide) (hts (.fieldLink RX4 42 "OddNotice$State" "board" "LOddNotice$Board;") (List.mem_of_getElem? (i := 6) (by decide +kernel))) (fun _ h9 => h9) rfl dX4_clerk_72 ?_
      refine va_get (D := D) (ci := 0) (v := .ref (o 8)) (C := RX0) (T := TX0) (N := 5) hx hb hts inX4_clerk_X0 hown hK hP 7 rfl rfl 2 (by decide) (hts (.fieldLink RX4 178 "OddNotice$Board" "timesDone" "[I") (List.mem_of_getElem? (i := 7) (by decide +kernel))) (fun _ h9 => h9) rfl dX4_clerk_75 ?_
      refine lv_iload_n hx hb dX4_clerk_78 rfl (lv_at hl 1 rfl) ?_
      refine o_iald (v := nI (v 2 c)) hx hb hK hP 9 0 rfl rfl (by omega) (Nat.le_of_ble_eq_true rfl) rfl dX4_clerk_79 ?_
      exact W.iret (v := nI (v 2 c)) hx hb hrt (fun t ht hW => ⟨_, rfl, rfl, ht⟩) (fun _ h => nomatch h) dX4_clerk_80
    · skip
      exfalso
      omega
theorem inX4_count_X4 : ∀ w ∈ wsX40, w ∈ wsX4_count := by decide +kernel
theorem inX4_count_X2 : ∀ w ∈ wsX20, w ∈ wsX4_count := by decide +kernel
theorem inX4_count_X0 : ∀ w ∈ wsX00, w ∈ wsX4_count := by decide +kernel
set_option maxHeartbeats 4000000 in
set_option maxRecDepth 100000 in
theorem k_X4_count (l : Launch) (D : va_G) (cI cR cS cL : ClassId) (o : Nat → Nat) (x : Nat → Nat → Nat) (v : Nat → Nat → Nat) (tl : va_W) (b : Nat) (k : Nat) (hSI : s_I b v) (hb : b < 2 ^ 28) (hk : k < 9) : Met l yX4_count wsX4_count ({ frames := 2, cells := 0, slots := 0, locals := 43 }) (va_Pc [.ref (o 0), .int (nI k)] (o_R D (o_T cI cR cS cL) (wO o cI cR cS x v tl))) (vp_Si (fun rz => rz = nI (c_cnt v (x 0 4) k))) 0 0 (fun _ => False) := by
  refine Met.ofW (cc := cX4_count) (maxL := 2) (ret := (some .int)) (by decide) rfl ?_
  intro p e s m args below meth cd s₁ B hml hv
  obtain ⟨rfl, hP, hK, hN⟩ := hv
  have hx := B.exec
  have hb := B.bytes
  have hrt := B.returns
  have hts := atoms_spec (ws := wsX4_count) B.pre
  have hown : s.vm.findClass RX4 = some m.cls := findClass_of_methodNamed B.named
  have hlocks := B.notSynchronized
  have hl := lv_entry ([.ref (o 0), .int (nI k)]) (n := 2) (Nat.le_of_ble_eq_true rfl)
  rw [lg_entry_eq]
  generalize (lg_sl ([.ref (o 0), .int (nI k)]) ++ List.replicate (2 - (lg_sl ([.ref (o 0), .int (nI k)])).length) Slot.unset).toArray = ls at hl ⊢
  have hl : lv_has ls 2 [(0, .ref (o 0)), (1, .int (nI k))] := hl
  rcases (show k = 0 ∨ k = 1 ∨ k = 2 ∨ k = 3 ∨ k = 4 ∨ k = 5 ∨ k = 6 ∨ k = 7 ∨ k = 8 by omega) with rfl | rfl | rfl | rfl | rfl | rfl | rfl | rfl | rfl
  · skip
    have hSc := hSI
    obtain ⟨⟨i1, i2, i3, hpl⟩, i5⟩ := hSI
    refine lv_iload_n hx hb dX4_count_0 rfl (lv_at hl 1 rfl) ?_
    refine lv_tableIn (tgt := 52) (off := 51) hx hb dX4_count_1 (by decide) (by decide) (by decide) (by decide) ?_
    refine lv_aload_n hx hb dX4_count_52 rfl (lv_at hl 0 rfl) ?_
    refine va_get (D := D) (ci := 4) (v := .ref (o 5)) (C := RX4) (T := TX4) (N := 6) hx hb hts inX4_count_X4 hown hK hP 0 rfl rfl 0 (by decide) (hts (.fieldLink RX4 10 "OddNotice" "now" "LOddNotice$State;") (List.mem_of_getElem? (i := 3) (by decide +kernel))) (fun _ h9 => h9) rfl dX4_count_53 ?_
    refine va_get (D := D) (ci := 2) (v := .ref (o 6)) (C := RX2) (T := TX2) (N := 4) hx hb hts inX4_count_X2 hown hK hP 5 rfl rfl 0 (by decide) (hts (.fieldLink RX4 42 "OddNotice$State" "board" "LOddNotice$Board;") (List.mem_of_getElem? (i := 4) (by decide +kernel))) (fun _ h9 => h9) rfl dX4_count_56 ?_
    refine va_get (D := D) (ci := 0) (v := .int (nI (v 0 0))) (C := RX0) (T := TX0) (N := 5) hx hb hts inX4_count_X0 hown hK hP 7 rfl rfl 0 (by decide) (hts (.fieldLink RX4 213 "OddNotice$Board" "number" "I") (List.mem_of_getElem? (i := 5) (by decide +kernel))) (fun _ h9 => h9) rfl dX4_count_59 ?_
    exact W.iret (v := nI (v 0 0)) hx hb hrt (fun t ht hW => ⟨_, rfl, rfl, ht⟩) (fun _ h => nomatch h) dX4_count_62
  · skip
    have hSc := hSI
    obtain ⟨⟨i1, i2, i3, hpl⟩, i5⟩ := hSI
    refine lv_iload_n hx hb dX4_count_0 rfl (lv_at hl 1 rfl) ?_
    refine lv_tableIn (tgt := 63) (off := 62) hx hb dX4_count_1 (by decide) (by decide) (by decide) (by decide) ?_
    refine lv_aload_n hx hb dX4_count_63 rfl (lv_at hl 0 rfl) ?_
    refine va_get (D := D) (ci := 4) (v := .ref (o 5)) (C := RX4) (T := TX4) (N := 6) hx hb hts inX4_count_X4 hown hK hP 0 rfl rfl 0 (by decide) (hts (.fieldLink RX4 10 "OddNotice" "now" "LOddNotice$State;") (List.mem_of_getElem? (i := 3) (by decide +kernel))) (fun _ h9 => h9) rfl dX4_count_64 ?_
    refine va_get (D := D) (ci := 2) (v := .ref (o 6)) (C := RX2) (T := TX2) (N := 4) hx hb hts inX4_count_X2 hown hK hP 5 rfl rfl 0 (by decide) (hts (.fieldLink RX4 42 "OddNotice$State" "board" "LOddNotice$Board;") (List.mem_of_getElem? (i := 4) (by decide +kernel))) (fun _ h9 => h9) rfl dX4_count_67 ?_
    refine o_ri (va_runV (As := []) (rest := []) ⟨hx, hb, hml, hown, hts⟩ (k_X0_whoChalks l D cI cR cS cL (fun k => o (k + 6)) v (fun c hc => by have := hpl c hc; omega)) (cwV 0 hts gX4_count_X0_whoChalks rfl rfl rfl (by decide +kernel) ⟨Nat.le_of_ble_eq_true rfl, Nat.le_of_ble_eq_true rfl⟩) (o_v (o_pR hK hN (hP.sub (ws' := (wB (fun k => o (k + 6)) cI v)) [7, 8, 9, 10, 11] rfl)) (va_recv hK hP (ci := 0) (q0 := 7) rfl rfl)) rfl rfl hl.1 rfl (lv_room (Nat.le_of_ble_eq_true rfl)) dX4_count_70 ⟨Nat.zero_le _, Nat.zero_le _⟩) (fun r_2 e_1 => ?_)
    have e_1 : r_2 = nI (b_who (v 3)) := e_1
    subst e_1
    exact W.iret (v := nI (b_who (v 3))) hx hb hrt (fun t ht hW => ⟨_, rfl, rfl, ht⟩) (fun _ h => nomatch h) dX4_count_73
  · skip
    have hSc := hSI
    obtain ⟨⟨i1, i2, i3, hpl⟩, i5⟩ := hSI
    refine lv_iload_n hx hb dX4_count_0 rfl (lv_at hl 1 rfl) ?_
    refine lv_tableIn (tgt := 74) (off := 73) hx hb dX4_count_1 (by decide) (by decide) (by decide) (by decide) ?_
    refine o_const (k := 0) hx hb dX4_count_74 (by decide) ?_
    refine lv_aload_n hx hb dX4_count_75 rfl (lv_at hl 0 rfl) ?_
    refine va_get (D := D) (ci := 4) (v := .ref (o 5)) (C := RX4) (T := TX4) (N := 6) hx hb hts inX4_count_X4 hown hK hP 0 rfl rfl 0 (by decide) (hts (.fieldLink RX4 10 "OddNotice" "now" "LOddNotice$State;") (List.mem_of_getElem? (i := 3) (by decide +kernel))) (fun _ h9 => h9) rfl dX4_count_76 ?_
    refine va_get (D := D) (ci := 2) (v := .ref (o 6)) (C := RX2) (T := TX2) (N := 4) hx hb hts inX4_count_X2 hown hK hP 5 rfl rfl 0 (by decide) (hts (.fieldLink RX4 42 "OddNotice$State" "board" "LOddNotice$Board;") (List.mem_of_getElem? (i := 4) (by decide +kernel))) (fun _ h9 => h9) rfl dX4_count_79 ?_
    refine o_ri (va_runV (As := []) (rest := [.int (nI 0)]) ⟨hx, hb, hml, hown, hts⟩ (k_X0_inLine l D cI cR cS cL (fun k => o (k + 6)) v (fun c hc => by have := hpl c hc; omega)) (cwV 0 hts gX4_count_X0_inLine rfl rfl rfl (by decide +kernel) ⟨Nat.le_of_ble_eq_true rfl, Nat.le_of_ble_eq_true rfl⟩) (o_v (o_pR hK hN (hP.sub (ws' := (wB (fun k => o (k + 6)) cI v)) [7, 8, 9, 10, 11] rfl)) (va_recv hK hP (ci := 0) (q0 := 7) rfl rfl)) rfl rfl hl.1 rfl (lv_room (Nat.le_of_ble_eq_true rfl)) dX4_count_82 ⟨Nat.zero_le _, Nat.zero_le _⟩) (fun r_4 e_3 => ?_)
    have e_3 : r_4 = nI (b_inl (v 3)) := e_3
    subst e_3
    refine o_const (k := 1) hx hb dX4_count_85 (by decide) ?_
    refine lv_isub hx hb dX4_count_86 ?_
    refine va_mmax (x := nI 0) (y := (nI (b_inl (v 3)) - nI 1)) hx hb (hml.trans hl.1.symm) hown (hts (.methodLink RX4 222 Lib.Math.max.name) (List.mem_of_getElem? (i := 6) (by decide +kernel))) (hts (.static Lib.Math.max.name) (List.mem_of_getElem? (i := 7) (by decide +kernel))) (hts (.initialized "java/lang/Math") (List.mem_of_getElem? (i := 8) (by decide +kernel))) (hts (.code Lib.Math.max.name Lib.Math.max.code 2 (some .int)) (List.mem_of_getElem? (i := 9) (by decide +kernel))) (Nat.le_of_ble_eq_true rfl) (Nat.le_of_ble_eq_true rfl) (Nat.zero_le _) (Nat.zero_le _) dX4_count_87 ?_
    refine o_ti (o_max1 (b_inl_le _)) ?_
    exact W.iret (v := nI (b_inl (v 3) - 1)) hx hb hrt (fun t ht hW => ⟨_, rfl, rfl, ht⟩) (fun _ h => nomatch h) dX4_count_90
  · skip
    have hSc := hSI
    obtain ⟨⟨i1, i2, i3, hpl⟩, i5⟩ := hSI
    refine lv_iload_n hx hb dX4_count_0 rfl (lv_at hl 1 rfl) ?_
    refine lv_tableIn (tgt := 91) (off := 90) hx hb dX4_count_1 (by decide) (by decide) (by decide) (by decide) ?_
    refine lv_aload_n hx hb dX4_count_91 rfl (lv_at hl 0 rfl) ?_
    refine va_get (D := D) (ci := 4) (v := .ref (o 5)) (C := RX4) (T := TX4) (N := 6) hx hb hts inX4_count_X4 hown hK hP 0 rfl rfl 0 (by decide) (hts (.fieldLink RX4 10 "OddNotice" "now" "LOddNotice$State;") (List.mem_of_getElem? (i := 3) (by decide +kernel))) (fun _ h9 => h9) rfl dX4_count_92 ?_
    refine o_ri (va_runV (As := []) (rest := []) ⟨hx, hb, hml, hown, hts⟩ (k_X2_reading l D cI cR cS cL (fun k => o (k + 5)) v b (by show s_I b v; first | assumption | omega) (by show b < 2 ^ 28; first | assumption | omega)) (cwV 0 hts gX4_count_X2_reading rfl rfl rfl (by decide +kernel) ⟨Nat.le_of_ble_eq_true rfl, Nat.le_of_ble_eq_true rfl⟩) (o_v (o_pR hK hN (hP.sub (ws' := (wS (fun k => o (k + 5)) cI cR v)) [5, 6, 7, 8, 9, 10, 11, 12, 13, 14, 15, 16, 17, 18, 19, 20, 21, 22, 23] rfl)) (va_recv hK hP (ci := 2) (q0 := 5) rfl rfl)) rfl rfl hl.1 rfl (lv_room (Nat.le_of_ble_eq_true rfl)) dX4_count_95 ⟨Nat.zero_le _, Nat.zero_le _⟩) (fun r_6 e_5 => ?_)
    have e_5 : r_6 = nI (s_sum v 1) := e_5
    subst e_5
    exact W.iret (v := nI (s_sum v 1)) hx hb hrt (fun t ht hW => ⟨_, rfl, rfl, ht⟩) (fun _ h => nomatch h) dX4_count_98
  · skip
    have hSc := hSI
    obtain ⟨⟨i1, i2, i3, hpl⟩, i5⟩ := hSI
    refine lv_iload_n hx hb dX4_count_0 rfl (lv_at hl 1 rfl) ?_
    refine lv_tableIn (tgt := 99) (off := 98) hx hb dX4_count_1 (by decide) (by decide) (by decide) (by decide) ?_
    refine lv_aload_n hx hb dX4_count_99 rfl (lv_at hl 0 rfl) ?_
    refine va_get (D := D) (ci := 4) (v := .ref (o 5)) (C := RX4) (T := TX4) (N := 6) hx hb hts inX4_count_X4 hown hK hP 0 rfl rfl 0 (by decide) (hts (.fieldLink RX4 10 "OddNotice" "now" "LOddNotice$State;") (List.mem_of_getElem? (i := 3) (by decide +kernel))) (fun _ h9 => h9) rfl dX4_count_100 ?_
    refine o_ri (va_runV (As := []) (rest := []) ⟨hx, hb, hml, hown, hts⟩ (k_X2_failedOfAll l D cI cR cS cL (fun k => o (k + 5)) v b (by show s_I b v; first | assumption | omega) (by show b < 2 ^ 28; first | assumption | omega)) (cwV 0 hts gX4_count_X2_failedOfAll rfl rfl rfl (by decide +kernel) ⟨Nat.le_of_ble_eq_true rfl, Nat.le_of_ble_eq_true rfl⟩) (o_v (o_pR hK hN (hP.sub (ws' := (wS (fun k => o (k + 5)) cI cR v)) [5, 6, 7, 8, 9, 10, 11, 12, 13, 14, 15, 16, 17, 18, 19, 20, 21, 22, 23] rfl)) (va_recv hK hP (ci := 2) (q0 := 5) rfl rfl)) rfl rfl hl.1 rfl (lv_room (Nat.le_of_ble_eq_true rfl)) dX4_count_103 ⟨Nat.zero_le _, Nat.zero_le _⟩) (fun r_8 e_7 => ?_)
    have e_7 : r_8 = nI (s_sum v 6) := e_7
    subst e_7
    exact W.iret (v := nI (s_sum v 6)) hx hb hrt (fun t ht hW => ⟨_, rfl, rfl, ht⟩) (fun _ h => nomatch h) dX4_count_106
  · skip
    have hSc := hSI
    obtain ⟨⟨i1, i2, i3, hpl⟩, i5⟩ := hSI
    refine lv_iload_n hx hb dX4_count_0 rfl (lv_at hl 1 rfl) ?_
    refine lv_tableIn (tgt := 107) (off := 106) hx hb dX4_count_1 (by decide) (by decide) (by decide) (by decide) ?_
    refine lv_aload_n hx hb dX4_count_107 rfl (lv_at hl 0 rfl) ?_
    refine va_get (D := D) (ci := 4) (v := .ref (o 5)) (C := RX4) (T := TX4) (N := 6) hx hb hts inX4_count_X4 hown hK hP 0 rfl rfl 0 (by decide) (hts (.fieldLink RX4 10 "OddNotice" "now" "LOddNotice$State;") (List.mem_of_getElem? (i := 3) (by decide +kernel))) (fun _ h9 => h9) rfl dX4_count_108 ?_
    refine o_ri (va_runV (As := []) (rest := []) ⟨hx, hb, hml, hown, hts⟩ (k_X2_wellOfAll l D cI cR cS cL (fun k => o (k + 5)) v b (by show s_I b v; first | assumption | omega) (by show b < 2 ^ 28; first | assumption | omega)) (cwV 0 hts gX4_count_X2_wellOfAll rfl rfl rfl (by decide +kernel) ⟨Nat.le_of_ble_eq_true rfl, Nat.le_of_ble_eq_true rfl⟩) (o_v (o_pR hK hN (hP.sub (ws' := (wS (fun k => o (k + 5)) cI cR v)) [5, 6, 7, 8, 9, 10, 11, 12, 13, 14, 15, 16, 17, 18, 19, 20, 21, 22, 23] rfl)) (va_recv hK hP (ci := 2) (q0 := 5) rfl rfl)) rfl rfl hl.1 rfl (lv_room (Nat.le_of_ble_eq_true rfl)) dX4_count_111 ⟨Nat.zero_le _, Nat.zero_le _⟩) (fun r_10 e_9 => ?_)
    have e_9 : r_10 = nI (s_sum v 7) := e_9
    subst e_9
    exact W.iret (v := nI (s_sum v 7)) hx hb hrt (fun t ht hW => ⟨_, rfl, rfl, ht⟩) (fun _ h => nomatch h) dX4_count_114
  · skip
    have hSc := hSI
    obtain ⟨⟨i1, i2, i3, hpl⟩, i5⟩ := hSI
    refine lv_iload_n hx hb dX4_count_0 rfl (lv_at hl 1 rfl) ?_
    refine lv_tableIn (tgt := 115) (off := 114) hx hb dX4_count_1 (by decide) (by decide) (by decide) (by decide) ?_
    refine lv_aload_n hx hb dX4_count_115 rfl (lv_at hl 0 rfl) ?_
    refine va_get (D := D) (ci := 4) (v := .ref (o 5)) (C := RX4) (T := TX4) (N := 6) hx hb hts inX4_count_X4 hown hK hP 0 rfl rfl 0 (by decide) (hts (.fieldLink RX4 10 "OddNotice" "now" "LOddNotice$State;") (List.mem_of_getElem? (i := 3) (by decide +kernel))) (fun _ h9 => h9) rfl dX4_count_116 ?_
    refine va_get (D := D) (ci := 2) (v := .int (nI (v 0 1))) (C := RX2) (T := TX2) (N := 4) hx hb hts inX4_count_X2 hown hK hP 5 rfl rfl 2 (by decide) (hts (.fieldLink RX4 236 "OddNotice$State" "halves" "I") (List.mem_of_getElem? (i := 10) (by decide +kernel))) (fun _ h9 => h9) rfl dX4_count_119 ?_
    exact W.iret (v := nI (v 0 1)) hx hb hrt (fun t ht hW => ⟨_, rfl, rfl, ht⟩) (fun _ h => nomatch h) dX4_count_122
  · skip
    have hSc := hSI
    obtain ⟨⟨i1, i2, i3, hpl⟩, i5⟩ := hSI
    refine lv_iload_n hx hb dX4_count_0 rfl (lv_at hl 1 rfl) ?_
    refine lv_tableIn (tgt := 123) (off := 122) hx hb dX4_count_1 (by decide) (by decide) (by decide) (by decide) ?_
    refine lv_aload_n hx hb dX4_count_123 rfl (lv_at hl 0 rfl) ?_
    refine va_get (D := D) (ci := 4) (v := .ref (o 5)) (C := RX4) (T := TX4) (N := 6) hx hb hts inX4_count_X4 hown hK hP 0 rfl rfl 0 (by decide) (hts (.fieldLink RX4 10 "OddNotice" "now" "LOddNotice$State;") (List.mem_of_getElem? (i := 3) (by decide +kernel))) (fun _ h9 => h9) rfl dX4_count_124 ?_
    refine va_get (D := D) (ci := 2) (v := .int (nI (v 0 2))) (C := RX2) (T := TX2) (N := 4) hx hb hts inX4_count_X2 hown hK hP 5 rfl rfl 3 (by decide) (hts (.fieldLink RX4 122 "OddNotice$State" "setting" "I") (List.mem_of_getElem? (i := 11) (by decide +kernel))) (fun _ h9 => h9) rfl dX4_count_127 ?_
    exact W.iret (v := nI (v 0 2)) hx hb hrt (fun t ht hW => ⟨_, rfl, rfl, ht⟩) (fun _ h => nomatch h) dX4_count_130
  · skip
    have hSc := hSI
    obtain ⟨⟨i1, i2, i3, hpl⟩, i5⟩ := hSI
    refine lv_iload_n hx hb dX4_count_0 rfl (lv_at hl 1 rfl) ?_
    refine lv_tableIn (tgt := 131) (off := 130) hx hb dX4_count_1 (by decide) (by decide) (by decide) (by decide) ?_
    refine lv_aload_n hx hb dX4_count_131 rfl (lv_at hl 0 rfl) ?_
    refine va_get (D := D) (ci := 4) (v := .int (nI (x 0 4))) (C := RX4) (T := TX4) (N := 6) hx hb hts inX4_count_X4 hown hK hP 0 rfl rfl 3 (by decide) (hts (.fieldLink RX4 152 "OddNotice" "savedCount" "I") (List.mem_of_getElem? (i := 12) (by decide +kernel))) (fun _ h9 => h9) rfl dX4_count_132 ?_
    exact W.iret (v := nI (x 0 4)) hx hb hrt (fun t ht hW => ⟨_, rfl, rfl, ht⟩) (fun _ h => nomatch h) dX4_count_135
theorem inX4_has_X4 : ∀ w ∈ wsX40, w ∈ wsX4_has := by decide +kernel
theorem inX4_has_X2 : ∀ w ∈ wsX20, w ∈ wsX4_has := by decide +kernel
theorem inX4_has_X1 : ∀ w ∈ wsX10, w ∈ wsX4_has := by decide +kernel
set_option maxHeartbeats 4000000 in
set_option maxRecDepth 100000 in
theorem k_X4_has (l : Launch) (D : va_G) (cI cR cS cL : ClassId) (o : Nat → Nat) (x : Nat → Nat → Nat) (v : Nat → Nat → Nat) (tl : va_W) (b : Nat) (r : Nat) (f : Nat) (hSI : s_I b v) (hb : b < 2 ^ 28) (hr : r < 4) (hf : f < 5) : Met l yX4_has wsX4_has ({ frames := 1, cells := 0, slots := 0, locals := 21 }) (va_Pc [.ref (o 0), .int (nI r), .int (nI f)] (o_R D (o_T cI cR cS cL) (wO o cI cR cS x v tl))) (vp_Si (fun rz => rz = nI (c_has v r f))) 0 0 (fun _ => False) := by
  refine Met.ofW (cc := cX4_has) (maxL := 4) (ret := (some .int)) (by decide) rfl ?_
  intro p e s m args below meth cd s₁ B hml hv
  obtain ⟨rfl, hP, hK, hN⟩ := hv
  have hx := B.exec
  have hb := B.bytes
  have hrt := B.returns
  have hts := atoms_spec (ws := wsX4_has) B.pre
  have hown : s.vm.findClass RX4 = some m.cls := findClass_of_methodNamed B.named
  have hlocks := B.notSynchronized
  have hl := lv_entry ([.ref (o 0), .int (nI r), .int (nI f)]) (n := 4) (Nat.le_of_ble_eq_true rfl)
  rw [lg_entry_eq]
  generalize (lg_sl ([.ref (o 0), .int (nI r), .int (nI f)]) ++ List.replicate (4 - (lg_sl ([.ref (o 0), .int (nI r), .int (nI f)])).length) Slot.unset).toArray = ls at hl ⊢
  have hl : lv_has ls 4 [(0, .ref (o 0)), (1, .int (nI r)), (2, .int (nI f))] := hl
  rcases o_lt4 hr with rfl | rfl | rfl | rfl
  · skip
    have hSc := hSI
    obtain ⟨⟨i1, i2, i3, hpl⟩, i5⟩ := hSI
    have i12 := i5 0 (by omega)
    unfold s_IR at i12
    simp only [Nat.reduceMul, Nat.reduceAdd] at i12
    refine lv_iload_n hx hb dX4_has_0 rfl (lv_at hl 1 rfl) ?_
    refine o_const (k := 4) hx hb dX4_has_1 (by decide) ?_
    refine o_ri (va_runS (As := [.int (nI 0), .int (nI 4)]) (rest := []) ⟨hx, hb, hml, hown, hts⟩ (k_X4_isBelow l D cI cR cS cL 0 4 (by show 0 < 2 ^ 32; first | assumption | omega) (by show 4 < 2 ^ 31; first | assumption | omega)) (va_cwS 2 hts gX4_has_X4_isBelow rfl rfl rfl (by decide +kernel) ⟨Nat.le_of_ble_eq_true rfl, Nat.le_of_ble_eq_true rfl⟩) (o_pR hK hN (hP.sub (ws' := []) [] rfl)) rfl rfl hl.1 rfl (lv_room (Nat.le_of_ble_eq_true rfl)) dX4_has_2 ⟨Nat.zero_le _, Nat.zero_le _⟩) (fun r_2 e_1 => ?_)
    have e_1 : r_2 = nI (bn (0 < 4)) := e_1
    subst e_1
    refine o_ifz (tgt := 16) hx hb dX4_has_5 (by decide) (fun c_3 => ?_) (fun c_3 => ?_)
    · skip
      exfalso
      omega
    · skip
      refine lv_iload_n hx hb dX4_has_8 rfl (lv_at hl 2 rfl) ?_
      refine o_const (k := 5) hx hb dX4_has_9 (by decide) ?_
      refine o_ri (va_runS (As := [.int (nI f), .int (nI 5)]) (rest := []) ⟨hx, hb, hml, hown, hts⟩ (k_X4_isBelow l D cI cR cS cL f 5 (by show f < 2 ^ 32; first | assumption | omega) (by show 5 < 2 ^ 31; first | assumption | omega)) (va_cwS 2 hts gX4_has_X4_isBelow rfl rfl rfl (by decide +kernel) ⟨Nat.le_of_ble_eq_true rfl, Nat.le_of_ble_eq_true rfl⟩) (o_pR hK hN (hP.sub (ws' := []) [] rfl)) rfl rfl hl.1 rfl (lv_room (Nat.le_of_ble_eq_true rfl)) dX4_has_10 ⟨Nat.zero_le _, Nat.zero_le _⟩) (fun r_5 e_4 => ?_)
      have e_4 : r_5 = nI (bn (f < 5)) := e_4
      subst e_4
      refine o_ifnz (tgt := 26) hx hb dX4_has_13 (by decide) (fun c_6 => ?_) (fun c_6 => ?_)
      · skip
        refine lv_aload_n hx hb dX4_has_26 rfl (lv_at hl 0 rfl) ?_
        refine va_get (D := D) (ci := 4) (v := .ref (o 5)) (C := RX4) (T := TX4) (N := 6) hx hb hts inX4_has_X4 hown hK hP 0 rfl rfl 0 (by decide) (hts (.fieldLink RX4 10 "OddNotice" "now" "LOddNotice$State;") (List.mem_of_getElem? (i := 3) (by decide +kernel))) (fun _ h9 => h9) rfl dX4_has_27 ?_
        refine va_get (D := D) (ci := 2) (v := .ref (o 11)) (C := RX2) (T := TX2) (N := 4) hx hb hts inX4_has_X2 hown hK hP 5 rfl rfl 1 (by decide) (hts (.fieldLink RX4 91 "OddNotice$State" "readers" "[LOddNotice$Reader;") (List.mem_of_getElem? (i := 4) (by decide +kernel))) (fun _ h9 => h9) rfl dX4_has_30 ?_
        refine lv_iload_n hx hb dX4_has_33 rfl (lv_at hl 1 rfl) ?_
        refine o_aldq (v := (o 12)) (C := "OddNotice$Reader") hx hb hK hP 6 1 rfl rfl (Nat.le_of_ble_eq_true rfl) (Nat.le_of_ble_eq_true rfl) rfl dX4_has_34 ?_
        refine lv_astore_n (lv' := [(3, .ref (o 12)), (0, .ref (o 0)), (1, .int (nI 0)), (2, .int (nI f))]) hx hb dX4_has_35 rfl hl (by decide) rfl (fun ls hl => ?_)
        refine lv_aload_n hx hb dX4_has_36 rfl (lv_at hl 0 rfl) ?_
        refine va_get (D := D) (ci := 1) (v := .int (nI (v 5 2))) (C := RX1) (T := TX1) (N := 10) hx hb hts inX4_has_X1 hown hK hP 12 rfl rfl 2 (by decide) (hts (.fieldLink RX4 199 "OddNotice$Reader" "holds" "Z") (List.mem_of_getElem? (i := 5) (by decide +kernel))) (fun _ h9 => h9) rfl dX4_has_37 ?_
        refine o_if_eq (tgt := 52) hx hb dX4_has_40 (by decide) (by omega) (fun c_7 => ?_) (fun c_7 => ?_)
        · skip
          refine o_const (k := 4294967295) hx hb dX4_has_52 (by decide) ?_
          exact W.iret (v := nI 4294967295) hx hb hrt (fun t ht hW => ⟨_, rfl, (congrArg nI (Eq.symm (show c_has v 0 f = _ from if_pos c_7))), ht⟩) (fun _ h => nomatch h) dX4_has_53
        · skip
          refine lv_aload_n hx hb dX4_has_43 rfl (lv_at hl 0 rfl) ?_
          refine va_get (D := D) (ci := 1) (v := .ref (o 13)) (C := RX1) (T := TX1) (N := 10) hx hb hts inX4_has_X1 hown hK hP 12 rfl rfl 8 (by decide) (hts (.fieldLink RX4 202 "OddNotice$Reader" "held" "[I") (List.mem_of_getElem? (i := 6) (by decide +kernel))) (fun _ h9 => h9) rfl dX4_has_44 ?_
          refine lv_iload_n hx hb dX4_has_47 rfl (lv_at hl 3 rfl) ?_
          refine o_iald (v := nI (v 6 f)) hx hb hK hP 13 0 rfl rfl (by omega) (Nat.le_of_ble_eq_true rfl) rfl dX4_has_48 ?_
          refine lv_goto (tgt := 53) hx hb dX4_has_49 (by decide) ?_
          exact W.iret (v := nI (v 6 f)) hx hb hrt (fun t ht hW => ⟨_, rfl, (congrArg nI (Eq.symm (show c_has v 0 f = _ from if_neg c_7))), ht⟩) (fun _ h => nomatch h) dX4_has_53
      · skip
        exfalso
        omega
  · skip
    have hSc := hSI
    obtain ⟨⟨i1, i2, i3, hpl⟩, i5⟩ := hSI
    have i12 := i5 1 (by omega)
    unfold s_IR at i12
    simp only [Nat.reduceMul, Nat.reduceAdd] at i12
    refine lv_iload_n hx hb dX4_has_0 rfl (lv_at hl 1 rfl) ?_
    refine o_const (k := 4) hx hb dX4_has_1 (by decide) ?_
    refine o_ri (va_runS (As := [.int (nI 1), .int (nI 4)]) (rest := []) ⟨hx, hb, hml, hown, hts⟩ (k_X4_isBelow l D cI cR cS cL 1 4 (by show 1 < 2 ^ 32; first | assumption | omega) (by show 4 < 2 ^ 31; first | assumption | omega)) (va_cwS 2 hts gX4_has_X4_isBelow rfl rfl rfl (by decide +kernel) ⟨Nat.le_of_ble_eq_true rfl, Nat.le_of_ble_eq_true rfl⟩) (o_pR hK hN (hP.sub (ws' := []) [] rfl)) rfl rfl hl.1 rfl (lv_room (Nat.le_of_ble_eq_true rfl)) dX4_has_2 ⟨Nat.zero_le _, Nat.zero_le _⟩) (fun r_9 e_8 => ?_)
    have e_8 : r_9 = nI (bn (1 < 4)) := e_8
    subst e_8
    refine o_ifz (tgt := 16) hx hb dX4_has_5 (by decide) (fun c_10 => ?_) (fun c_10 => ?_)
    · skip
      exfalso
      omega
    · skip
      refine lv_iload_n hx hb dX4_has_8 rfl (lv_at hl 2 rfl) ?_
      refine o_const (k := 5) hx hb dX4_has_9 (by decide) ?_
      refine o_ri (va_runS (As := [.int (nI f), .int (nI 5)]) (rest := []) ⟨hx, hb, hml, hown, hts⟩ (k_X4_isBelow l D cI cR cS cL f 5 (by show f < 2 ^ 32; first | assumption | omega) (by show 5 < 2 ^ 31; first | assumption | omega)) (va_cwS 2 hts gX4_has_X4_isBelow rfl rfl rfl (by decide +kernel) ⟨Nat.le_of_ble_eq_true rfl, Nat.le_of_ble_eq_true rfl⟩) (o_pR hK hN (hP.sub (ws' := []) [] rfl)) rfl rfl hl.1 rfl (lv_room (Nat.le_of_ble_eq_true rfl)) dX4_has_10 ⟨Nat.zero_le _, Nat.zero_le _⟩) (fun r_12 e_11 => ?_)
      have e_11 : r_12 = nI (bn (f < 5)) := e_11
      subst e_11
      refine o_ifnz (tgt := 26) hx hb dX4_has_13 (by decide) (fun c_13 => ?_) (fun c_13 => ?_)
      · skip
        refine lv_aload_n hx hb dX4_has_26 rfl (lv_at hl 0 rfl) ?_
        refine va_get (D := D) (ci := 4) (v := .ref (o 5)) (C := RX4) (T := TX4) (N := 6) hx hb hts inX4_has_X4 hown hK hP 0 rfl rfl 0 (by decide) (hts (.fieldLink RX4 10 "OddNotice" "now" "LOddNotice$State;") (List.mem_of_getElem? (i := 3) (by decide +kernel))) (fun _ h9 => h9) rfl dX4_has_27 ?_
        refine va_get (D := D) (ci := 2) (v := .ref (o 11)) (C := RX2) (T := TX2) (N := 4) hx hb hts inX4_has_X2 hown hK hP 5 rfl rfl 1 (by decide) (hts (.fieldLink RX4 91 "OddNotice$State" "readers" "[LOddNotice$Reader;") (List.mem_of_getElem? (i := 4) (by decide +kernel))) (fun _ h9 => h9) rfl dX4_has_30 ?_
        refine lv_iload_n hx hb dX4_has_33 rfl (lv_at hl 1 rfl) ?_
        refine o_aldq (v := (o 15)) (C := "OddNotice$Reader") hx hb hK hP 6 1 rfl rfl (Nat.le_of_ble_eq_true rfl) (Nat.le_of_ble_eq_true rfl) rfl dX4_has_34 ?_
        refine lv_astore_n (lv' := [(3, .ref (o 15)), (0, .ref (o 0)), (1, .int (nI 1)), (2, .int (nI f))]) hx hb dX4_has_35 rfl hl (by decide) rfl (fun ls hl => ?_)
        refine lv_aload_n hx hb dX4_has_36 rfl (lv_at hl 0 rfl) ?_
        refine va_get (D := D) (ci := 1) (v := .int (nI (v 8 2))) (C := RX1) (T := TX1) (N := 10) hx hb hts inX4_has_X1 hown hK hP 15 rfl rfl 2 (by decide) (hts (.fieldLink RX4 199 "OddNotice$Reader" "holds" "Z") (List.mem_of_getElem? (i := 5) (by decide +kernel))) (fun _ h9 => h9) rfl dX4_has_37 ?_
        refine o_if_eq (tgt := 52) hx hb dX4_has_40 (by decide) (by omega) (fun c_14 => ?_) (fun c_14 => ?_)
        · skip
          refine o_const (k := 4294967295) hx hb dX4_has_52 (by decide) ?_
          exact W.iret (v := nI 4294967295) hx hb hrt (fun t ht hW => ⟨_, rfl, (congrArg nI (Eq.symm (show c_has v 1 f = _ from if_pos c_14))), ht⟩) (fun _ h => nomatch h) dX4_has_53
        · skip
          refine lv_aload_n hx hb dX4_has_43 rfl (lv_at hl 0 rfl) ?_
          refine va_get (D := D) (ci := 1) (v := .ref (o 16)) (C := RX1) (T := TX1) (N := 10) hx hb hts inX4_has_X1 hown hK hP 15 rfl rfl 8 (by decide) (hts (.fieldLink RX4 202 "OddNotice$Reader" "held" "[I") (List.mem_of_getElem? (i := 6) (by decide +kernel))) (fun _ h9 => h9) rfl dX4_has_44 ?_
          refine lv_iload_n hx hb dX4_has_47 rfl (lv_at hl 3 rfl) ?_
          refine o_iald (v := nI (v 9 f)) hx hb hK hP 16 0 rfl rfl (by omega) (Nat.le_of_ble_eq_true rfl) rfl dX4_has_48 ?_
          refine lv_goto (tgt := 53) hx hb dX4_has_49 (by decide) ?_
          exact W.iret (v := nI (v 9 f)) hx hb hrt (fun t ht hW => ⟨_, rfl, (congrArg nI (Eq.symm (show c_has v 1 f = _ from if_neg c_14))), ht⟩) (fun _ h => nomatch h) dX4_has_53
      · skip
        exfalso
        omega
  · skip
    have hSc := hSI
    obtain ⟨⟨i1, i2, i3, hpl⟩, i5⟩ := hSI
    have i12 := i5 2 (by omega)
    unfold s_IR at i12
    simp only [Nat.reduceMul, Nat.reduceAdd] at i12
    refine lv_iload_n hx hb dX4_has_0 rfl (lv_at hl 1 rfl) ?_
    refine o_const (k := 4) hx hb dX4_has_1 (by decide) ?_
    refine o_ri (va_runS (As := [.int (nI 2), .int (nI 4)]) (rest := []) ⟨hx, hb, hml, hown, hts⟩ (k_X4_isBelow l D cI cR cS cL 2 4 (by show 2 < 2 ^ 32; first | assumption | omega) (by show 4 < 2 ^ 31; first | assumption | omega)) (va_cwS 2 hts gX4_has_X4_isBelow rfl rfl rfl (by decide +kernel) ⟨Nat.le_of_ble_eq_true rfl, Nat.le_of_ble_eq_true rfl⟩) (o_pR hK hN (hP.sub (ws' := []) [] rfl)) rfl rfl hl.1 rfl (lv_room (Nat.le_of_ble_eq_true rfl)) dX4_has_2 ⟨Nat.zero_le _, Nat.zero_le _⟩) (fun r_16 e_15 => ?_)
    have e_15 : r_16 = nI (bn (2 < 4)) := e_15
    subst e_15
    refine o_ifz (tgt := 16) hx hb dX4_has_5 (by decide) (fun c_17 => ?_) (fun c_17 => ?_)
    · skip
      exfalso
      omega
    · skip
      refine lv_iload_n hx hb dX4_has_8 rfl (lv_at hl 2 rfl) ?_
      refine o_const (k := 5) hx hb dX4_has_9 (by decide) ?_
      refine o_ri (va_runS (As := [.int (nI f), .int (nI 5)]) (rest := []) ⟨hx, hb, hml, hown, hts⟩ (k_X4_isBelow l D cI cR cS cL f 5 (by show f < 2 ^ 32; first | assumption | omega) (by show 5 < 2 ^ 31; first | assumption | omega)) (va_cwS 2 hts gX4_has_X4_isBelow rfl rfl rfl (by decide +kernel) ⟨Nat.le_of_ble_eq_true rfl, Nat.le_of_ble_eq_true rfl⟩) (o_pR hK hN (hP.sub (ws' := []) [] rfl)) rfl rfl hl.1 rfl (lv_room (Nat.le_of_ble_eq_true rfl)) dX4_has_10 ⟨Nat.zero_le _, Nat.zero_le _⟩) (fun r_19 e_18 => ?_)
      have e_18 : r_19 = nI (bn (f < 5)) := e_18
      subst e_18
      refine o_ifnz (tgt := 26) hx hb dX4_has_13 (by decide) (fun c_20 => ?_) (fun c_20 => ?_)
      · skip
        refine lv_aload_n hx hb dX4_has_26 rfl (lv_at hl 0 rfl) ?_
        refine va_get (D := D) (ci := 4) (v := .ref (o 5)) (C := RX4) (T := TX4) (N := 6) hx hb hts inX4_has_X4 hown hK hP 0 rfl rfl 0 (by decide) (hts (.fieldLink RX4 10 "OddNotice" "now" "LOddNotice$State;") (List.mem_of_getElem? (i := 3) (by decide +kernel))) (fun _ h9 => h9) rfl dX4_has_27 ?_
        refine va_get (D := D) (ci := 2) (v := .ref (o 11)) (C := RX2) (T := TX2) (N := 4) hx hb hts inX4_has_X2 hown hK hP 5 rfl rfl 1 (by decide) (hts (.fieldLink RX4 91 "OddNotice$State" "readers" "[LOddNotice$Reader;") (List.mem_of_getElem? (i := 4) (by decide +kernel))) (fun _ h9 => h9) rfl dX4_has_30 ?_
        refine lv_iload_n hx hb dX4_has_33 rfl (lv_at hl 1 rfl) ?_
        refine o_aldq (v := (o 18)) (C := "OddNotice$Reader") hx hb hK hP 6 1 rfl rfl (Nat.le_of_ble_eq_true rfl) (Nat.le_of_ble_eq_true rfl) rfl dX4_has_34 ?_
        refine lv_astore_n (lv' := [(3, .ref (o 18)), (0, .ref (o 0)), (1, .int (nI 2)), (2, .int (nI f))]) hx hb dX4_has_35 rfl hl (by decide) rfl (fun ls hl => ?_)
        refine lv_aload_n hx hb dX4_has_36 rfl (lv_at hl 0 rfl) ?_
        refine va_get (D := D) (ci := 1) (v := .int (nI (v 11 2))) (C := RX1) (T := TX1) (N := 10) hx hb hts inX4_has_X1 hown hK hP 18 rfl rfl 2 (by decide) (hts (.fieldLink RX4 199 "OddNotice$Reader" "holds" "Z") (List.mem_of_getElem? (i := 5) (by decide +kernel))) (fun _ h9 => h9) rfl dX4_has_37 ?_
        refine o_if_eq (tgt := 52) hx hb dX4_has_40 (by decide) (by omega) (fun c_21 => ?_) (fun c_21 => ?_)
        · skip
          refine o_const (k := 4294967295) hx hb dX4_has_52 (by decide) ?_
          exact W.iret (v := nI 4294967295) hx hb hrt (fun t ht hW => ⟨_, rfl, (congrArg nI (Eq.symm (show c_has v 2 f = _ from if_pos c_21))), ht⟩) (fun _ h => nomatch h) dX4_has_53
        · skip
          refine lv_aload_n hx hb dX4_has_43 rfl (lv_at hl 0 rfl) ?_
          refine va_get (D := D) (ci := 1) (v := .ref (o 19)) (C := RX1) (T := TX1) (N := 10) hx hb hts inX4_has_X1 hown hK hP 18 rfl rfl 8 (by decide) (hts (.fieldLink RX4 202 "OddNotice$Reader" "held" "[I") (List.mem_of_getElem? (i := 6) (by decide +kernel))) (fun _ h9 => h9) rfl dX4_has_44 ?_
          refine lv_iload_n hx hb dX4_has_47 rfl (lv_at hl 3 rfl) ?_
          refine o_iald (v := nI (v 12 f)) hx hb hK hP 19 0 rfl rfl (by omega) (Nat.le_of_ble_eq_true rfl) rfl dX4_has_48 ?_
          refine lv_goto (tgt := 53) hx hb dX4_has_49 (by decide) ?_
          exact W.iret (v := nI (v 12 f)) hx hb hrt (fun t ht hW => ⟨_, rfl, (congrArg nI (Eq.symm (show c_has v 2 f = _ from if_neg c_21))), ht⟩) (fun _ h => nomatch h) dX4_has_53
      · skip
        exfalso
        omega
  · skip
    have hSc := hSI
    obtain ⟨⟨i1, i2, i3, hpl⟩, i5⟩ := hSI
    have i12 := i5 3 (by omega)
    unfold s_IR at i12
    simp only [Nat.reduceMul, Nat.reduceAdd] at i12
    refine lv_iload_n hx hb dX4_has_0 rfl (lv_at hl 1 rfl) ?_
    refine o_const (k := 4) hx hb dX4_has_1 (by decide) ?_
    refine o_ri (va_runS (As := [.int (nI 3), .int (nI 4)]) (rest := []) ⟨hx, hb, hml, hown, hts⟩ (k_X4_isBelow l D cI cR cS cL 3 4 (by show 3 < 2 ^ 32; first | assumption | omega) (by show 4 < 2 ^ 31; first | assumption | omega)) (va_cwS 2 hts gX4_has_X4_isBelow rfl rfl rfl (by decide +kernel) ⟨Nat.le_of_ble_eq_true rfl, Nat.le_of_ble_eq_true rfl⟩) (o_pR hK hN (hP.sub (ws' := []) [] rfl)) rfl rfl hl.1 rfl (lv_room (Nat.le_of_ble_eq_true rfl)) dX4_has_2 ⟨Nat.zero_le _, Nat.zero_le _⟩) (fun r_23 e_22 => ?_)
    have e_22 : r_23 = nI (bn (3 < 4)) := e_22
    subst e_22
    refine o_ifz (tgt := 16) hx hb dX4_has_5 (by decide) (fun c_24 => ?_) (fun c_24 => ?_)
    · skip
      exfalso
      omega
    · skip
      refine lv_iload_n hx hb dX4_has_8 rfl (lv_at hl 2 rfl) ?_
      refine o_const (k := 5) hx hb dX4_has_9 (by decide) ?_
      refine o_ri (va_runS (As := [.int (nI f), .int (nI 5)]) (rest := []) ⟨hx, hb, hml, hown, hts⟩ (k_X4_isBelow l D cI cR cS cL f 5 (by show f < 2 ^ 32; first | assumption | omega) (by show 5 < 2 ^ 31; first | assumption | omega)) (va_cwS 2 hts gX4_has_X4_isBelow rfl rfl rfl (by decide +kernel) ⟨Nat.le_of_ble_eq_true rfl, Nat.le_of_ble_eq_true rfl⟩) (o_pR hK hN (hP.sub (ws' := []) [] rfl)) rfl rfl hl.1 rfl (lv_room (Nat.le_of_ble_eq_true rfl)) dX4_has_10 ⟨Nat.zero_le _, Nat.zero_le _⟩) (fun r_26 e_25 => ?_)
      have e_25 : r_26 = nI (bn (f < 5)) := e_25
      subst e_25
      refine o_ifnz (tgt := 26) hx hb dX4_has_13 (by decide) (fun c_27 => ?_) (fun c_27 => ?_)
      · skip
        refine lv_aload_n hx hb dX4_has_26 rfl (lv_at hl 0 rfl) ?_
        refine va_get (D := D) (ci := 4) (v := .ref (o 5)) (C := RX4) (T := TX4) (N := 6) hx hb hts inX4_has_X4 hown hK hP 0 rfl rfl 0 (by decide) (hts (.fieldLink RX4 10 "OddNotice" "now" "LOddNotice$State;") (List.mem_of_getElem? (i := 3) (by decide +kernel))) (fun _ h9 => h9) rfl dX4_has_27 ?_
        refine va_get (D := D) (ci := 2) (v := .ref (o 11)) (C := RX2) (T := TX2) (N := 4) hx hb hts inX4_has_X2 hown hK hP 5 rfl rfl 1 (by decide) (hts (.fieldLink RX4 91 "OddNotice$State" "readers" "[LOddNotice$Reader;") (List.mem_of_getElem? (i := 4) (by decide +kernel))) (fun _ h9 => h9) rfl dX4_has_30 ?_
        refine lv_iload_n hx hb dX4_has_33 rfl (lv_at hl 1 rfl) ?_
        refine o_aldq (v := (o 21)) (C := "OddNotice$Reader") hx hb hK hP 6 1 rfl rfl (Nat.le_of_ble_eq_true rfl) (Nat.le_of_ble_eq_true rfl) rfl dX4_has_34 ?_
        refine lv_astore_n (lv' := [(3, .ref (o 21)), (0, .ref (o 0)), (1, .int (nI 3)), (2, .int (nI f))]) hx hb dX4_has_35 rfl hl (by decide) rfl (fun ls hl => ?_)
        refine lv_aload_n hx hb dX4_has_36 rfl (lv_at hl 0 rfl) ?_
        refine va_get (D := D) (ci := 1) (v := .int (nI (v 14 2))) (C := RX1) (T := TX1) (N := 10) hx hb hts inX4_has_X1 hown hK hP 21 rfl rfl 2 (by decide) (hts (.fieldLink RX4 199 "OddNotice$Reader" "holds" "Z") (List.mem_of_getElem? (i := 5) (by decide +kernel))) (fun _ h9 => h9) rfl dX4_has_37 ?_
        refine o_if_eq (tgt := 52) hx hb dX4_has_40 (by decide) (by omega) (fun c_28 => ?_) (fun c_28 => ?_)
        · skip
          refine o_const (k := 4294967295) hx hb dX4_has_52 (by decide) ?_
          exact W.iret (v := nI 4294967295) hx hb hrt (fun t ht hW => ⟨_, rfl, (congrArg nI (Eq.symm (show c_has v 3 f = _ from if_pos c_28))), ht⟩) (fun _ h => nomatch h) dX4_has_53
        · skip
          refine lv_aload_n hx hb dX4_has_43 rfl (lv_at hl 0 rfl) ?_
          refine va_get (D := D) (ci := 1) (v := .ref (o 22)) (C := RX1) (T := TX1) (N := 10) hx hb hts inX4_has_X1 hown hK hP 21 rfl rfl 8 (by decide) (hts (.fieldLink RX4 202 "OddNotice$Reader" "held" "[I") (List.mem_of_getElem? (i := 6) (by decide +kernel))) (fun _ h9 => h9) rfl dX4_has_44 ?_
          refine lv_iload_n hx hb dX4_has_47 rfl (lv_at hl 3 rfl) ?_
          refine o_iald (v := nI (v 15 f)) hx hb hK hP 22 0 rfl rfl (by omega) (Nat.le_of_ble_eq_true rfl) rfl dX4_has_48 ?_
          refine lv_goto (tgt := 53) hx hb dX4_has_49 (by decide) ?_
          exact W.iret (v := nI (v 15 f)) hx hb hrt (fun t ht hW => ⟨_, rfl, (congrArg nI (Eq.symm (show c_has v 3 f = _ from if_neg c_28))), ht⟩) (fun _ h => nomatch h) dX4_has_53
      · skip
        exfalso
        omega
theorem inX4_readerOf_X4 : ∀ w ∈ wsX40, w ∈ wsX4_readerOf := by decide +kernel
theorem inX4_readerOf_X2 : ∀ w ∈ wsX20, w ∈ wsX4_readerOf := by decide +kernel
theorem inX4_readerOf_X1 : ∀ w ∈ wsX10, w ∈ wsX4_readerOf := by decide +kernel
set_option maxHeartbeats 4000000 in
set_option maxRecDepth 100000 in
theorem k_X4_readerOf (l : Launch) (D : va_G) (cI cR cS cL : ClassId) (o : Nat → Nat) (x : Nat → Nat → Nat) (v : Nat → Nat → Nat) (tl : va_W) (b : Nat) (r : Nat) (k : Nat) (hSI : s_I b v) (hb : b < 2 ^ 28) (hr : r < 4) (hk : k < 8) : Met l yX4_readerOf wsX4_readerOf ({ frames := 3, cells := 0, slots := 0, locals := 65 }) (va_Pc [.ref (o 0), .int (nI r), .int (nI k)] (o_R D (o_T cI cR cS cL) (wO o cI cR cS x v tl))) (vp_Si (fun rz => rz = nI (c_rdr v r k))) 0 0 (fun _ => False) := by
  refine Met.ofW (cc := cX4_readerOf) (maxL := 4) (ret := (some .int)) (by decide) rfl ?_
  intro p e s m args below meth cd s₁ B hml hv
  obtain ⟨rfl, hP, hK, hN⟩ := hv
  have hx := B.exec
  have hb := B.bytes
  have hrt := B.returns
  have hts := atoms_spec (ws := wsX4_readerOf) B.pre
  have hown : s.vm.findClass RX4 = some m.cls := findClass_of_methodNamed B.named
  have hlocks := B.notSynchronized
  have hl := lv_entry ([.ref (o 0), .int (nI r), .int (nI k)]) (n := 4) (Nat.le_of_ble_eq_true rfl)
  rw [lg_entry_eq]
  generalize (lg_sl ([.ref (o 0), .int (nI r), .int (nI k)]) ++ List.replicate (4 - (lg_sl ([.ref (o 0), .int (nI r), .int (nI k)])).length) Slot.unset).toArray = ls at hl ⊢
  have hl : lv_has ls 4 [(0, .ref (o 0)), (1, .int (nI r)), (2, .int (nI k))] := hl
  rcases o_lt4 hr with rfl | rfl | rfl | rfl <;> rcases (show k = 0 ∨ k = 1 ∨ k = 2 ∨ k = 3 ∨ k = 4 ∨ k = 5 ∨ k = 6 ∨ k = 7 by omega) with rfl | rfl | rfl | rfl | rfl | rfl | rfl | rfl
  · skip
    have hSc := hSI
    obtain ⟨⟨i1, i2, i3, hpl⟩, i5⟩ := hSI
    have i12 := i5 0 (by omega)
    unfold s_IR at i12
    simp only [Nat.reduceMul, Nat.reduceAdd] at i12
    refine lv_iload_n hx hb dX4_readerOf_0 rfl (lv_at hl 1 rfl) ?_
    refine o_const (k := 4) hx hb dX4_readerOf_1 (by decide) ?_
    refine o_ri (va_runS (As := [.int (nI 0), .int (nI 4)]) (rest := []) ⟨hx, hb, hml, hown, hts⟩ (k_X4_isBelow l D cI cR cS cL 0 4 (by show 0 < 2 ^ 32; first | assumption | omega) (by show 4 < 2 ^ 31; first | assumption | omega)) (va_cwS 2 hts gX4_readerOf_X4_isBelow rfl rfl rfl (by decide +kernel) ⟨Nat.le_of_ble_eq_true rfl, Nat.le_of_ble_eq_true rfl⟩) (o_pR hK hN (hP.sub (ws' := []) [] rfl)) rfl rfl hl.1 rfl (lv_room (Nat.le_of_ble_eq_true rfl)) dX4_readerOf_2 ⟨Nat.zero_le _, Nat.zero_le _⟩) (fun r_2 e_1 => ?_)
    have e_1 : r_2 = nI (bn (0 < 4)) := e_1
    subst e_1
    refine o_ifnz (tgt := 18) hx hb dX4_readerOf_5 (by decide) (fun c_3 => ?_) (fun c_3 => ?_)
    · skip
      refine lv_aload_n hx hb dX4_readerOf_18 rfl (lv_at hl 0 rfl) ?_
      refine va_get (D := D) (ci := 4) (v := .ref (o 5)) (C := RX4) (T := TX4) (N := 6) hx hb hts inX4_readerOf_X4 hown hK hP 0 rfl rfl 0 (by decide) (hts (.fieldLink RX4 10 "OddNotice" "now" "LOddNotice$State;") (List.mem_of_getElem? (i := 5) (by decide +kernel))) (fun _ h9 => h9) rfl dX4_readerOf_19 ?_
      refine va_get (D := D) (ci := 2) (v := .ref (o 11)) (C := RX2) (T := TX2) (N := 4) hx hb hts inX4_readerOf_X2 hown hK hP 5 rfl rfl 1 (by decide) (hts (.fieldLink RX4 91 "OddNotice$State" "readers" "[LOddNotice$Reader;") (List.mem_of_getElem? (i := 6) (by decide +kernel))) (fun _ h9 => h9) rfl dX4_readerOf_22 ?_
      refine lv_iload_n hx hb dX4_readerOf_25 rfl (lv_at hl 1 rfl) ?_
      refine o_aldq (v := (o 12)) (C := "OddNotice$Reader") hx hb hK hP 6 1 rfl rfl (Nat.le_of_ble_eq_true rfl) (Nat.le_of_ble_eq_true rfl) rfl dX4_readerOf_26 ?_
      refine lv_astore_n (lv' := [(3, .ref (o 12)), (0, .ref (o 0)), (1, .int (nI 0)), (2, .int (nI 0))]) hx hb dX4_readerOf_27 rfl hl (by decide) rfl (fun ls hl => ?_)
      refine lv_iload_n hx hb dX4_readerOf_28 rfl (lv_at hl 3 rfl) ?_
      refine lv_tableIn (tgt := 76) (off := 47) hx hb dX4_readerOf_29 (by decide) (by decide) (by decide) (by decide) ?_
      refine lv_aload_n hx hb dX4_readerOf_76 rfl (lv_at hl 0 rfl) ?_
      refine lv_aload_n hx hb dX4_readerOf_77 rfl (lv_at hl 1 rfl) ?_
      refine va_get (D := D) (ci := 4) (v := .ref (o 5)) (C := RX4) (T := TX4) (N := 6) hx hb hts inX4_readerOf_X4 hown hK hP 0 rfl rfl 0 (by decide) (hts (.fieldLink RX4 10 "OddNotice" "now" "LOddNotice$State;") (List.mem_of_getElem? (i := 5) (by decide +kernel))) (fun _ h9 => h9) rfl dX4_readerOf_78 ?_
      refine va_get (D := D) (ci := 2) (v := .int (nI (v 0 2))) (C := RX2) (T := TX2) (N := 4) hx hb hts inX4_readerOf_X2 hown hK hP 5 rfl rfl 3 (by decide) (hts (.fieldLink RX4 122 "OddNotice$State" "setting" "I") (List.mem_of_getElem? (i := 7) (by decide +kernel))) (fun _ h9 => h9) rfl dX4_readerOf_81 ?_
      refine o_ri (va_runV (As := [.int (nI (v 0 2))]) (rest := []) ⟨hx, hb, hml, hown, hts⟩ (k_X1_doing l D cI cR cS cL (fun k => o (k + 12)) (fun k => v (k + 5)) (v 0 2) (by show (v 5 0) < 2 ^ 31; first | assumption | omega) (by show (v 5 1) < 2 ^ 31; first | assumption | omega) (by show (v 5 5) < 2 ^ 31; first | assumption | omega) (by show (v 0 2) < 2 ^ 31; first | assumption | omega)) (cwV 1 hts gX4_readerOf_X1_doing rfl rfl rfl (by decide +kernel) ⟨Nat.le_of_ble_eq_true rfl, Nat.le_of_ble_eq_true rfl⟩) (o_v (o_pR hK hN (hP.sub (ws' := (wR (fun k => o (k + 12)) cI (fun k => v (k + 5)))) [12, 13, 14] rfl)) (va_recv hK hP (ci := 1) (q0 := 12) rfl rfl)) rfl rfl hl.1 rfl (lv_room (Nat.le_of_ble_eq_true rfl)) dX4_readerOf_84 ⟨Nat.zero_le _, Nat.zero_le _⟩) (fun r_5 e_4 => ?_)
      have e_4 : r_5 = nI (r_doing (fun k => v (k + 5)) (v 0 2)) := e_4
      subst e_4
      exact W.iret (v := nI (r_doing (fun k => v (k + 5)) (v 0 2))) hx hb hrt (fun t ht hW => ⟨_, rfl, rfl, ht⟩) (fun _ h => nomatch h) dX4_readerOf_87
    · skip
      exfalso
      omega
  · skip
    have hSc := hSI
    obtain ⟨⟨i1, i2, i3, hpl⟩, i5⟩ := hSI
    have i12 := i5 0 (by omega)
    unfold s_IR at i12
    simp only [Nat.reduceMul, Nat.reduceAdd] at i12
    refine lv_iload_n hx hb dX4_readerOf_0 rfl (lv_at hl 1 rfl) ?_
    refine o_const (k := 4) hx hb dX4_readerOf_1 (by decide) ?_
    refine o_ri (va_runS (As := [.int (nI 0), .int (nI 4)]) (rest := []) ⟨hx, hb, hml, hown, hts⟩ (k_X4_isBelow l D cI cR cS cL 0 4 (by show 0 < 2 ^ 32; first | assumption | omega) (by show 4 < 2 ^ 31; first | assumption | omega)) (va_cwS 2 hts gX4_readerOf_X4_isBelow rfl rfl rfl (by decide +kernel) ⟨Nat.le_of_ble_eq_true rfl, Nat.le_of_ble_eq_true rfl⟩) (o_pR hK hN (hP.sub (ws' := []) [] rfl)) rfl rfl hl.1 rfl (lv_room (Nat.le_of_ble_eq_true rfl)) dX4_readerOf_2 ⟨Nat.zero_le _, Nat.zero_le _⟩) (fun r_7 e_6 => ?_)
    have e_6 : r_7 = nI (bn (0 < 4)) := e_6
    subst e_6
    refine o_ifnz (tgt := 18) hx hb dX4_readerOf_5 (by decide) (fun c_8 => ?_) (fun c_8 => ?_)
    · skip
      refine lv_aload_n hx hb dX4_readerOf_18 rfl (lv_at hl 0 rfl) ?_
      refine va_get (D := D) (ci := 4) (v := .ref (o 5)) (C := RX4) (T := TX4) (N := 6) hx hb hts inX4_readerOf_X4 hown hK hP 0 rfl rfl 0 (by decide) (hts (.fieldLink RX4 10 "OddNotice" "now" "LOddNotice$State;") (List.mem_of_getElem? (i := 5) (by decide +kernel))) (fun _ h9 => h9) rfl dX4_readerOf_19 ?_
      refine va_get (D := D) (ci := 2) (v := .ref (o 11)) (C := RX2) (T := TX2) (N := 4) hx hb hts inX4_readerOf_X2 hown hK hP 5 rfl rfl 1 (by decide) (hts (.fieldLink RX4 91 "OddNotice$State" "readers" "[LOddNotice$Reader;") (List.mem_of_getElem? (i := 6) (by decide +kernel))) (fun _ h9 => h9) rfl dX4_readerOf_22 ?_
      refine lv_iload_n hx hb dX4_readerOf_25 rfl (lv_at hl 1 rfl) ?_
      refine o_aldq (v := (o 12)) (C := "OddNotice$Reader") hx hb hK hP 6 1 rfl rfl (Nat.le_of_ble_eq_true rfl) (Nat.le_of_ble_eq_true rfl) rfl dX4_readerOf_26 ?_
      refine lv_astore_n (lv' := [(3, .ref (o 12)), (0, .ref (o 0)), (1, .int (nI 0)), (2, .int (nI 1))]) hx hb dX4_readerOf_27 rfl hl (by decide) rfl (fun ls hl => ?_)
      refine lv_iload_n hx hb dX4_readerOf_28 rfl (lv_at hl 3 rfl) ?_
      refine lv_tableIn (tgt := 88) (off := 59) hx hb dX4_readerOf_29 (by decide) (by decide) (by decide) (by decide) ?_
      refine lv_aload_n hx hb dX4_readerOf_88 rfl (lv_at hl 0 rfl) ?_
      refine va_get (D := D) (ci := 1) (v := .int (nI (v 5 1))) (C := RX1) (T := TX1) (N := 10) hx hb hts inX4_readerOf_X1 hown hK hP 12 rfl rfl 1 (by decide) (hts (.fieldLink RX4 114 "OddNotice$Reader" "reads" "Z") (List.mem_of_getElem? (i := 8) (by decide +kernel))) (fun _ h9 => h9) rfl dX4_readerOf_89 ?_
      refine o_if_eq (tgt := 102) hx hb dX4_readerOf_92 (by decide) (by omega) (fun c_9 => ?_) (fun c_9 => ?_)
      · skip
        refine o_const (k := 4294967295) hx hb dX4_readerOf_102 (by decide) ?_
        exact W.iret (v := nI 4294967295) hx hb hrt (fun t ht hW => ⟨_, rfl, (congrArg nI (Eq.symm (show c_rdr v 0 1 = _ from if_pos c_9))), ht⟩) (fun _ h => nomatch h) dX4_readerOf_103
      · skip
        refine lv_aload_n hx hb dX4_readerOf_95 rfl (lv_at hl 0 rfl) ?_
        refine va_get (D := D) (ci := 1) (v := .int (nI (v 5 3))) (C := RX1) (T := TX1) (N := 10) hx hb hts inX4_readerOf_X1 hown hK hP 12 rfl rfl 3 (by decide) (hts (.fieldLink RX4 184 "OddNotice$Reader" "noted" "I") (List.mem_of_getElem? (i := 9) (by decide +kernel))) (fun _ h9 => h9) rfl dX4_readerOf_96 ?_
        refine lv_goto (tgt := 103) hx hb dX4_readerOf_99 (by decide) ?_
        exact W.iret (v := nI (v 5 3)) hx hb hrt (fun t ht hW => ⟨_, rfl, (congrArg nI (Eq.symm (show c_rdr v 0 1 = _ from if_neg c_9))), ht⟩) (fun _ h => nomatch h) dX4_readerOf_103
    · skip
      exfalso
      omega
  · skip
    have hSc := hSI
    obtain ⟨⟨i1, i2, i3, hpl⟩, i5⟩ := hSI
    have i12 := i5 0 (by omega)
    unfold s_IR at i12
    simp only [Nat.reduceMul, Nat.reduceAdd] at i12
    refine lv_iload_n hx hb dX4_readerOf_0 rfl (lv_at hl 1 rfl) ?_
    refine o_const (k := 4) hx hb dX4_readerOf_1 (by decide) ?_
    refine o_ri (va_runS (As := [.int (nI 0), .int (nI 4)]) (rest := []) ⟨hx, hb, hml, hown, hts⟩ (k_X4_isBelow l D cI cR cS cL 0 4 (by show 0 < 2 ^ 32; first | assumption | omega) (by show 4 < 2 ^ 31; first | assumption | omega)) (va_cwS 2 hts gX4_readerOf_X4_isBelow rfl rfl rfl (by decide +kernel) ⟨Nat.le_of_ble_eq_true rfl, Nat.le_of_ble_eq_true rfl⟩) (o_pR hK hN (hP.sub (ws' := []) [] rfl)) rfl rfl hl.1 rfl (lv_room (Nat.le_of_ble_eq_true rfl)) dX4_readerOf_2 ⟨Nat.zero_le _, Nat.zero_le _⟩) (fun r_11 e_10 => ?_)
    have e_10 : r_11 = nI (bn (0 < 4)) := e_10
    subst e_10
    refine o_ifnz (tgt := 18) hx hb dX4_readerOf_5 (by decide) (fun c_12 => ?_) (fun c_12 => ?_)
    · skip
      refine lv_aload_n hx hb dX4_readerOf_18 rfl (lv_at hl 0 rfl) ?_
      refine va_get (D := D) (ci := 4) (v := .ref (o 5)) (C := RX4) (T := TX4) (N := 6) hx hb hts inX4_readerOf_X4 hown hK hP 0 rfl rfl 0 (by decide) (hts (.fieldLink RX4 10 "OddNotice" "now" "LOddNotice$State;") (List.mem_of_getElem? (i := 5) (by decide +kernel))) (fun _ h9 => h9) rfl dX4_readerOf_19 ?_
      refine va_get (D := D) (ci := 2) (v := .ref (o 11)) (C := RX2) (T := TX2) (N := 4) hx hb hts inX4_readerOf_X2 hown hK hP 5 rfl rfl 1 (by decide) (hts (.fieldLink RX4 91 "OddNotice$State" "readers" "[LOddNotice$Reader;") (List.mem_of_getElem? (i := 6) (by decide +kernel))) (fun _ h9 => h9) rfl dX4_readerOf_22 ?_
      refine lv_iload_n hx hb dX4_readerOf_25 rfl (lv_at hl 1 rfl) ?_
      refine o_aldq (v := (o 12)) (C := "OddNotice$Reader") hx hb hK hP 6 1 rfl rfl (Nat.le_of_ble_eq_true rfl) (Nat.le_of_ble_eq_true rfl) rfl dX4_readerOf_26 ?_
      refine lv_astore_n (lv' := [(3, .ref (o 12)), (0, .ref (o 0)), (1, .int (nI 0)), (2, .int (nI 2))]) hx hb dX4_readerOf_27 rfl hl (by decide) rfl (fun ls hl => ?_)
      refine lv_iload_n hx hb dX4_readerOf_28 rfl (lv_at hl 3 rfl) ?_
      refine lv_tableIn (tgt := 104) (off := 75) hx hb dX4_readerOf_29 (by decide) (by decide) (by decide) (by decide) ?_
      refine lv_aload_n hx hb dX4_readerOf_104 rfl (lv_at hl 0 rfl) ?_
      refine va_get (D := D) (ci := 1) (v := .int (nI (v 5 1))) (C := RX1) (T := TX1) (N := 10) hx hb hts inX4_readerOf_X1 hown hK hP 12 rfl rfl 1 (by decide) (hts (.fieldLink RX4 114 "OddNotice$Reader" "reads" "Z") (List.mem_of_getElem? (i := 8) (by decide +kernel))) (fun _ h9 => h9) rfl dX4_readerOf_105 ?_
      refine o_if_eq (tgt := 118) hx hb dX4_readerOf_108 (by decide) (by omega) (fun c_13 => ?_) (fun c_13 => ?_)
      · skip
        refine o_const (k := 4294967295) hx hb dX4_readerOf_118 (by decide) ?_
        exact W.iret (v := nI 4294967295) hx hb hrt (fun t ht hW => ⟨_, rfl, (congrArg nI (Eq.symm (show c_rdr v 0 2 = _ from if_pos c_13))), ht⟩) (fun _ h => nomatch h) dX4_readerOf_119
      · skip
        refine lv_aload_n hx hb dX4_readerOf_111 rfl (lv_at hl 0 rfl) ?_
        refine va_get (D := D) (ci := 1) (v := .int (nI (v 5 4))) (C := RX1) (T := TX1) (N := 10) hx hb hts inX4_readerOf_X1 hown hK hP 12 rfl rfl 4 (by decide) (hts (.fieldLink RX4 187 "OddNotice$Reader" "taken" "I") (List.mem_of_getElem? (i := 10) (by decide +kernel))) (fun _ h9 => h9) rfl dX4_readerOf_112 ?_
        refine lv_goto (tgt := 119) hx hb dX4_readerOf_115 (by decide) ?_
        exact W.iret (v := nI (v 5 4)) hx hb hrt (fun t ht hW => ⟨_, rfl, (congrArg nI (Eq.symm (show c_rdr v 0 2 = _ from if_neg c_13))), ht⟩) (fun _ h => nomatch h) dX4_readerOf_119
    · skip
      exfalso
      omega
  · skip
    have hSc := hSI
    obtain ⟨⟨i1, i2, i3, hpl⟩, i5⟩ := hSI
    have i12 := i5 0 (by omega)
    unfold s_IR at i12
    simp only [Nat.reduceMul, Nat.reduceAdd] at i12
    refine lv_iload_n hx hb dX4_readerOf_0 rfl (lv_at hl 1 rfl) ?_
    refine o_const (k := 4) hx hb dX4_readerOf_1 (by decide) ?_
    refine o_ri (va_runS (As := [.int (nI 0), .int (nI 4)]) (rest := []) ⟨hx, hb, hml, hown, hts⟩ (k_X4_isBelow l D cI cR cS cL 0 4 (by show 0 < 2 ^ 32; first | assumption | omega) (by show 4 < 2 ^ 31; first | assumption | omega)) (va_cwS 2 hts gX4_readerOf_X4_isBelow rfl rfl rfl (by decide +kernel) ⟨Nat.le_of_ble_eq_true rfl, Nat.le_of_ble_eq_true rfl⟩) (o_pR hK hN (hP.sub (ws' := []) [] rfl)) rfl rfl hl.1 rfl (lv_room (Nat.le_of_ble_eq_true rfl)) dX4_readerOf_2 ⟨Nat.zero_le _, Nat.zero_le _⟩) (fun r_15 e_14 => ?_)
    have e_14 : r_15 = nI (bn (0 < 4)) := e_14
    subst e_14
    refine o_ifnz (tgt := 18) hx hb dX4_readerOf_5 (by decide) (fun c_16 => ?_) (fun c_16 => ?_)
    · skip
      refine lv_aload_n hx hb dX4_readerOf_18 rfl (lv_at hl 0 rfl) ?_
      refine va_get (D := D) (ci := 4) (v := .ref (o 5)) (C := RX4) (T := TX4) (N := 6) hx hb hts inX4_readerOf_X4 hown hK hP 0 rfl rfl 0 (by decide) (hts (.fieldLink RX4 10 "OddNotice" "now" "LOddNotice$State;") (List.mem_of_getElem? (i := 5) (by decide +kernel))) (fun _ h9 => h9) rfl dX4_readerOf_19 ?_
      refine va_get (D := D) (ci := 2) (v := .ref (o 11)) (C := RX2) (T := TX2) (N := 4) hx hb hts inX4_readerOf_X2 hown hK hP 5 rfl rfl 1 (by decide) (hts (.fieldLink RX4 91 "OddNotice$State" "readers" "[LOddNotice$Reader;") (List.mem_of_getElem? (i := 6) (by decide +kernel))) (fun _ h9 => h9) rfl dX4_readerOf_22 ?_
      refine lv_iload_n hx hb dX4_readerOf_25 rfl (lv_at hl 1 rfl) ?_
      refine o_aldq (v := (o 12)) (C := "OddNotice$Reader") hx hb hK hP 6 1 rfl rfl (Nat.le_of_ble_eq_true rfl) (Nat.le_of_ble_eq_true rfl) rfl dX4_readerOf_26 ?_
      refine lv_astore_n (lv' := [(3, .ref (o 12)), (0, .ref (o 0)), (1, .int (nI 0)), (2, .int (nI 3))]) hx hb dX4_readerOf_27 rfl hl (by decide) rfl (fun ls hl => ?_)
      refine lv_iload_n hx hb dX4_readerOf_28 rfl (lv_at hl 3 rfl) ?_
      refine lv_tableIn (tgt := 120) (off := 91) hx hb dX4_readerOf_29 (by decide) (by decide) (by decide) (by decide) ?_
      refine lv_aload_n hx hb dX4_readerOf_120 rfl (lv_at hl 0 rfl) ?_
      refine va_get (D := D) (ci := 1) (v := .int (nI (v 5 5))) (C := RX1) (T := TX1) (N := 10) hx hb hts inX4_readerOf_X1 hown hK hP 12 rfl rfl 5 (by decide) (hts (.fieldLink RX4 190 "OddNotice$Reader" "failedInRow" "I") (List.mem_of_getElem? (i := 11) (by decide +kernel))) (fun _ h9 => h9) rfl dX4_readerOf_121 ?_
      exact W.iret (v := nI (v 5 5)) hx hb hrt (fun t ht hW => ⟨_, rfl, rfl, ht⟩) (fun _ h => nomatch h) dX4_readerOf_124
    · skip
      exfalso
      omega
  · skip
    have hSc := hSI
    obtain ⟨⟨i1, i2, i3, hpl⟩, i5⟩ := hSI
    have i12 := i5 0 (by omega)
    unfold s_IR at i12
    simp only [Nat.reduceMul, Nat.reduceAdd] at i12
    refine lv_iload_n hx hb dX4_readerOf_0 rfl (lv_at hl 1 rfl) ?_
    refine o_const (k := 4) hx hb dX4_readerOf_1 (by decide) ?_
    refine o_ri (va_runS (As := [.int (nI 0), .int (nI 4)]) (rest := []) ⟨hx, hb, hml, hown, hts⟩ (k_X4_isBelow l D cI cR cS cL 0 4 (by show 0 < 2 ^ 32; first | assumption | omega) (by show 4 < 2 ^ 31; first | assumption | omega)) (va_cwS 2 hts gX4_readerOf_X4_isBelow rfl rfl rfl (by decide +kernel) ⟨Nat.le_of_ble_eq_true rfl, Nat.le_of_ble_eq_true rfl⟩) (o_pR hK hN (hP.sub (ws' := []) [] rfl)) rfl rfl hl.1 rfl (lv_room (Nat.le_of_ble_eq_true rfl)) dX4_readerOf_2 ⟨Nat.zero_le _, Nat.zero_le _⟩) (fun r_18 e_17 => ?_)
    have e_17 : r_18 = nI (bn (0 < 4)) := e_17
    subst e_17
    refine o_ifnz (tgt := 18) hx hb dX4_readerOf_5 (by decide) (fun c_19 => ?_) (fun c_19 => ?_)
    · skip
      refine lv_aload_n hx hb dX4_readerOf_18 rfl (lv_at hl 0 rfl) ?_
      refine va_get (D := D) (ci := 4) (v := .ref (o 5)) (C := RX4) (T := TX4) (N := 6) hx hb hts inX4_readerOf_X4 hown hK hP 0 rfl rfl 0 (by decide) (hts (.fieldLink RX4 10 "OddNotice" "now" "LOddNotice$State;") (List.mem_of_getElem? (i := 5) (by decide +kernel))) (fun _ h9 => h9) rfl dX4_readerOf_19 ?_
      refine va_get (D := D) (ci := 2) (v := .ref (o 11)) (C := RX2) (T := TX2) (N := 4) hx hb hts inX4_readerOf_X2 hown hK hP 5 rfl rfl 1 (by decide) (hts (.fieldLink RX4 91 "OddNotice$State" "readers" "[LOddNotice$Reader;") (List.mem_of_getElem? (i := 6) (by decide +kernel))) (fun _ h9 => h9) rfl dX4_readerOf_22 ?_
      refine lv_iload_n hx hb dX4_readerOf_25 rfl (lv_at hl 1 rfl) ?_
      refine o_aldq (v := (o 12)) (C := "OddNotice$Reader") hx hb hK hP 6 1 rfl rfl (Nat.le_of_ble_eq_true rfl) (Nat.le_of_ble_eq_true rfl) rfl dX4_readerOf_26 ?_
      refine lv_astore_n (lv' := [(3, .ref (o 12)), (0, .ref (o 0)), (1, .int (nI 0)), (2, .int (nI 4))]) hx hb dX4_readerOf_27 rfl hl (by decide) rfl (fun ls hl => ?_)
      refine lv_iload_n hx hb dX4_readerOf_28 rfl (lv_at hl 3 rfl) ?_
      refine lv_tableIn (tgt := 125) (off := 96) hx hb dX4_readerOf_29 (by decide) (by decide) (by decide) (by decide) ?_
      refine lv_aload_n hx hb dX4_readerOf_125 rfl (lv_at hl 0 rfl) ?_
      refine va_get (D := D) (ci := 1) (v := .int (nI (v 5 6))) (C := RX1) (T := TX1) (N := 10) hx hb hts inX4_readerOf_X1 hown hK hP 12 rfl rfl 6 (by decide) (hts (.fieldLink RX4 193 "OddNotice$Reader" "failed" "I") (List.mem_of_getElem? (i := 12) (by decide +kernel))) (fun _ h9 => h9) rfl dX4_readerOf_126 ?_
      exact W.iret (v := nI (v 5 6)) hx hb hrt (fun t ht hW => ⟨_, rfl, rfl, ht⟩) (fun _ h => nomatch h) dX4_readerOf_129
    · skip
      exfalso
      omega
  · skip
    have hSc := hSI
    obtain ⟨⟨i1, i2, i3, hpl⟩, i5⟩ := hSI
    have i12 := i5 0 (by omega)
    unfold s_IR at i12
    simp only [Nat.reduceMul, Nat.reduceAdd] at i12
    refine lv_iload_n hx hb dX4_readerOf_0 rfl (lv_at hl 1 rfl) ?_
    refine o_const (k := 4) hx hb dX4_readerOf_1 (by decide) ?_
    refine o_ri (va_runS (As := [.int (nI 0), .int (nI 4)]) (rest := []) ⟨hx, hb, hml, hown, hts⟩ (k_X4_isBelow l D cI cR cS cL 0 4 (by show 0 < 2 ^ 32; first | assumption | omega) (by show 4 < 2 ^ 31; first | assumption | omega)) (va_cwS 2 hts gX4_readerOf_X4_isBelow rfl rfl rfl (by decide +kernel) ⟨Nat.le_of_ble_eq_true rfl, Nat.le_of_ble_eq_true rfl⟩) (o_pR hK hN (hP.sub (ws' := []) [] rfl)) rfl rfl hl.1 rfl (lv_room (Nat.le_of_ble_eq_true rfl)) dX4_readerOf_2 ⟨Nat.zero_le _, Nat.zero_le _⟩) (fun r_21 e_20 => ?_)
    have e_20 : r_21 = nI (bn (0 < 4)) := e_20
    subst e_20
    refine o_ifnz (tgt := 18) hx hb dX4_readerOf_5 (by decide) (fun c_22 => ?_) (fun c_22 => ?_)
    · skip
      refine lv_aload_n hx hb dX4_readerOf_18 rfl (lv_at hl 0 rfl) ?_
      refine va_get (D := D) (ci := 4) (v := .ref (o 5)) (C := RX4) (T := TX4) (N := 6) hx hb hts inX4_readerOf_X4 hown hK hP 0 rfl rfl 0 (by decide) (hts (.fieldLink RX4 10 "OddNotice" "now" "LOddNotice$State;") (List.mem_of_getElem? (i := 5) (by decide +kernel))) (fun _ h9 => h9) rfl dX4_readerOf_19 ?_
      refine va_get (D := D) (ci := 2) (v := .ref (o 11)) (C := RX2) (T := TX2) (N := 4) hx hb hts inX4_readerOf_X2 hown hK hP 5 rfl rfl 1 (by decide) (hts (.fieldLink RX4 91 "OddNotice$State" "readers" "[LOddNotice$Reader;") (List.mem_of_getElem? (i := 6) (by decide +kernel))) (fun _ h9 => h9) rfl dX4_readerOf_22 ?_
      refine lv_iload_n hx hb dX4_readerOf_25 rfl (lv_at hl 1 rfl) ?_
      refine o_aldq (v := (o 12)) (C := "OddNotice$Reader") hx hb hK hP 6 1 rfl rfl (Nat.le_of_ble_eq_true rfl) (Nat.le_of_ble_eq_true rfl) rfl dX4_readerOf_26 ?_
      refine lv_astore_n (lv' := [(3, .ref (o 12)), (0, .ref (o 0)), (1, .int (nI 0)), (2, .int (nI 5))]) hx hb dX4_readerOf_27 rfl hl (by decide) rfl (fun ls hl => ?_)
      refine lv_iload_n hx hb dX4_readerOf_28 rfl (lv_at hl 3 rfl) ?_
      refine lv_tableIn (tgt := 130) (off := 101) hx hb dX4_readerOf_29 (by decide) (by decide) (by decide) (by decide) ?_
      refine lv_aload_n hx hb dX4_readerOf_130 rfl (lv_at hl 0 rfl) ?_
      refine va_get (D := D) (ci := 1) (v := .int (nI (v 5 7))) (C := RX1) (T := TX1) (N := 10) hx hb hts inX4_readerOf_X1 hown hK hP 12 rfl rfl 7 (by decide) (hts (.fieldLink RX4 196 "OddNotice$Reader" "well" "I") (List.mem_of_getElem? (i := 13) (by decide +kernel))) (fun _ h9 => h9) rfl dX4_readerOf_131 ?_
      exact W.iret (v := nI (v 5 7)) hx hb hrt (fun t ht hW => ⟨_, rfl, rfl, ht⟩) (fun _ h => nomatch h) dX4_readerOf_134
    · skip
      exfalso
      omega
  · skip
    have hSc := hSI
    obtain ⟨⟨i1, i2, i3, hpl⟩, i5⟩ := hSI
    have i12 := i5 0 (by omega)
    unfold s_IR at i12
    simp only [Nat.reduceMul, Nat.reduceAdd] at i12
    refine lv_iload_n hx hb dX4_readerOf_0 rfl (lv_at hl 1 rfl) ?_
    refine o_const (k := 4) hx hb dX4_readerOf_1 (by decide) ?_
    refine o_ri (va_runS (As := [.int (nI 0), .int (nI 4)]) (rest := []) ⟨hx, hb, hml, hown, hts⟩ (k_X4_isBelow l D cI cR cS cL 0 4 (by show 0 < 2 ^ 32; first | assumption | omega) (by show 4 < 2 ^ 31; first | assumption | omega)) (va_cwS 2 hts gX4_readerOf_X4_isBelow rfl rfl rfl (by decide +kernel) ⟨Nat.le_of_ble_eq_true rfl, Nat.le_of_ble_eq_true rfl⟩) (o_pR hK hN (hP.sub (ws' := []) [] rfl)) rfl rfl hl.1 rfl (lv_room (Nat.le_of_ble_eq_true rfl)) dX4_readerOf_2 ⟨Nat.zero_le _, Nat.zero_le _⟩) (fun r_24 e_23 => ?_)
    have e_23 : r_24 = nI (bn (0 < 4)) := e_23
    subst e_23
    refine o_ifnz (tgt := 18) hx hb dX4_readerOf_5 (by decide) (fun c_25 => ?_) (fun c_25 => ?_)
    · skip
      refine lv_aload_n hx hb dX4_readerOf_18 rfl (lv_at hl 0 rfl) ?_
      refine va_get (D := D) (ci := 4) (v := .ref (o 5)) (C := RX4) (T := TX4) (N := 6) hx hb hts inX4_readerOf_X4 hown hK hP 0 rfl rfl 0 (by decide) (hts (.fieldLink RX4 10 "OddNotice" "now" "LOddNotice$State;") (List.mem_of_getElem? (i := 5) (by decide +kernel))) (fun _ h9 => h9) rfl dX4_readerOf_19 ?_
      refine va_get (D := D) (ci := 2) (v := .ref (o 11)) (C := RX2) (T := TX2) (N := 4) hx hb hts inX4_readerOf_X2 hown hK hP 5 rfl rfl 1 (by decide) (hts (.fieldLink RX4 91 "OddNotice$State" "readers" "[LOddNotice$Reader;") (List.mem_of_getElem? (i := 6) (by decide +kernel))) (fun _ h9 => h9) rfl dX4_readerOf_22 ?_
      refine lv_iload_n hx hb dX4_readerOf_25 rfl (lv_at hl 1 rfl) ?_
      refine o_aldq (v := (o 12)) (C := "OddNotice$Reader") hx hb hK hP 6 1 rfl rfl (Nat.le_of_ble_eq_true rfl) (Nat.le_of_ble_eq_true rfl) rfl dX4_readerOf_26 ?_
      refine lv_astore_n (lv' := [(3, .ref (o 12)), (0, .ref (o 0)), (1, .int (nI 0)), (2, .int (nI 6))]) hx hb dX4_readerOf_27 rfl hl (by decide) rfl (fun ls hl => ?_)
      refine lv_iload_n hx hb dX4_readerOf_28 rfl (lv_at hl 3 rfl) ?_
      refine lv_tableIn (tgt := 135) (off := 106) hx hb dX4_readerOf_29 (by decide) (by decide) (by decide) (by decide) ?_
      refine lv_aload_n hx hb dX4_readerOf_135 rfl (lv_at hl 0 rfl) ?_
      refine va_get (D := D) (ci := 1) (v := .int (nI (v 5 2))) (C := RX1) (T := TX1) (N := 10) hx hb hts inX4_readerOf_X1 hown hK hP 12 rfl rfl 2 (by decide) (hts (.fieldLink RX4 199 "OddNotice$Reader" "holds" "Z") (List.mem_of_getElem? (i := 14) (by decide +kernel))) (fun _ h9 => h9) rfl dX4_readerOf_136 ?_
      refine o_if_eq (tgt := 159) hx hb dX4_readerOf_139 (by decide) (by omega) (fun c_26 => ?_) (fun c_26 => ?_)
      · skip
        refine o_const (k := 4294967295) hx hb dX4_readerOf_159 (by decide) ?_
        exact W.iret (v := nI 4294967295) hx hb hrt (fun t ht hW => ⟨_, rfl, (congrArg nI (Eq.symm (show c_rdr v 0 6 = _ from if_pos c_26))), ht⟩) (fun _ h => nomatch h) dX4_readerOf_160
      · skip
        refine lv_aload_n hx hb dX4_readerOf_142 rfl (lv_at hl 1 rfl) ?_
        refine va_get (D := D) (ci := 4) (v := .ref (o 5)) (C := RX4) (T := TX4) (N := 6) hx hb hts inX4_readerOf_X4 hown hK hP 0 rfl rfl 0 (by decide) (hts (.fieldLink RX4 10 "OddNotice" "now" "LOddNotice$State;") (List.mem_of_getElem? (i := 5) (by decide +kernel))) (fun _ h9 => h9) rfl dX4_readerOf_143 ?_
        refine va_get (D := D) (ci := 2) (v := .ref (o 6)) (C := RX2) (T := TX2) (N := 4) hx hb hts inX4_readerOf_X2 hown hK hP 5 rfl rfl 0 (by decide) (hts (.fieldLink RX4 42 "OddNotice$State" "board" "LOddNotice$Board;") (List.mem_of_getElem? (i := 15) (by decide +kernel))) (fun _ h9 => h9) rfl dX4_readerOf_146 ?_
        refine lv_aload_n hx hb dX4_readerOf_149 rfl (lv_at hl 0 rfl) ?_
        refine va_get (D := D) (ci := 1) (v := .ref (o 13)) (C := RX1) (T := TX1) (N := 10) hx hb hts inX4_readerOf_X1 hown hK hP 12 rfl rfl 8 (by decide) (hts (.fieldLink RX4 202 "OddNotice$Reader" "held" "[I") (List.mem_of_getElem? (i := 16) (by decide +kernel))) (fun _ h9 => h9) rfl dX4_readerOf_150 ?_
        refine o_ri (va_runV (As := [.ref (o 13)]) (rest := []) ⟨hx, hb, hml, hown, hts⟩ (k_X0_latestSame l D cI cR cS cL (fun k => o (k + 6)) v (o 13) (v 6) (by show v 0 0 < 2 ^ 30; first | assumption | omega)) (cwV 1 hts gX4_readerOf_X0_latestSame rfl rfl rfl (by decide +kernel) ⟨Nat.le_of_ble_eq_true rfl, Nat.le_of_ble_eq_true rfl⟩) (o_v (o_pR hK hN (hP.sub (ws' := (wB (fun k => o (k + 6)) cI v ++ [oa cI (o 13) 5 (v 6)])) [7, 8, 9, 10, 11, 13] rfl)) (va_recv hK hP (ci := 0) (q0 := 7) rfl rfl)) rfl rfl hl.1 rfl (lv_room (Nat.le_of_ble_eq_true rfl)) dX4_readerOf_153 ⟨Nat.zero_le _, Nat.zero_le _⟩) (fun r_28 e_27 => ?_)
        have e_27 : r_28 = nI (b_ls (v 4) (v 6) (v 0 0 / 2) 16 0) := e_27
        subst e_27
        have gv_29 := (b_ls_lt (by omega) 16 0 : b_ls (v 4) (v 6) (v 0 0 / 2) 16 0 < 2 ^ 32)
        refine lv_goto (tgt := 160) hx hb dX4_readerOf_156 (by decide) ?_
        exact W.iret (v := nI (b_ls (v 4) (v 6) (v 0 0 / 2) 16 0)) hx hb hrt (fun t ht hW => ⟨_, rfl, (congrArg nI (Eq.symm (show c_rdr v 0 6 = _ from if_neg c_26))), ht⟩) (fun _ h => nomatch h) dX4_readerOf_160
    · skip
      exfalso
      omega
  · skip
    have hSc := hSI
    obtain ⟨⟨i1, i2, i3, hpl⟩, i5⟩ := hSI
    have i12 := i5 0 (by omega)
    unfold s_IR at i12
    simp only [Nat.reduceMul, Nat.reduceAdd] at i12
    refine lv_iload_n hx hb dX4_readerOf_0 rfl (lv_at hl 1 rfl) ?_
    refine o_const (k := 4) hx hb dX4_readerOf_1 (by decide) ?_
    refine o_ri (va_runS (As := [.int (nI 0), .int (nI 4)]) (rest := []) ⟨hx, hb, hml, hown, hts⟩ (k_X4_isBelow l D cI cR cS cL 0 4 (by show 0 < 2 ^ 32; first | assumption | omega) (by show 4 < 2 ^ 31; first | assumption | omega)) (va_cwS 2 hts gX4_readerOf_X4_isBelow rfl rfl rfl (by decide +kernel) ⟨Nat.le_of_ble_eq_true rfl, Nat.le_of_ble_eq_true rfl⟩) (o_pR hK hN (hP.sub (ws' := []) [] rfl)) rfl rfl hl.1 rfl (lv_room (Nat.le_of_ble_eq_true rfl)) dX4_readerOf_2 ⟨Nat.zero_le _, Nat.zero_le _⟩) (fun r_31 e_30 => ?_)
    have e_30 : r_31 = nI (bn (0 < 4)) := e_30
    subst e_30
    refine o_ifnz (tgt := 18) hx hb dX4_readerOf_5 (by decide) (fun c_32 => ?_) (fun c_32 => ?_)
    · skip
      refine lv_aload_n hx hb dX4_readerOf_18 rfl (lv_at hl 0 rfl) ?_
      refine va_get (D := D) (ci := 4) (v := .ref (o 5)) (C := RX4) (T := TX4) (N := 6) hx hb hts inX4_readerOf_X4 hown hK hP 0 rfl rfl 0 (by decide) (hts (.fieldLink RX4 10 "OddNotice" "now" "LOddNotice$State;") (List.mem_of_getElem? (i := 5) (by decide +kernel))) (fun _ h9 => h9) rfl dX4_readerOf_19 ?_
      refine va_get (D := D) (ci := 2) (v := .ref (o 11)) (C := RX2) (T := TX2) (N := 4) hx hb hts inX4_readerOf_X2 hown hK hP 5 rfl rfl 1 (by decide) (hts (.fieldLink RX4 91 "OddNotice$State" "readers" "[LOddNotice$Reader;") (List.mem_of_getElem? (i := 6) (by decide +kernel))) (fun _ h9 => h9) rfl dX4_readerOf_22 ?_
      refine lv_iload_n hx hb dX4_readerOf_25 rfl (lv_at hl 1 rfl) ?_
      refine o_aldq (v := (o 12)) (C := "OddNotice$Reader") hx hb hK hP 6 1 rfl rfl (Nat.le_of_ble_eq_true rfl) (Nat.le_of_ble_eq_true rfl) rfl dX4_readerOf_26 ?_
      refine lv_astore_n (lv' := [(3, .ref (o 12)), (0, .ref (o 0)), (1, .int (nI 0)), (2, .int (nI 7))]) hx hb dX4_readerOf_27 rfl hl (by decide) rfl (fun ls hl => ?_)
      refine lv_iload_n hx hb dX4_readerOf_28 rfl (lv_at hl 3 rfl) ?_
      refine lv_tableIn (tgt := 161) (off := 132) hx hb dX4_readerOf_29 (by decide) (by decide) (by decide) (by decide) ?_
      refine lv_aload_n hx hb dX4_readerOf_161 rfl (lv_at hl 0 rfl) ?_
      refine va_get (D := D) (ci := 1) (v := .int (nI (v 5 0))) (C := RX1) (T := TX1) (N := 10) hx hb hts inX4_readerOf_X1 hown hK hP 12 rfl rfl 0 (by decide) (hts (.fieldLink RX4 95 "OddNotice$Reader" "heeds" "Z") (List.mem_of_getElem? (i := 17) (by decide +kernel))) (fun _ h9 => h9) rfl dX4_readerOf_162 ?_
      refine o_if_eq (tgt := 172) hx hb dX4_readerOf_165 (by decide) (by omega) (fun c_33 => ?_) (fun c_33 => ?_)
      · skip
        refine o_const (k := 0) hx hb dX4_readerOf_172 (by decide) ?_
        exact W.iret (v := nI 0) hx hb hrt (fun t ht hW => ⟨_, rfl, (congrArg nI (Eq.symm (show c_rdr v 0 7 = _ from if_pos c_33))), ht⟩) (fun _ h => nomatch h) dX4_readerOf_173
      · skip
        refine o_const (k := 1) hx hb dX4_readerOf_168 (by decide) ?_
        refine lv_goto (tgt := 173) hx hb dX4_readerOf_169 (by decide) ?_
        exact W.iret (v := nI 1) hx hb hrt (fun t ht hW => ⟨_, rfl, (congrArg nI (Eq.symm (show c_rdr v 0 7 = _ from if_neg c_33))), ht⟩) (fun _ h => nomatch h) dX4_readerOf_173
    · skip
      exfalso
      omega
  · skip
    have hSc := hSI
    obtain ⟨⟨i1, i2, i3, hpl⟩, i5⟩ := hSI
    have i12 := i5 1 (by omega)
    unfold s_IR at i12
    simp only [Nat.reduceMul, Nat.reduceAdd] at i12
    refine lv_iload_n hx hb dX4_readerOf_0 rfl (lv_at hl 1 rfl) ?_
    refine o_const (k := 4) hx hb dX4_readerOf_1 (by decide) ?_
    refine o_ri (va_runS (As := [.int (nI 1), .int (nI 4)]) (rest := []) ⟨hx, hb, hml, hown, hts⟩ (k_X4_isBelow l D cI cR cS cL 1 4 (by show 1 < 2 ^ 32; first | assumption | omega) (by show 4 < 2 ^ 31; first | assumption | omega)) (va_cwS 2 hts gX4_readerOf_X4_isBelow rfl rfl rfl (by decide +kernel) ⟨Nat.le_of_ble_eq_true rfl, Nat.le_of_ble_eq_true rfl⟩) (o_pR hK hN (hP.sub (ws' := []) [] rfl)) rfl rfl hl.1 rfl (lv_room (Nat.le_of_ble_eq_true rfl)) dX4_readerOf_2 ⟨Nat.zero_le _, Nat.zero_le _⟩) (fun r_35 e_34 => ?_)
    have e_34 : r_35 = nI (bn (1 < 4)) := e_34
    subst e_34
    refine o_ifnz (tgt := 18) hx hb dX4_readerOf_5 (by decide) (fun c_36 => ?_) (fun c_36 => ?_)
    · skip
      refine lv_aload_n hx hb dX4_readerOf_18 rfl (lv_at hl 0 rfl) ?_
      refine va_get (D := D) (ci := 4) (v := .ref (o 5)) (C := RX4) (T := TX4) (N := 6) hx hb hts inX4_readerOf_X4 hown hK hP 0 rfl rfl 0 (by decide) (hts (.fieldLink RX4 10 "OddNotice" "now" "LOddNotice$State;") (List.mem_of_getElem? (i := 5) (by decide +kernel))) (fun _ h9 => h9) rfl dX4_readerOf_19 ?_
      refine va_get (D := D) (ci := 2) (v := .ref (o 11)) (C := RX2) (T := TX2) (N := 4) hx hb hts inX4_readerOf_X2 hown hK hP 5 rfl rfl 1 (by decide) (hts (.fieldLink RX4 91 "OddNotice$State" "readers" "[LOddNotice$Reader;") (List.mem_of_getElem? (i := 6) (by decide +kernel))) (fun _ h9 => h9) rfl dX4_readerOf_22 ?_
      refine lv_iload_n hx hb dX4_readerOf_25 rfl (lv_at hl 1 rfl) ?_
      refine o_aldq (v := (o 15)) (C := "OddNotice$Reader") hx hb hK hP 6 1 rfl rfl (Nat.le_of_ble_eq_true rfl) (Nat.le_of_ble_eq_true rfl) rfl dX4_readerOf_26 ?_
      refine lv_astore_n (lv' := [(3, .ref (o 15)), (0, .ref (o 0)), (1, .int (nI 1)), (2, .int (nI 0))]) hx hb dX4_readerOf_27 rfl hl (by decide) rfl (fun ls hl => ?_)
      refine lv_iload_n hx hb dX4_readerOf_28 rfl (lv_at hl 3 rfl) ?_
      refine lv_tableIn (tgt := 76) (off := 47) hx hb dX4_readerOf_29 (by decide) (by decide) (by decide) (by decide) ?_
      refine lv_aload_n hx hb dX4_readerOf_76 rfl (lv_at hl 0 rfl) ?_
      refine lv_aload_n hx hb dX4_readerOf_77 rfl (lv_at hl 1 rfl) ?_
      refine va_get (D := D) (ci := 4) (v := .ref (o 5)) (C := RX4) (T := TX4) (N := 6) hx hb hts inX4_readerOf_X4 hown hK hP 0 rfl rfl 0 (by decide) (hts (.fieldLink RX4 10 "OddNotice" "now" "LOddNotice$State;") (List.mem_of_getElem? (i := 5) (by decide +kernel))) (fun _ h9 => h9) rfl dX4_readerOf_78 ?_
      refine va_get (D := D) (ci := 2) (v := .int (nI (v 0 2))) (C := RX2) (T := TX2) (N := 4) hx hb hts inX4_readerOf_X2 hown hK hP 5 rfl rfl 3 (by decide) (hts (.fieldLink RX4 122 "OddNotice$State" "setting" "I") (List.mem_of_getElem? (i := 7) (by decide +kernel))) (fun _ h9 => h9) rfl dX4_readerOf_81 ?_
      refine o_ri (va_runV (As := [.int (nI (v 0 2))]) (rest := []) ⟨hx, hb, hml, hown, hts⟩ (k_X1_doing l D cI cR cS cL (fun k => o (k + 15)) (fun k => v (k + 8)) (v 0 2) (by show (v 8 0) < 2 ^ 31; first | assumption | omega) (by show (v 8 1) < 2 ^ 31; first | assumption | omega) (by show (v 8 5) < 2 ^ 31; first | assumption | omega) (by show (v 0 2) < 2 ^ 31; first | assumption | omega)) (cwV 1 hts gX4_readerOf_X1_doing rfl rfl rfl (by decide +kernel) ⟨Nat.le_of_ble_eq_true rfl, Nat.le_of_ble_eq_true rfl⟩) (o_v (o_pR hK hN (hP.sub (ws' := (wR (fun k => o (k + 15)) cI (fun k => v (k + 8)))) [15, 16, 17] rfl)) (va_recv hK hP (ci := 1) (q0 := 15) rfl rfl)) rfl rfl hl.1 rfl (lv_room (Nat.le_of_ble_eq_true rfl)) dX4_readerOf_84 ⟨Nat.zero_le _, Nat.zero_le _⟩) (fun r_38 e_37 => ?_)
      have e_37 : r_38 = nI (r_doing (fun k => v (k + 8)) (v 0 2)) := e_37
      subst e_37
      exact W.iret (v := nI (r_doing (fun k => v (k + 8)) (v 0 2))) hx hb hrt (fun t ht hW => ⟨_, rfl, rfl, ht⟩) (fun _ h => nomatch h) dX4_readerOf_87
    · skip
      exfalso
      omega
  · skip
    have hSc := hSI
    obtain ⟨⟨i1, i2, i3, hpl⟩, i5⟩ := hSI
    have i12 := i5 1 (by omega)
    unfold s_IR at i12
    simp only [Nat.reduceMul, Nat.reduceAdd] at i12
    refine lv_iload_n hx hb dX4_readerOf_0 rfl (lv_at hl 1 rfl) ?_
    refine o_const (k := 4) hx hb dX4_readerOf_1 (by decide) ?_
    refine o_ri (va_runS (As := [.int (nI 1), .int (nI 4)]) (rest := []) ⟨hx, hb, hml, hown, hts⟩ (k_X4_isBelow l D cI cR cS cL 1 4 (by show 1 < 2 ^ 32; first | assumption | omega) (by show 4 < 2 ^ 31; first | assumption | omega)) (va_cwS 2 hts gX4_readerOf_X4_isBelow rfl rfl rfl (by decide +kernel) ⟨Nat.le_of_ble_eq_true rfl, Nat.le_of_ble_eq_true rfl⟩) (o_pR hK hN (hP.sub (ws' := []) [] rfl)) rfl rfl hl.1 rfl (lv_room (Nat.le_of_ble_eq_true rfl)) dX4_readerOf_2 ⟨Nat.zero_le _, Nat.zero_le _⟩) (fun r_40 e_39 => ?_)
    have e_39 : r_40 = nI (bn (1 < 4)) := e_39
    subst e_39
    refine o_ifnz (tgt := 18) hx hb dX4_readerOf_5 (by decide) (fun c_41 => ?_) (fun c_41 => ?_)
    · skip
      refine lv_aload_n hx hb dX4_readerOf_18 rfl (lv_at hl 0 rfl) ?_
      refine va_get (D := D) (ci := 4) (v := .ref (o 5)) (C := RX4) (T := TX4) (N := 6) hx hb hts inX4_readerOf_X4 hown hK hP 0 rfl rfl 0 (by decide) (hts (.fieldLink RX4 10 "OddNotice" "now" "LOddNotice$State;") (List.mem_of_getElem? (i := 5) (by decide +kernel))) (fun _ h9 => h9) rfl dX4_readerOf_19 ?_
      refine va_get (D := D) (ci := 2) (v := .ref (o 11)) (C := RX2) (T := TX2) (N := 4) hx hb hts inX4_readerOf_X2 hown hK hP 5 rfl rfl 1 (by decide) (hts (.fieldLink RX4 91 "OddNotice$State" "readers" "[LOddNotice$Reader;") (List.mem_of_getElem? (i := 6) (by decide +kernel))) (fun _ h9 => h9) rfl dX4_readerOf_22 ?_
      refine lv_iload_n hx hb dX4_readerOf_25 rfl (lv_at hl 1 rfl) ?_
      refine o_aldq (v := (o 15)) (C := "OddNotice$Reader") hx hb hK hP 6 1 rfl rfl (Nat.le_of_ble_eq_true rfl) (Nat.le_of_ble_eq_true rfl) rfl dX4_readerOf_26 ?_
      refine lv_astore_n (lv' := [(3, .ref (o 15)), (0, .ref (o 0)), (1, .int (nI 1)), (2, .int (nI 1))]) hx hb dX4_readerOf_27 rfl hl (by decide) rfl (fun ls hl => ?_)
      refine lv_iload_n hx hb dX4_readerOf_28 rfl (lv_at hl 3 rfl) ?_
      refine lv_tableIn (tgt := 88) (off := 59) hx hb dX4_readerOf_29 (by decide) (by decide) (by decide) (by decide) ?_
      refine lv_aload_n hx hb dX4_readerOf_88 rfl (lv_at hl 0 rfl) ?_
      refine va_get (D := D) (ci := 1) (v := .int (nI (v 8 1))) (C := RX1) (T := TX1) (N := 10) hx hb hts inX4_readerOf_X1 hown hK hP 15 rfl rfl 1 (by decide) (hts (.fieldLink RX4 114 "OddNotice$Reader" "reads" "Z") (List.mem_of_getElem? (i := 8) (by decide +kernel))) (fun _ h9 => h9) rfl dX4_readerOf_89 ?_
      refine o_if_eq (tgt := 102) hx hb dX4_readerOf_92 (by decide) (by omega) (fun c_42 => ?_) (fun c_42 => ?_)
      · skip
        refine o_const (k := 4294967295) hx hb dX4_readerOf_102 (by decide) ?_
        exact W.iret (v := nI 4294967295) hx hb hrt (fun t ht hW => ⟨_, rfl, (congrArg nI (Eq.symm (show c_rdr v 1 1 = _ from if_pos c_42))), ht⟩) (fun _ h => nomatch h) dX4_readerOf_103
      · skip
        refine lv_aload_n hx hb dX4_readerOf_95 rfl (lv_at hl 0 rfl) ?_
        refine va_get (D := D) (ci := 1) (v := .int (nI (v 8 3))) (C := RX1) (T := TX1) (N := 10) hx hb hts inX4_readerOf_X1 hown hK hP 15 rfl rfl 3 (by decide) (hts (.fieldLink RX4 184 "OddNotice$Reader" "noted" "I") (List.mem_of_getElem? (i := 9) (by decide +kernel))) (fun _ h9 => h9) rfl dX4_readerOf_96 ?_
        refine lv_goto (tgt := 103) hx hb dX4_readerOf_99 (by decide) ?_
        exact W.iret (v := nI (v 8 3)) hx hb hrt (fun t ht hW => ⟨_, rfl, (congrArg nI (Eq.symm (show c_rdr v 1 1 = _ from if_neg c_42))), ht⟩) (fun _ h => nomatch h) dX4_readerOf_103
    · skip
      exfalso
      omega
  · skip
    have hSc := hSI
    obtain ⟨⟨i1, i2, i3, hpl⟩, i5⟩ := hSI
    have i12 := i5 1 (by omega)
    unfold s_IR at i12
    simp only [Nat.reduceMul, Nat.reduceAdd] at i12
    refine lv_iload_n hx hb dX4_readerOf_0 rfl (lv_at hl 1 rfl) ?_
    refine o_const (k := 4) hx hb dX4_readerOf_1 (by decide) ?_
    refine o_ri (va_runS (As := [.int (nI 1), .int (nI 4)]) (rest := []) ⟨hx, hb, hml, hown, hts⟩ (k_X4_isBelow l D cI cR cS cL 1 4 (by show 1 < 2 ^ 32; first | assumption | omega) (by show 4 < 2 ^ 31; first | assumption | omega)) (va_cwS 2 hts gX4_readerOf_X4_isBelow rfl rfl rfl (by decide +kernel) ⟨Nat.le_of_ble_eq_true rfl, Nat.le_of_ble_eq_true rfl⟩) (o_pR hK hN (hP.sub (ws' := []) [] rfl)) rfl rfl hl.1 rfl (lv_room (Nat.le_of_ble_eq_true rfl)) dX4_readerOf_2 ⟨Nat.zero_le _, Nat.zero_le _⟩) (fun r_44 e_43 => ?_)
    have e_43 : r_44 = nI (bn (1 < 4)) := e_43
    subst e_43
    refine o_ifnz (tgt := 18) hx hb dX4_readerOf_5 (by decide) (fun c_45 => ?_) (fun c_45 => ?_)
    · skip
      refine lv_aload_n hx hb dX4_readerOf_18 rfl (lv_at hl 0 rfl) ?_
      refine va_get (D := D) (ci := 4) (v := .ref (o 5)) (C := RX4) (T := TX4) (N := 6) hx hb hts inX4_readerOf_X4 hown hK hP 0 rfl rfl 0 (by decide) (hts (.fieldLink RX4 10 "OddNotice" "now" "LOddNotice$State;") (List.mem_of_getElem? (i := 5) (by decide +kernel))) (fun _ h9 => h9) rfl dX4_readerOf_19 ?_
      refine va_get (D := D) (ci := 2) (v := .ref (o 11)) (C := RX2) (T := TX2) (N := 4) hx hb hts inX4_readerOf_X2 hown hK hP 5 rfl rfl 1 (by decide) (hts (.fieldLink RX4 91 "OddNotice$State" "readers" "[LOddNotice$Reader;") (List.mem_of_getElem? (i := 6) (by decide +kernel))) (fun _ h9 => h9) rfl dX4_readerOf_22 ?_
      refine lv_iload_n hx hb dX4_readerOf_25 rfl (lv_at hl 1 rfl) ?_
      refine o_aldq (v := (o 15)) (C := "OddNotice$Reader") hx hb hK hP 6 1 rfl rfl (Nat.le_of_ble_eq_true rfl) (Nat.le_of_ble_eq_true rfl) rfl dX4_readerOf_26 ?_
      refine lv_astore_n (lv' := [(3, .ref (o 15)), (0, .ref (o 0)), (1, .int (nI 1)), (2, .int (nI 2))]) hx hb dX4_readerOf_27 rfl hl (by decide) rfl (fun ls hl => ?_)
      refine lv_iload_n hx hb dX4_readerOf_28 rfl (lv_at hl 3 rfl) ?_
      refine lv_tableIn (tgt := 104) (off := 75) hx hb dX4_readerOf_29 (by decide) (by decide) (by decide) (by decide) ?_
      refine lv_aload_n hx hb dX4_readerOf_104 rfl (lv_at hl 0 rfl) ?_
      refine va_get (D := D) (ci := 1) (v := .int (nI (v 8 1))) (C := RX1) (T := TX1) (N := 10) hx hb hts inX4_readerOf_X1 hown hK hP 15 rfl rfl 1 (by decide) (hts (.fieldLink RX4 114 "OddNotice$Reader" "reads" "Z") (List.mem_of_getElem? (i := 8) (by decide +kernel))) (fun _ h9 => h9) rfl dX4_readerOf_105 ?_
      refine o_if_eq (tgt := 118) hx hb dX4_readerOf_108 (by decide) (by omega) (fun c_46 => ?_) (fun c_46 => ?_)
      · skip
        refine o_const (k := 4294967295) hx hb dX4_readerOf_118 (by decide) ?_
        exact W.iret (v := nI 4294967295) hx hb hrt (fun t ht hW => ⟨_, rfl, (congrArg nI (Eq.symm (show c_rdr v 1 2 = _ from if_pos c_46))), ht⟩) (fun _ h => nomatch h) dX4_readerOf_119
      · skip
        refine lv_aload_n hx hb dX4_readerOf_111 rfl (lv_at hl 0 rfl) ?_
        refine va_get (D := D) (ci := 1) (v := .int (nI (v 8 4))) (C := RX1) (T := TX1) (N := 10) hx hb hts inX4_readerOf_X1 hown hK hP 15 rfl rfl 4 (by decide) (hts (.fieldLink RX4 187 "OddNotice$Reader" "taken" "I") (List.mem_of_getElem? (i := 10) (by decide +kernel))) (fun _ h9 => h9) rfl dX4_readerOf_112 ?_
        refine lv_goto (tgt := 119) hx hb dX4_readerOf_115 (by decide) ?_
        exact W.iret (v := nI (v 8 4)) hx hb hrt (fun t ht hW => ⟨_, rfl, (congrArg nI (Eq.symm (show c_rdr v 1 2 = _ from if_neg c_46))), ht⟩) (fun _ h => nomatch h) dX4_readerOf_119
    · skip
      exfalso
      omega
  · skip
    have hSc := hSI
    obtain ⟨⟨i1, i2, i3, hpl⟩, i5⟩ := hSI
    have i12 := i5 1 (by omega)
    unfold s_IR at i12
    simp only [Nat.reduceMul, Nat.reduceAdd] at i12
    refine lv_iload_n hx hb dX4_readerOf_0 rfl (lv_at hl 1 rfl) ?_
    refine o_const (k := 4) hx hb dX4_readerOf_1 (by decide) ?_
    refine o_ri (va_runS (As := [.int (nI 1), .int (nI 4)]) (rest := []) ⟨hx, hb, hml, hown, hts⟩ (k_X4_isBelow l D cI cR cS cL 1 4 (by show 1 < 2 ^ 32; first | assumption | omega) (by show 4 < 2 ^ 31; first | assumption | omega)) (va_cwS 2 hts gX4_readerOf_X4_isBelow rfl rfl rfl (by decide +kernel) ⟨Nat.le_of_ble_eq_true rfl, Nat.le_of_ble_eq_true rfl⟩) (o_pR hK hN (hP.sub (ws' := []) [] rfl)) rfl rfl hl.1 rfl (lv_room (Nat.le_of_ble_eq_true rfl)) dX4_readerOf_2 ⟨Nat.zero_le _, Nat.zero_le _⟩) (fun r_48 e_47 => ?_)
    have e_47 : r_48 = nI (bn (1 < 4)) := e_47
    subst e_47
    refine o_ifnz (tgt := 18) hx hb dX4_readerOf_5 (by decide) (fun c_49 => ?_) (fun c_49 => ?_)
    · skip
      refine lv_aload_n hx hb dX4_readerOf_18 rfl (lv_at hl 0 rfl) ?_
      refine va_get (D := D) (ci := 4) (v := .ref (o 5)) (C := RX4) (T := TX4) (N := 6) hx hb hts inX4_readerOf_X4 hown hK hP 0 rfl rfl 0 (by decide) (hts (.fieldLink RX4 10 "OddNotice" "now" "LOddNotice$State;") (List.mem_of_getElem? (i := 5) (by decide +kernel))) (fun _ h9 => h9) rfl dX4_readerOf_19 ?_
      refine va_get (D := D) (ci := 2) (v := .ref (o 11)) (C := RX2) (T := TX2) (N := 4) hx hb hts inX4_readerOf_X2 hown hK hP 5 rfl rfl 1 (by decide) (hts (.fieldLink RX4 91 "OddNotice$State" "readers" "[LOddNotice$Reader;") (List.mem_of_getElem? (i := 6) (by decide +kernel))) (fun _ h9 => h9) rfl dX4_readerOf_22 ?_
      refine lv_iload_n hx hb dX4_readerOf_25 rfl (lv_at hl 1 rfl) ?_
      refine o_aldq (v := (o 15)) (C := "OddNotice$Reader") hx hb hK hP 6 1 rfl rfl (Nat.le_of_ble_eq_true rfl) (Nat.le_of_ble_eq_true rfl) rfl dX4_readerOf_26 ?_
      refine lv_astore_n (lv' := [(3, .ref (o 15)), (0, .ref (o 0)), (1, .int (nI 1)), (2, .int (nI 3))]) hx hb dX4_readerOf_27 rfl hl (by decide) rfl (fun ls hl => ?_)
      refine lv_iload_n hx hb dX4_readerOf_28 rfl (lv_at hl 3 rfl) ?_
      refine lv_tableIn (tgt := 120) (off := 91) hx hb dX4_readerOf_29 (by decide) (by decide) (by decide) (by decide) ?_
      refine lv_aload_n hx hb dX4_readerOf_120 rfl (lv_at hl 0 rfl) ?_
      refine va_get (D := D) (ci := 1) (v := .int (nI (v 8 5))) (C := RX1) (T := TX1) (N := 10) hx hb hts inX4_readerOf_X1 hown hK hP 15 rfl rfl 5 (by decide) (hts (.fieldLink RX4 190 "OddNotice$Reader" "failedInRow" "I") (List.mem_of_getElem? (i := 11) (by decide +kernel))) (fun _ h9 => h9) rfl dX4_readerOf_121 ?_
      exact W.iret (v := nI (v 8 5)) hx hb hrt (fun t ht hW => ⟨_, rfl, rfl, ht⟩) (fun _ h => nomatch h) dX4_readerOf_124
    · skip
      exfalso
      omega
  · skip
    have hSc := hSI
    obtain ⟨⟨i1, i2, i3, hpl⟩, i5⟩ := hSI
    have i12 := i5 1 (by omega)
    unfold s_IR at i12
    simp only [Nat.reduceMul, Nat.reduceAdd] at i12
    refine lv_iload_n hx hb dX4_readerOf_0 rfl (lv_at hl 1 rfl) ?_
    refine o_const (k := 4) hx hb dX4_readerOf_1 (by decide) ?_
    refine o_ri (va_runS (As := [.int (nI 1), .int (nI 4)]) (rest := []) ⟨hx, hb, hml, hown, hts⟩ (k_X4_isBelow l D cI cR cS cL 1 4 (by show 1 < 2 ^ 32; first | assumption | omega) (by show 4 < 2 ^ 31; first | assumption | omega)) (va_cwS 2 hts gX4_readerOf_X4_isBelow rfl rfl rfl (by decide +kernel) ⟨Nat.le_of_ble_eq_true rfl, Nat.le_of_ble_eq_true rfl⟩) (o_pR hK hN (hP.sub (ws' := []) [] rfl)) rfl rfl hl.1 rfl (lv_room (Nat.le_of_ble_eq_true rfl)) dX4_readerOf_2 ⟨Nat.zero_le _, Nat.zero_le _⟩) (fun r_51 e_50 => ?_)
    have e_50 : r_51 = nI (bn (1 < 4)) := e_50
    subst e_50
    refine o_ifnz (tgt := 18) hx hb dX4_readerOf_5 (by decide) (fun c_52 => ?_) (fun c_52 => ?_)
    · skip
      refine lv_aload_n hx hb dX4_readerOf_18 rfl (lv_at hl 0 rfl) ?_
      refine va_get (D := D) (ci := 4) (v := .ref (o 5)) (C := RX4) (T := TX4) (N := 6) hx hb hts inX4_readerOf_X4 hown hK hP 0 rfl rfl 0 (by decide) (hts (.fieldLink RX4 10 "OddNotice" "now" "LOddNotice$State;") (List.mem_of_getElem? (i := 5) (by decide +kernel))) (fun _ h9 => h9) rfl dX4_readerOf_19 ?_
      refine va_get (D := D) (ci := 2) (v := .ref (o 11)) (C := RX2) (T := TX2) (N := 4) hx hb hts inX4_readerOf_X2 hown hK hP 5 rfl rfl 1 (by decide) (hts (.fieldLink RX4 91 "OddNotice$State" "readers" "[LOddNotice$Reader;") (List.mem_of_getElem? (i := 6) (by decide +kernel))) (fun _ h9 => h9) rfl dX4_readerOf_22 ?_
      refine lv_iload_n hx hb dX4_readerOf_25 rfl (lv_at hl 1 rfl) ?_
      refine o_aldq (v := (o 15)) (C := "OddNotice$Reader") hx hb hK hP 6 1 rfl rfl (Nat.le_of_ble_eq_true rfl) (Nat.le_of_ble_eq_true rfl) rfl dX4_readerOf_26 ?_
      refine lv_astore_n (lv' := [(3, .ref (o 15)), (0, .ref (o 0)), (1, .int (nI 1)), (2, .int (nI 4))]) hx hb dX4_readerOf_27 rfl hl (by decide) rfl (fun ls hl => ?_)
      refine lv_iload_n hx hb dX4_readerOf_28 rfl (lv_at hl 3 rfl) ?_
      refine lv_tableIn (tgt := 125) (off := 96) hx hb dX4_readerOf_29 (by decide) (by decide) (by decide) (by decide) ?_
      refine lv_aload_n hx hb dX4_readerOf_125 rfl (lv_at hl 0 rfl) ?_
      refine va_get (D := D) (ci := 1) (v := .int (nI (v 8 6))) (C := RX1) (T := TX1) (N := 10) hx hb hts inX4_readerOf_X1 hown hK hP 15 rfl rfl 6 (by decide) (hts (.fieldLink RX4 193 "OddNotice$Reader" "failed" "I") (List.mem_of_getElem? (i := 12) (by decide +kernel))) (fun _ h9 => h9) rfl dX4_readerOf_126 ?_
      exact W.iret (v := nI (v 8 6)) hx hb hrt (fun t ht hW => ⟨_, rfl, rfl, ht⟩) (fun _ h => nomatch h) dX4_readerOf_129
    · skip
      exfalso
      omega
  · skip
    have hSc := hSI
    obtain ⟨⟨i1, i2, i3, hpl⟩, i5⟩ := hSI
    have i12 := i5 1 (by omega)
    unfold s_IR at i12
    simp only [Nat.reduceMul, Nat.reduceAdd] at i12
    refine lv_iload_n hx hb dX4_readerOf_0 rfl (lv_at hl 1 rfl) ?_
    refine o_const (k := 4) hx hb dX4_readerOf_1 (by decide) ?_
    refine o_ri (va_runS (As := [.int (nI 1), .int (nI 4)]) (rest := []) ⟨hx, hb, hml, hown, hts⟩ (k_X4_isBelow l D cI cR cS cL 1 4 (by show 1 < 2 ^ 32; first | assumption | omega) (by show 4 < 2 ^ 31; first | assumption | omega)) (va_cwS 2 hts gX4_readerOf_X4_isBelow rfl rfl rfl (by decide +kernel) ⟨Nat.le_of_ble_eq_true rfl, Nat.le_of_ble_eq_true rfl⟩) (o_pR hK hN (hP.sub (ws' := []) [] rfl)) rfl rfl hl.1 rfl (lv_room (Nat.le_of_ble_eq_true rfl)) dX4_readerOf_2 ⟨Nat.zero_le _, Nat.zero_le _⟩) (fun r_54 e_53 => ?_)
    have e_53 : r_54 = nI (bn (1 < 4)) := e_53
    subst e_53
    refine o_ifnz (tgt := 18) hx hb dX4_readerOf_5 (by decide) (fun c_55 => ?_) (fun c_55 => ?_)
    · skip
      refine lv_aload_n hx hb dX4_readerOf_18 rfl (lv_at hl 0 rfl) ?_
      refine va_get (D := D) (ci := 4) (v := .ref (o 5)) (C := RX4) (T := TX4) (N := 6) hx hb hts inX4_readerOf_X4 hown hK hP 0 rfl rfl 0 (by decide) (hts (.fieldLink RX4 10 "OddNotice" "now" "LOddNotice$State;") (List.mem_of_getElem? (i := 5) (by decide +kernel))) (fun _ h9 => h9) rfl dX4_readerOf_19 ?_
      refine va_get (D := D) (ci := 2) (v := .ref (o 11)) (C := RX2) (T := TX2) (N := 4) hx hb hts inX4_readerOf_X2 hown hK hP 5 rfl rfl 1 (by decide) (hts (.fieldLink RX4 91 "OddNotice$State" "readers" "[LOddNotice$Reader;") (List.mem_of_getElem? (i := 6) (by decide +kernel))) (fun _ h9 => h9) rfl dX4_readerOf_22 ?_
      refine lv_iload_n hx hb dX4_readerOf_25 rfl (lv_at hl 1 rfl) ?_
      refine o_aldq (v := (o 15)) (C := "OddNotice$Reader") hx hb hK hP 6 1 rfl rfl (Nat.le_of_ble_eq_true rfl) (Nat.le_of_ble_eq_true rfl) rfl dX4_readerOf_26 ?_
      refine lv_astore_n (lv' := [(3, .ref (o 15)), (0, .ref (o 0)), (1, .int (nI 1)), (2, .int (nI 5))]) hx hb dX4_readerOf_27 rfl hl (by decide) rfl (fun ls hl => ?_)
      refine lv_iload_n hx hb dX4_readerOf_28 rfl (lv_at hl 3 rfl) ?_
      refine lv_tableIn (tgt := 130) (off := 101) hx hb dX4_readerOf_29 (by decide) (by decide) (by decide) (by decide) ?_
      refine lv_aload_n hx hb dX4_readerOf_130 rfl (lv_at hl 0 rfl) ?_
      refine va_get (D := D) (ci := 1) (v := .int (nI (v 8 7))) (C := RX1) (T := TX1) (N := 10) hx hb hts inX4_readerOf_X1 hown hK hP 15 rfl rfl 7 (by decide) (hts (.fieldLink RX4 196 "OddNotice$Reader" "well" "I") (List.mem_of_getElem? (i := 13) (by decide +kernel))) (fun _ h9 => h9) rfl dX4_readerOf_131 ?_
      exact W.iret (v := nI (v 8 7)) hx hb hrt (fun t ht hW => ⟨_, rfl, rfl, ht⟩) (fun _ h => nomatch h) dX4_readerOf_134
    · skip
      exfalso
      omega
  · skip
    have hSc := hSI
    obtain ⟨⟨i1, i2, i3, hpl⟩, i5⟩ := hSI
    have i12 := i5 1 (by omega)
    unfold s_IR at i12
    simp only [Nat.reduceMul, Nat.reduceAdd] at i12
    refine lv_iload_n hx hb dX4_readerOf_0 rfl (lv_at hl 1 rfl) ?_
    refine o_const (k := 4) hx hb dX4_readerOf_1 (by decide) ?_
    refine o_ri (va_runS (As := [.int (nI 1), .int (nI 4)]) (rest := []) ⟨hx, hb, hml, hown, hts⟩ (k_X4_isBelow l D cI cR cS cL 1 4 (by show 1 < 2 ^ 32; first | assumption | omega) (by show 4 < 2 ^ 31; first | assumption | omega)) (va_cwS 2 hts gX4_readerOf_X4_isBelow rfl rfl rfl (by decide +kernel) ⟨Nat.le_of_ble_eq_true rfl, Nat.le_of_ble_eq_true rfl⟩) (o_pR hK hN (hP.sub (ws' := []) [] rfl)) rfl rfl hl.1 rfl (lv_room (Nat.le_of_ble_eq_true rfl)) dX4_readerOf_2 ⟨Nat.zero_le _, Nat.zero_le _⟩) (fun r_57 e_56 => ?_)
    have e_56 : r_57 = nI (bn (1 < 4)) := e_56
    subst e_56
    refine o_ifnz (tgt := 18) hx hb dX4_readerOf_5 (by decide) (fun c_58 => ?_) (fun c_58 => ?_)
    · skip
      refine lv_aload_n hx hb dX4_readerOf_18 rfl (lv_at hl 0 rfl) ?_
      refine va_get (D := D) (ci := 4) (v := .ref (o 5)) (C := RX4) (T := TX4) (N := 6) hx hb hts inX4_readerOf_X4 hown hK hP 0 rfl rfl 0 (by decide) (hts (.fieldLink RX4 10 "OddNotice" "now" "LOddNotice$State;") (List.mem_of_getElem? (i := 5) (by decide +kernel))) (fun _ h9 => h9) rfl dX4_readerOf_19 ?_
      refine va_get (D := D) (ci := 2) (v := .ref (o 11)) (C := RX2) (T := TX2) (N := 4) hx hb hts inX4_readerOf_X2 hown hK hP 5 rfl rfl 1 (by decide) (hts (.fieldLink RX4 91 "OddNotice$State" "readers" "[LOddNotice$Reader;") (List.mem_of_getElem? (i := 6) (by decide +kernel))) (fun _ h9 => h9) rfl dX4_readerOf_22 ?_
      refine lv_iload_n hx hb dX4_readerOf_25 rfl (lv_at hl 1 rfl) ?_
      refine o_aldq (v := (o 15)) (C := "OddNotice$Reader") hx hb hK hP 6 1 rfl rfl (Nat.le_of_ble_eq_true rfl) (Nat.le_of_ble_eq_true rfl) rfl dX4_readerOf_26 ?_
      refine lv_astore_n (lv' := [(3, .ref (o 15)), (0, .ref (o 0)), (1, .int (nI 1)), (2, .int (nI 6))]) hx hb dX4_readerOf_27 rfl hl (by decide) rfl (fun ls hl => ?_)
      refine lv_iload_n hx hb dX4_readerOf_28 rfl (lv_at hl 3 rfl) ?_
      refine lv_tableIn (tgt := 135) (off := 106) hx hb dX4_readerOf_29 (by decide) (by decide) (by decide) (by decide) ?_
      refine lv_aload_n hx hb dX4_readerOf_135 rfl (lv_at hl 0 rfl) ?_
      refine va_get (D := D) (ci := 1) (v := .int (nI (v 8 2))) (C := RX1) (T := TX1) (N := 10) hx hb hts inX4_readerOf_X1 hown hK hP 15 rfl rfl 2 (by decide) (hts (.fieldLink RX4 199 "OddNotice$Reader" "holds" "Z") (List.mem_of_getElem? (i := 14) (by decide +kernel))) (fun _ h9 => h9) rfl dX4_readerOf_136 ?_
      refine o_if_eq (tgt := 159) hx hb dX4_readerOf_139 (by decide) (by omega) (fun c_59 => ?_) (fun c_59 => ?_)
      · skip
        refine o_const (k := 4294967295) hx hb dX4_readerOf_159 (by decide) ?_
        exact W.iret (v := nI 4294967295) hx hb hrt (fun t ht hW => ⟨_, rfl, (congrArg nI (Eq.symm (show c_rdr v 1 6 = _ from if_pos c_59))), ht⟩) (fun _ h => nomatch h) dX4_readerOf_160
      · skip
        refine lv_aload_n hx hb dX4_readerOf_142 rfl (lv_at hl 1 rfl) ?_
        refine va_get (D := D) (ci := 4) (v := .ref (o 5)) (C := RX4) (T := TX4) (N := 6) hx hb hts inX4_readerOf_X4 hown hK hP 0 rfl rfl 0 (by decide) (hts (.fieldLink RX4 10 "OddNotice" "now" "LOddNotice$State;") (List.mem_of_getElem? (i := 5) (by decide +kernel))) (fun _ h9 => h9) rfl dX4_readerOf_143 ?_
        refine va_get (D := D) (ci := 2) (v := .ref (o 6)) (C := RX2) (T := TX2) (N := 4) hx hb hts inX4_readerOf_X2 hown hK hP 5 rfl rfl 0 (by decide) (hts (.fieldLink RX4 42 "OddNotice$State" "board" "LOddNotice$Board;") (List.mem_of_getElem? (i := 15) (by decide +kernel))) (fun _ h9 => h9) rfl dX4_readerOf_146 ?_
        refine lv_aload_n hx hb dX4_readerOf_149 rfl (lv_at hl 0 rfl) ?_
        refine va_get (D := D) (ci := 1) (v := .ref (o 16)) (C := RX1) (T := TX1) (N := 10) hx hb hts inX4_readerOf_X1 hown hK hP 15 rfl rfl 8 (by decide) (hts (.fieldLink RX4 202 "OddNotice$Reader" "held" "[I") (List.mem_of_getElem? (i := 16) (by decide +kernel))) (fun _ h9 => h9) rfl dX4_readerOf_150 ?_
        refine o_ri (va_runV (As := [.ref (o 16)]) (rest := []) ⟨hx, hb, hml, hown, hts⟩ (k_X0_latestSame l D cI cR cS cL (fun k => o (k + 6)) v (o 16) (v 9) (by show v 0 0 < 2 ^ 30; first | assumption | omega)) (cwV 1 hts gX4_readerOf_X0_latestSame rfl rfl rfl (by decide +kernel) ⟨Nat.le_of_ble_eq_true rfl, Nat.le_of_ble_eq_true rfl⟩) (o_v (o_pR hK hN (hP.sub (ws' := (wB (fun k => o (k + 6)) cI v ++ [oa cI (o 16) 5 (v 9)])) [7, 8, 9, 10, 11, 16] rfl)) (va_recv hK hP (ci := 0) (q0 := 7) rfl rfl)) rfl rfl hl.1 rfl (lv_room (Nat.le_of_ble_eq_true rfl)) dX4_readerOf_153 ⟨Nat.zero_le _, Nat.zero_le _⟩) (fun r_61 e_60 => ?_)
        have e_60 : r_61 = nI (b_ls (v 4) (v 9) (v 0 0 / 2) 16 0) := e_60
        subst e_60
        have gv_62 := (b_ls_lt (by omega) 16 0 : b_ls (v 4) (v 9) (v 0 0 / 2) 16 0 < 2 ^ 32)
        refine lv_goto (tgt := 160) hx hb dX4_readerOf_156 (by decide) ?_
        exact W.iret (v := nI (b_ls (v 4) (v 9) (v 0 0 / 2) 16 0)) hx hb hrt (fun t ht hW => ⟨_, rfl, (congrArg nI (Eq.symm (show c_rdr v 1 6 = _ from if_neg c_59))), ht⟩) (fun _ h => nomatch h) dX4_readerOf_160
    · skip
      exfalso
      omega
  · skip
    have hSc := hSI
    obtain ⟨⟨i1, i2, i3, hpl⟩, i5⟩ := hSI
    have i12 := i5 1 (by omega)
    unfold s_IR at i12
    simp only [Nat.reduceMul, Nat.reduceAdd] at i12
    refine lv_iload_n hx hb dX4_readerOf_0 rfl (lv_at hl 1 rfl) ?_
    refine o_const (k := 4) hx hb dX4_readerOf_1 (by decide) ?_
    refine o_ri (va_runS (As := [.int (nI 1), .int (nI 4)]) (rest := []) ⟨hx, hb, hml, hown, hts⟩ (k_X4_isBelow l D cI cR cS cL 1 4 (by show 1 < 2 ^ 32; first | assumption | omega) (by show 4 < 2 ^ 31; first | assumption | omega)) (va_cwS 2 hts gX4_readerOf_X4_isBelow rfl rfl rfl (by decide +kernel) ⟨Nat.le_of_ble_eq_true rfl, Nat.le_of_ble_eq_true rfl⟩) (o_pR hK hN (hP.sub (ws' := []) [] rfl)) rfl rfl hl.1 rfl (lv_room (Nat.le_of_ble_eq_true rfl)) dX4_readerOf_2 ⟨Nat.zero_le _, Nat.zero_le _⟩) (fun r_64 e_63 => ?_)
    have e_63 : r_64 = nI (bn (1 < 4)) := e_63
    subst e_63
    refine o_ifnz (tgt := 18) hx hb dX4_readerOf_5 (by decide) (fun c_65 => ?_) (fun c_65 => ?_)
    · skip
      refine lv_aload_n hx hb dX4_readerOf_18 rfl (lv_at hl 0 rfl) ?_
      refine va_get (D := D) (ci := 4) (v := .ref (o 5)) (C := RX4) (T := TX4) (N := 6) hx hb hts inX4_readerOf_X4 hown hK hP 0 rfl rfl 0 (by decide) (hts (.fieldLink RX4 10 "OddNotice" "now" "LOddNotice$State;") (List.mem_of_getElem? (i := 5) (by decide +kernel))) (fun _ h9 => h9) rfl dX4_readerOf_19 ?_
      refine va_get (D := D) (ci := 2) (v := .ref (o 11)) (C := RX2) (T := TX2) (N := 4) hx hb hts inX4_readerOf_X2 hown hK hP 5 rfl rfl 1 (by decide) (hts (.fieldLink RX4 91 "OddNotice$State" "readers" "[LOddNotice$Reader;") (List.mem_of_getElem? (i := 6) (by decide +kernel))) (fun _ h9 => h9) rfl dX4_readerOf_22 ?_
      refine lv_iload_n hx hb dX4_readerOf_25 rfl (lv_at hl 1 rfl) ?_
      refine o_aldq (v := (o 15)) (C := "OddNotice$Reader") hx hb hK hP 6 1 rfl rfl (Nat.le_of_ble_eq_true rfl) (Nat.le_of_ble_eq_true rfl) rfl dX4_readerOf_26 ?_
      refine lv_astore_n (lv' := [(3, .ref (o 15)), (0, .ref (o 0)), (1, .int (nI 1)), (2, .int (nI 7))]) hx hb dX4_readerOf_27 rfl hl (by decide) rfl (fun ls hl => ?_)
      refine lv_iload_n hx hb dX4_readerOf_28 rfl (lv_at hl 3 rfl) ?_
      refine lv_tableIn (tgt := 161) (off := 132) hx hb dX4_readerOf_29 (by decide) (by decide) (by decide) (by decide) ?_
      refine lv_aload_n hx hb dX4_readerOf_161 rfl (lv_at hl 0 rfl) ?_
      refine va_get (D := D) (ci := 1) (v := .int (nI (v 8 0))) (C := RX1) (T := TX1) (N := 10) hx hb hts inX4_readerOf_X1 hown hK hP 15 rfl rfl 0 (by decide) (hts (.fieldLink RX4 95 "OddNotice$Reader" "heeds" "Z") (List.mem_of_getElem? (i := 17) (by decide +kernel))) (fun _ h9 => h9) rfl dX4_readerOf_162 ?_
      refine o_if_eq (tgt := 172) hx hb dX4_readerOf_165 (by decide) (by omega) (fun c_66 => ?_) (fun c_66 => ?_)
      · skip
        refine o_const (k := 0) hx hb dX4_readerOf_172 (by decide) ?_
        exact W.iret (v := nI 0) hx hb hrt (fun t ht hW => ⟨_, rfl, (congrArg nI (Eq.symm (show c_rdr v 1 7 = _ from if_pos c_66))), ht⟩) (fun _ h => nomatch h) dX4_readerOf_173
      · skip
        refine o_const (k := 1) hx hb dX4_readerOf_168 (by decide) ?_
        refine lv_goto (tgt := 173) hx hb dX4_readerOf_169 (by decide) ?_
        exact W.iret (v := nI 1) hx hb hrt (fun t ht hW => ⟨_, rfl, (congrArg nI (Eq.symm (show c_rdr v 1 7 = _ from if_neg c_66))), ht⟩) (fun _ h => nomatch h) dX4_readerOf_173
    · skip
      exfalso
      omega
  · skip
    have hSc := hSI
    obtain ⟨⟨i1, i2, i3, hpl⟩, i5⟩ := hSI
    have i12 := i5 2 (by omega)
    unfold s_IR at i12
    simp only [Nat.reduceMul, Nat.reduceAdd] at i12
    refine lv_iload_n hx hb dX4_readerOf_0 rfl (lv_at hl 1 rfl) ?_
    refine o_const (k := 4) hx hb dX4_readerOf_1 (by decide) ?_
    refine o_ri (va_runS (As := [.int (nI 2), .int (nI 4)]) (rest := []) ⟨hx, hb, hml, hown, hts⟩ (k_X4_isBelow l D cI cR cS cL 2 4 (by show 2 < 2 ^ 32; first | assumption | omega) (by show 4 < 2 ^ 31; first | assumption | omega)) (va_cwS 2 hts gX4_readerOf_X4_isBelow rfl rfl rfl (by decide +kernel) ⟨Nat.le_of_ble_eq_true rfl, Nat.le_of_ble_eq_true rfl⟩) (o_pR hK hN (hP.sub (ws' := []) [] rfl)) rfl rfl hl.1 rfl (lv_room (Nat.le_of_ble_eq_true rfl)) dX4_readerOf_2 ⟨Nat.zero_le _, Nat.zero_le _⟩) (fun r_68 e_67 => ?_)
    have e_67 : r_68 = nI (bn (2 < 4)) := e_67
    subst e_67
    refine o_ifnz (tgt := 18) hx hb dX4_readerOf_5 (by decide) (fun c_69 => ?_) (fun c_69 => ?_)
    · skip
      refine lv_aload_n hx hb dX4_readerOf_18 rfl (lv_at hl 0 rfl) ?_
      refine va_get (D := D) (ci := 4) (v := .ref (o 5)) (C := RX4) (T := TX4) (N := 6) hx hb hts inX4_readerOf_X4 hown hK hP 0 rfl rfl 0 (by decide) (hts (.fieldLink RX4 10 "OddNotice" "now" "LOddNotice$State;") (List.mem_of_getElem? (i := 5) (by decide +kernel))) (fun _ h9 => h9) rfl dX4_readerOf_19 ?_
      refine va_get (D := D) (ci := 2) (v := .ref (o 11)) (C := RX2) (T := TX2) (N := 4) hx hb hts inX4_readerOf_X2 hown hK hP 5 rfl rfl 1 (by decide) (hts (.fieldLink RX4 91 "OddNotice$State" "readers" "[LOddNotice$Reader;") (List.mem_of_getElem? (i := 6) (by decide +kernel))) (fun _ h9 => h9) rfl dX4_readerOf_22 ?_
      refine lv_iload_n hx hb dX4_readerOf_25 rfl (lv_at hl 1 rfl) ?_
      refine o_aldq (v := (o 18)) (C := "OddNotice$Reader") hx hb hK hP 6 1 rfl rfl (Nat.le_of_ble_eq_true rfl) (Nat.le_of_ble_eq_true rfl) rfl dX4_readerOf_26 ?_
      refine lv_astore_n (lv' := [(3, .ref (o 18)), (0, .ref (o 0)), (1, .int (nI 2)), (2, .int (nI 0))]) hx hb dX4_readerOf_27 rfl hl (by decide) rfl (fun ls hl => ?_)
      refine lv_iload_n hx hb dX4_readerOf_28 rfl (lv_at hl 3 rfl) ?_
      refine lv_tableIn (tgt := 76) (off := 47) hx hb dX4_readerOf_29 (by decide) (by decide) (by decide) (by decide) ?_
      refine lv_aload_n hx hb dX4_readerOf_76 rfl (lv_at hl 0 rfl) ?_
      refine lv_aload_n hx hb dX4_readerOf_77 rfl (lv_at hl 1 rfl) ?_
      refine va_get (D := D) (ci := 4) (v := .ref (o 5)) (C := RX4) (T := TX4) (N := 6) hx hb hts inX4_readerOf_X4 hown hK hP 0 rfl rfl 0 (by decide) (hts (.fieldLink RX4 10 "OddNotice" "now" "LOddNotice$State;") (List.mem_of_getElem? (i := 5) (by decide +kernel))) (fun _ h9 => h9) rfl dX4_readerOf_78 ?_
      refine va_get (D := D) (ci := 2) (v := .int (nI (v 0 2))) (C := RX2) (T := TX2) (N := 4) hx hb hts inX4_readerOf_X2 hown hK hP 5 rfl rfl 3 (by decide) (hts (.fieldLink RX4 122 "OddNotice$State" "setting" "I") (List.mem_of_getElem? (i := 7) (by decide +kernel))) (fun _ h9 => h9) rfl dX4_readerOf_81 ?_
      refine o_ri (va_runV (As := [.int (nI (v 0 2))]) (rest := []) ⟨hx, hb, hml, hown, hts⟩ (k_X1_doing l D cI cR cS cL (fun k => o (k + 18)) (fun k => v (k + 11)) (v 0 2) (by show (v 11 0) < 2 ^ 31; first | assumption | omega) (by show (v 11 1) < 2 ^ 31; first | assumption | omega) (by show (v 11 5) < 2 ^ 31; first | assumption | omega) (by show (v 0 2) < 2 ^ 31; first | assumption | omega)) (cwV 1 hts gX4_readerOf_X1_doing rfl rfl rfl (by decide +kernel) ⟨Nat.le_of_ble_eq_true rfl, Nat.le_of_ble_eq_true rfl⟩) (o_v (o_pR hK hN (hP.sub (ws' := (wR (fun k => o (k + 18)) cI (fun k => v (k + 11)))) [18, 19, 20] rfl)) (va_recv hK hP (ci := 1) (q0 := 18) rfl rfl)) rfl rfl hl.1 rfl (lv_room (Nat.le_of_ble_eq_true rfl)) dX4_readerOf_84 ⟨Nat.zero_le _, Nat.zero_le _⟩) (fun r_71 e_70 => ?_)
      have e_70 : r_71 = nI (r_doing (fun k => v (k + 11)) (v 0 2)) := e_70
      subst e_70
      exact W.iret (v := nI (r_doing (fun k => v (k + 11)) (v 0 2))) hx hb hrt (fun t ht hW => ⟨_, rfl, rfl, ht⟩) (fun _ h => nomatch h) dX4_readerOf_87
    · skip
      exfalso
      omega
  · skip
    have hSc := hSI
    obtain ⟨⟨i1, i2, i3, hpl⟩, i5⟩ := hSI
    have i12 := i5 2 (by omega)
    unfold s_IR at i12
    simp only [Nat.reduceMul, Nat.reduceAdd] at i12
    refine lv_iload_n hx hb dX4_readerOf_0 rfl (lv_at hl 1 rfl) ?_
    refine o_const (k := 4) hx hb dX4_readerOf_1 (by decide) ?_
    refine o_ri (va_runS (As := [.int (nI 2), .int (nI 4)]) (rest := []) ⟨hx, hb, hml, hown, hts⟩ (k_X4_isBelow l D cI cR cS cL 2 4 (by show 2 < 2 ^ 32; first | assumption | omega) (by show 4 < 2 ^ 31; first | assumption | omega)) (va_cwS 2 hts gX4_readerOf_X4_isBelow rfl rfl rfl (by decide +kernel) ⟨Nat.le_of_ble_eq_true rfl, Nat.le_of_ble_eq_true rfl⟩) (o_pR hK hN (hP.sub (ws' := []) [] rfl)) rfl rfl hl.1 rfl (lv_room (Nat.le_of_ble_eq_true rfl)) dX4_readerOf_2 ⟨Nat.zero_le _, Nat.zero_le _⟩) (fun r_73 e_72 => ?_)
    have e_72 : r_73 = nI (bn (2 < 4)) := e_72
    subst e_72
    refine o_ifnz (tgt := 18) hx hb dX4_readerOf_5 (by decide) (fun c_74 => ?_) (fun c_74 => ?_)
    · skip
      refine lv_aload_n hx hb dX4_readerOf_18 rfl (lv_at hl 0 rfl) ?_
      refine va_get (D := D) (ci := 4) (v := .ref (o 5)) (C := RX4) (T := TX4) (N := 6) hx hb hts inX4_readerOf_X4 hown hK hP 0 rfl rfl 0 (by decide) (hts (.fieldLink RX4 10 "OddNotice" "now" "LOddNotice$State;") (List.mem_of_getElem? (i := 5) (by decide +kernel))) (fun _ h9 => h9) rfl dX4_readerOf_19 ?_
      refine va_get (D := D) (ci := 2) (v := .ref (o 11)) (C := RX2) (T := TX2) (N := 4) hx hb hts inX4_readerOf_X2 hown hK hP 5 rfl rfl 1 (by decide) (hts (.fieldLink RX4 91 "OddNotice$State" "readers" "[LOddNotice$Reader;") (List.mem_of_getElem? (i := 6) (by decide +kernel))) (fun _ h9 => h9) rfl dX4_readerOf_22 ?_
      refine lv_iload_n hx hb dX4_readerOf_25 rfl (lv_at hl 1 rfl) ?_
      refine o_aldq (v := (o 18)) (C := "OddNotice$Reader") hx hb hK hP 6 1 rfl rfl (Nat.le_of_ble_eq_true rfl) (Nat.le_of_ble_eq_true rfl) rfl dX4_readerOf_26 ?_
      refine lv_astore_n (lv' := [(3, .ref (o 18)), (0, .ref (o 0)), (1, .int (nI 2)), (2, .int (nI 1))]) hx hb dX4_readerOf_27 rfl hl (by decide) rfl (fun ls hl => ?_)
      refine lv_iload_n hx hb dX4_readerOf_28 rfl (lv_at hl 3 rfl) ?_
      refine lv_tableIn (tgt := 88) (off := 59) hx hb dX4_readerOf_29 (by decide) (by decide) (by decide) (by decide) ?_
      refine lv_aload_n hx hb dX4_readerOf_88 rfl (lv_at hl 0 rfl) ?_
      refine va_get (D := D) (ci := 1) (v := .int (nI (v 11 1))) (C := RX1) (T := TX1) (N := 10) hx hb hts inX4_readerOf_X1 hown hK hP 18 rfl rfl 1 (by decide) (hts (.fieldLink RX4 114 "OddNotice$Reader" "reads" "Z") (List.mem_of_getElem? (i := 8) (by decide +kernel))) (fun _ h9 => h9) rfl dX4_readerOf_89 ?_
      refine o_if_eq (tgt := 102) hx hb dX4_readerOf_92 (by decide) (by omega) (fun c_75 => ?_) (fun c_75 => ?_)
      · skip
        refine o_const (k := 4294967295) hx hb dX4_readerOf_102 (by decide) ?_
        exact W.iret (v := nI 4294967295) hx hb hrt (fun t ht hW => ⟨_, rfl, (congrArg nI (Eq.symm (show c_rdr v 2 1 = _ from if_pos c_75))), ht⟩) (fun _ h => nomatch h) dX4_readerOf_103
      · skip
        refine lv_aload_n hx hb dX4_readerOf_95 rfl (lv_at hl 0 rfl) ?_
        refine va_get (D := D) (ci := 1) (v := .int (nI (v 11 3))) (C := RX1) (T := TX1) (N := 10) hx hb hts inX4_readerOf_X1 hown hK hP 18 rfl rfl 3 (by decide) (hts (.fieldLink RX4 184 "OddNotice$Reader" "noted" "I") (List.mem_of_getElem? (i := 9) (by decide +kernel))) (fun _ h9 => h9) rfl dX4_readerOf_96 ?_
        refine lv_goto (tgt := 103) hx hb dX4_readerOf_99 (by decide) ?_
        exact W.iret (v := nI (v 11 3)) hx hb hrt (fun t ht hW => ⟨_, rfl, (congrArg nI (Eq.symm (show c_rdr v 2 1 = _ from if_neg c_75))), ht⟩) (fun _ h => nomatch h) dX4_readerOf_103
    · skip
      exfalso
      omega
  · skip
    have hSc := hSI
    obtain ⟨⟨i1, i2, i3, hpl⟩, i5⟩ := hSI
    have i12 := i5 2 (by omega)
    unfold s_IR at i12
    simp only [Nat.reduceMul, Nat.reduceAdd] at i12
    refine lv_iload_n hx hb dX4_readerOf_0 rfl (lv_at hl 1 rfl) ?_
    refine o_const (k := 4) hx hb dX4_readerOf_1 (by decide) ?_
    refine o_ri (va_runS (As := [.int (nI 2), .int (nI 4)]) (rest := []) ⟨hx, hb, hml, hown, hts⟩ (k_X4_isBelow l D cI cR cS cL 2 4 (by show 2 < 2 ^ 32; first | assumption | omega) (by show 4 < 2 ^ 31; first | assumption | omega)) (va_cwS 2 hts gX4_readerOf_X4_isBelow rfl rfl rfl (by decide +kernel) ⟨Nat.le_of_ble_eq_true rfl, Nat.le_of_ble_eq_true rfl⟩) (o_pR hK hN (hP.sub (ws' := []) [] rfl)) rfl rfl hl.1 rfl (lv_room (Nat.le_of_ble_eq_true rfl)) dX4_readerOf_2 ⟨Nat.zero_le _, Nat.zero_le _⟩) (fun r_77 e_76 => ?_)
    have e_76 : r_77 = nI (bn (2 < 4)) := e_76
    subst e_76
    refine o_ifnz (tgt := 18) hx hb dX4_readerOf_5 (by decide) (fun c_78 => ?_) (fun c_78 => ?_)
    · skip
      refine lv_aload_n hx hb dX4_readerOf_18 rfl (lv_at hl 0 rfl) ?_
      refine va_get (D := D) (ci := 4) (v := .ref (o 5)) (C := RX4) (T := TX4) (N := 6) hx hb hts inX4_readerOf_X4 hown hK hP 0 rfl rfl 0 (by decide) (hts (.fieldLink RX4 10 "OddNotice" "now" "LOddNotice$State;") (List.mem_of_getElem? (i := 5) (by decide +kernel))) (fun _ h9 => h9) rfl dX4_readerOf_19 ?_
      refine va_get (D := D) (ci := 2) (v := .ref (o 11)) (C := RX2) (T := TX2) (N := 4) hx hb hts inX4_readerOf_X2 hown hK hP 5 rfl rfl 1 (by decide) (hts (.fieldLink RX4 91 "OddNotice$State" "readers" "[LOddNotice$Reader;") (List.mem_of_getElem? (i := 6) (by decide +kernel))) (fun _ h9 => h9) rfl dX4_readerOf_22 ?_
      refine lv_iload_n hx hb dX4_readerOf_25 rfl (lv_at hl 1 rfl) ?_
      refine o_aldq (v := (o 18)) (C := "OddNotice$Reader") hx hb hK hP 6 1 rfl rfl (Nat.le_of_ble_eq_true rfl) (Nat.le_of_ble_eq_true rfl) rfl dX4_readerOf_26 ?_
      refine lv_astore_n (lv' := [(3, .ref (o 18)), (0, .ref (o 0)), (1, .int (nI 2)), (2, .int (nI 2))]) hx hb dX4_readerOf_27 rfl hl (by decide) rfl (fun ls hl => ?_)
      refine lv_iload_n hx hb dX4_readerOf_28 rfl (lv_at hl 3 rfl) ?_
      refine lv_tableIn (tgt := 104) (off := 75) hx hb dX4_readerOf_29 (by decide) (by decide) (by decide) (by decide) ?_
      refine lv_aload_n hx hb dX4_readerOf_104 rfl (lv_at hl 0 rfl) ?_
      refine va_get (D := D) (ci := 1) (v := .int (nI (v 11 1))) (C := RX1) (T := TX1) (N := 10) hx hb hts inX4_readerOf_X1 hown hK hP 18 rfl rfl 1 (by decide) (hts (.fieldLink RX4 114 "OddNotice$Reader" "reads" "Z") (List.mem_of_getElem? (i := 8) (by decide +kernel))) (fun _ h9 => h9) rfl dX4_readerOf_105 ?_
      refine o_if_eq (tgt := 118) hx hb dX4_readerOf_108 (by decide) (by omega) (fun c_79 => ?_) (fun c_79 => ?_)
      · skip
        refine o_const (k := 4294967295) hx hb dX4_readerOf_118 (by decide) ?_
        exact W.iret (v := nI 4294967295) hx hb hrt (fun t ht hW => ⟨_, rfl, (congrArg nI (Eq.symm (show c_rdr v 2 2 = _ from if_pos c_79))), ht⟩) (fun _ h => nomatch h) dX4_readerOf_119
      · skip
        refine lv_aload_n hx hb dX4_readerOf_111 rfl (lv_at hl 0 rfl) ?_
        refine va_get (D := D) (ci := 1) (v := .int (nI (v 11 4))) (C := RX1) (T := TX1) (N := 10) hx hb hts inX4_readerOf_X1 hown hK hP 18 rfl rfl 4 (by decide) (hts (.fieldLink RX4 187 "OddNotice$Reader" "taken" "I") (List.mem_of_getElem? (i := 10) (by decide +kernel))) (fun _ h9 => h9) rfl dX4_readerOf_112 ?_
        refine lv_goto (tgt := 119) hx hb dX4_readerOf_115 (by decide) ?_
        exact W.iret (v := nI (v 11 4)) hx hb hrt (fun t ht hW => ⟨_, rfl, (congrArg nI (Eq.symm (show c_rdr v 2 2 = _ from if_neg c_79))), ht⟩) (fun _ h => nomatch h) dX4_readerOf_119
    · skip
      exfalso
      omega
  · skip
    have hSc := hSI
    obtain ⟨⟨i1, i2, i3, hpl⟩, i5⟩ := hSI
    have i12 := i5 2 (by omega)
    unfold s_IR at i12
    simp only [Nat.reduceMul, Nat.reduceAdd] at i12
    refine lv_iload_n hx hb dX4_readerOf_0 rfl (lv_at hl 1 rfl) ?_
    refine o_const (k := 4) hx hb dX4_readerOf_1 (by decide) ?_
    refine o_ri (va_runS (As := [.int (nI 2), .int (nI 4)]) (rest := []) ⟨hx, hb, hml, hown, hts⟩ (k_X4_isBelow l D cI cR cS cL 2 4 (by show 2 < 2 ^ 32; first | assumption | omega) (by show 4 < 2 ^ 31; first | assumption | omega)) (va_cwS 2 hts gX4_readerOf_X4_isBelow rfl rfl rfl (by decide +kernel) ⟨Nat.le_of_ble_eq_true rfl, Nat.le_of_ble_eq_true rfl⟩) (o_pR hK hN (hP.sub (ws' := []) [] rfl)) rfl rfl hl.1 rfl (lv_room (Nat.le_of_ble_eq_true rfl)) dX4_readerOf_2 ⟨Nat.zero_le _, Nat.zero_le _⟩) (fun r_81 e_80 => ?_)
    have e_80 : r_81 = nI (bn (2 < 4)) := e_80
    subst e_80
    refine o_ifnz (tgt := 18) hx hb dX4_readerOf_5 (by decide) (fun c_82 => ?_) (fun c_82 => ?_)
    · skip
      refine lv_aload_n hx hb dX4_readerOf_18 rfl (lv_at hl 0 rfl) ?_
      refine va_get (D := D) (ci := 4) (v := .ref (o 5)) (C := RX4) (T := TX4) (N := 6) hx hb hts inX4_readerOf_X4 hown hK hP 0 rfl rfl 0 (by decide) (hts (.fieldLink RX4 10 "OddNotice" "now" "LOddNotice$State;") (List.mem_of_getElem? (i := 5) (by decide +kernel))) (fun _ h9 => h9) rfl dX4_readerOf_19 ?_
      refine va_get (D := D) (ci := 2) (v := .ref (o 11)) (C := RX2) (T := TX2) (N := 4) hx hb hts inX4_readerOf_X2 hown hK hP 5 rfl rfl 1 (by decide) (hts (.fieldLink RX4 91 "OddNotice$State" "readers" "[LOddNotice$Reader;") (List.mem_of_getElem? (i := 6) (by decide +kernel))) (fun _ h9 => h9) rfl dX4_readerOf_22 ?_
      refine lv_iload_n hx hb dX4_readerOf_25 rfl (lv_at hl 1 rfl) ?_
      refine o_aldq (v := (o 18)) (C := "OddNotice$Reader") hx hb hK hP 6 1 rfl rfl (Nat.le_of_ble_eq_true rfl) (Nat.le_of_ble_eq_true rfl) rfl dX4_readerOf_26 ?_
      refine lv_astore_n (lv' := [(3, .ref (o 18)), (0, .ref (o 0)), (1, .int (nI 2)), (2, .int (nI 3))]) hx hb dX4_readerOf_27 rfl hl (by decide) rfl (fun ls hl => ?_)
      refine lv_iload_n hx hb dX4_readerOf_28 rfl (lv_at hl 3 rfl) ?_
      refine lv_tableIn (tgt := 120) (off := 91) hx hb dX4_readerOf_29 (by decide) (by decide) (by decide) (by decide) ?_
      refine lv_aload_n hx hb dX4_readerOf_120 rfl (lv_at hl 0 rfl) ?_
      refine va_get (D := D) (ci := 1) (v := .int (nI (v 11 5))) (C := RX1) (T := TX1) (N := 10) hx hb hts inX4_readerOf_X1 hown hK hP 18 rfl rfl 5 (by decide) (hts (.fieldLink RX4 190 "OddNotice$Reader" "failedInRow" "I") (List.mem_of_getElem? (i := 11) (by decide +kernel))) (fun _ h9 => h9) rfl dX4_readerOf_121 ?_
      exact W.iret (v := nI (v 11 5)) hx hb hrt (fun t ht hW => ⟨_, rfl, rfl, ht⟩) (fun _ h => nomatch h) dX4_readerOf_124
    · skip
      exfalso
      omega
  · skip
    have hSc := hSI
    obtain ⟨⟨i1, i2, i3, hpl⟩, i5⟩ := hSI
    have i12 := i5 2 (by omega)
    unfold s_IR at i12
    simp only [Nat.reduceMul, Nat.reduceAdd] at i12
    refine lv_iload_n hx hb dX4_readerOf_0 rfl (lv_at hl 1 rfl) ?_
    refine o_const (k := 4) hx hb dX4_readerOf_1 (by decide) ?_
    refine o_ri (va_runS (As := [.int (nI 2), .int (nI 4)]) (rest := []) ⟨hx, hb, hml, hown, hts⟩ (k_X4_isBelow l D cI cR cS cL 2 4 (by show 2 < 2 ^ 32; first | assumption | omega) (by show 4 < 2 ^ 31; first | assumption | omega)) (va_cwS 2 hts gX4_readerOf_X4_isBelow rfl rfl rfl (by decide +kernel) ⟨Nat.le_of_ble_eq_true rfl, Nat.le_of_ble_eq_true rfl⟩) (o_pR hK hN (hP.sub (ws' := []) [] rfl)) rfl rfl hl.1 rfl (lv_room (Nat.le_of_ble_eq_true rfl)) dX4_readerOf_2 ⟨Nat.zero_le _, Nat.zero_le _⟩) (fun r_84 e_83 => ?_)
    have e_83 : r_84 = nI (bn (2 < 4)) := e_83
    subst e_83
    refine o_ifnz (tgt := 18) hx hb dX4_readerOf_5 (by decide) (fun c_85 => ?_) (fun c_85 => ?_)
    · skip
      refine lv_aload_n hx hb dX4_readerOf_18 rfl (lv_at hl 0 rfl) ?_
      refine va_get (D := D) (ci := 4) (v := .ref (o 5)) (C := RX4) (T := TX4) (N := 6) hx hb hts inX4_readerOf_X4 hown hK hP 0 rfl rfl 0 (by decide) (hts (.fieldLink RX4 10 "OddNotice" "now" "LOddNotice$State;") (List.mem_of_getElem? (i := 5) (by decide +kernel))) (fun _ h9 => h9) rfl dX4_readerOf_19 ?_
      refine va_get (D := D) (ci := 2) (v := .ref (o 11)) (C := RX2) (T := TX2) (N := 4) hx hb hts inX4_readerOf_X2 hown hK hP 5 rfl rfl 1 (by decide) (hts (.fieldLink RX4 91 "OddNotice$State" "readers" "[LOddNotice$Reader;") (List.mem_of_getElem? (i := 6) (by decide +kernel))) (fun _ h9 => h9) rfl dX4_readerOf_22 ?_
      refine lv_iload_n hx hb dX4_readerOf_25 rfl (lv_at hl 1 rfl) ?_
      refine o_aldq (v := (o 18)) (C := "OddNotice$Reader") hx hb hK hP 6 1 rfl rfl (Nat.le_of_ble_eq_true rfl) (Nat.le_of_ble_eq_true rfl) rfl dX4_readerOf_26 ?_
      refine lv_astore_n (lv' := [(3, .ref (o 18)), (0, .ref (o 0)), (1, .int (nI 2)), (2, .int (nI 4))]) hx hb dX4_readerOf_27 rfl hl (by decide) rfl (fun ls hl => ?_)
      refine lv_iload_n hx hb dX4_readerOf_28 rfl (lv_at hl 3 rfl) ?_
      refine lv_tableIn (tgt := 125) (off := 96) hx hb dX4_readerOf_29 (by decide) (by decide) (by decide) (by decide) ?_
      refine lv_aload_n hx hb dX4_readerOf_125 rfl (lv_at hl 0 rfl) ?_
      refine va_get (D := D) (ci := 1) (v := .int (nI (v 11 6))) (C := RX1) (T := TX1) (N := 10) hx hb hts inX4_readerOf_X1 hown hK hP 18 rfl rfl 6 (by decide) (hts (.fieldLink RX4 193 "OddNotice$Reader" "failed" "I") (List.mem_of_getElem? (i := 12) (by decide +kernel))) (fun _ h9 => h9) rfl dX4_readerOf_126 ?_
      exact W.iret (v := nI (v 11 6)) hx hb hrt (fun t ht hW => ⟨_, rfl, rfl, ht⟩) (fun _ h => nomatch h) dX4_readerOf_129
    · skip
      exfalso
      omega
  · skip
    have hSc := hSI
    obtain ⟨⟨i1, i2, i3, hpl⟩, i5⟩ := hSI
    have i12 := i5 2 (by omega)
    unfold s_IR at i12
    simp only [Nat.reduceMul, Nat.reduceAdd] at i12
    refine lv_iload_n hx hb dX4_readerOf_0 rfl (lv_at hl 1 rfl) ?_
    refine o_const (k := 4) hx hb dX4_readerOf_1 (by decide) ?_
    refine o_ri (va_runS (As := [.int (nI 2), .int (nI 4)]) (rest := []) ⟨hx, hb, hml, hown, hts⟩ (k_X4_isBelow l D cI cR cS cL 2 4 (by show 2 < 2 ^ 32; first | assumption | omega) (by show 4 < 2 ^ 31; first | assumption | omega)) (va_cwS 2 hts gX4_readerOf_X4_isBelow rfl rfl rfl (by decide +kernel) ⟨Nat.le_of_ble_eq_true rfl, Nat.le_of_ble_eq_true rfl⟩) (o_pR hK hN (hP.sub (ws' := []) [] rfl)) rfl rfl hl.1 rfl (lv_room (Nat.le_of_ble_eq_true rfl)) dX4_readerOf_2 ⟨Nat.zero_le _, Nat.zero_le _⟩) (fun r_87 e_86 => ?_)
    have e_86 : r_87 = nI (bn (2 < 4)) := e_86
    subst e_86
    refine o_ifnz (tgt := 18) hx hb dX4_readerOf_5 (by decide) (fun c_88 => ?_) (fun c_88 => ?_)
    · skip
      refine lv_aload_n hx hb dX4_readerOf_18 rfl (lv_at hl 0 rfl) ?_
      refine va_get (D := D) (ci := 4) (v := .ref (o 5)) (C := RX4) (T := TX4) (N := 6) hx hb hts inX4_readerOf_X4 hown hK hP 0 rfl rfl 0 (by decide) (hts (.fieldLink RX4 10 "OddNotice" "now" "LOddNotice$State;") (List.mem_of_getElem? (i := 5) (by decide +kernel))) (fun _ h9 => h9) rfl dX4_readerOf_19 ?_
      refine va_get (D := D) (ci := 2) (v := .ref (o 11)) (C := RX2) (T := TX2) (N := 4) hx hb hts inX4_readerOf_X2 hown hK hP 5 rfl rfl 1 (by decide) (hts (.fieldLink RX4 91 "OddNotice$State" "readers" "[LOddNotice$Reader;") (List.mem_of_getElem? (i := 6) (by decide +kernel))) (fun _ h9 => h9) rfl dX4_readerOf_22 ?_
      refine lv_iload_n hx hb dX4_readerOf_25 rfl (lv_at hl 1 rfl) ?_
      refine o_aldq (v := (o 18)) (C := "OddNotice$Reader") hx hb hK hP 6 1 rfl rfl (Nat.le_of_ble_eq_true rfl) (Nat.le_of_ble_eq_true rfl) rfl dX4_readerOf_26 ?_
      refine lv_astore_n (lv' := [(3, .ref (o 18)), (0, .ref (o 0)), (1, .int (nI 2)), (2, .int (nI 5))]) hx hb dX4_readerOf_27 rfl hl (by decide) rfl (fun ls hl => ?_)
      refine lv_iload_n hx hb dX4_readerOf_28 rfl (lv_at hl 3 rfl) ?_
      refine lv_tableIn (tgt := 130) (off := 101) hx hb dX4_readerOf_29 (by decide) (by decide) (by decide) (by decide) ?_
      refine lv_aload_n hx hb dX4_readerOf_130 rfl (lv_at hl 0 rfl) ?_
      refine va_get (D := D) (ci := 1) (v := .int (nI (v 11 7))) (C := RX1) (T := TX1) (N := 10) hx hb hts inX4_readerOf_X1 hown hK hP 18 rfl rfl 7 (by decide) (hts (.fieldLink RX4 196 "OddNotice$Reader" "well" "I") (List.mem_of_getElem? (i := 13) (by decide +kernel))) (fun _ h9 => h9) rfl dX4_readerOf_131 ?_
      exact W.iret (v := nI (v 11 7)) hx hb hrt (fun t ht hW => ⟨_, rfl, rfl, ht⟩) (fun _ h => nomatch h) dX4_readerOf_134
    · skip
      exfalso
      omega
  · skip
    have hSc := hSI
    obtain ⟨⟨i1, i2, i3, hpl⟩, i5⟩ := hSI
    have i12 := i5 2 (by omega)
    unfold s_IR at i12
    simp only [Nat.reduceMul, Nat.reduceAdd] at i12
    refine lv_iload_n hx hb dX4_readerOf_0 rfl (lv_at hl 1 rfl) ?_
    refine o_const (k := 4) hx hb dX4_readerOf_1 (by decide) ?_
    refine o_ri (va_runS (As := [.int (nI 2), .int (nI 4)]) (rest := []) ⟨hx, hb, hml, hown, hts⟩ (k_X4_isBelow l D cI cR cS cL 2 4 (by show 2 < 2 ^ 32; first | assumption | omega) (by show 4 < 2 ^ 31; first | assumption | omega)) (va_cwS 2 hts gX4_readerOf_X4_isBelow rfl rfl rfl (by decide +kernel) ⟨Nat.le_of_ble_eq_true rfl, Nat.le_of_ble_eq_true rfl⟩) (o_pR hK hN (hP.sub (ws' := []) [] rfl)) rfl rfl hl.1 rfl (lv_room (Nat.le_of_ble_eq_true rfl)) dX4_readerOf_2 ⟨Nat.zero_le _, Nat.zero_le _⟩) (fun r_90 e_89 => ?_)
    have e_89 : r_90 = nI (bn (2 < 4)) := e_89
    subst e_89
    refine o_ifnz (tgt := 18) hx hb dX4_readerOf_5 (by decide) (fun c_91 => ?_) (fun c_91 => ?_)
    · skip
      refine lv_aload_n hx hb dX4_readerOf_18 rfl (lv_at hl 0 rfl) ?_
      refine va_get (D := D) (ci := 4) (v := .ref (o 5)) (C := RX4) (T := TX4) (N := 6) hx hb hts inX4_readerOf_X4 hown hK hP 0 rfl rfl 0 (by decide) (hts (.fieldLink RX4 10 "OddNotice" "now" "LOddNotice$State;") (List.mem_of_getElem? (i := 5) (by decide +kernel))) (fun _ h9 => h9) rfl dX4_readerOf_19 ?_
      refine va_get (D := D) (ci := 2) (v := .ref (o 11)) (C := RX2) (T := TX2) (N := 4) hx hb hts inX4_readerOf_X2 hown hK hP 5 rfl rfl 1 (by decide) (hts (.fieldLink RX4 91 "OddNotice$State" "readers" "[LOddNotice$Reader;") (List.mem_of_getElem? (i := 6) (by decide +kernel))) (fun _ h9 => h9) rfl dX4_readerOf_22 ?_
      refine lv_iload_n hx hb dX4_readerOf_25 rfl (lv_at hl 1 rfl) ?_
      refine o_aldq (v := (o 18)) (C := "OddNotice$Reader") hx hb hK hP 6 1 rfl rfl (Nat.le_of_ble_eq_true rfl) (Nat.le_of_ble_eq_true rfl) rfl dX4_readerOf_26 ?_
      refine lv_astore_n (lv' := [(3, .ref (o 18)), (0, .ref (o 0)), (1, .int (nI 2)), (2, .int (nI 6))]) hx hb dX4_readerOf_27 rfl hl (by decide) rfl (fun ls hl => ?_)
      refine lv_iload_n hx hb dX4_readerOf_28 rfl (lv_at hl 3 rfl) ?_
      refine lv_tableIn (tgt := 135) (off := 106) hx hb dX4_readerOf_29 (by decide) (by decide) (by decide) (by decide) ?_
      refine lv_aload_n hx hb dX4_readerOf_135 rfl (lv_at hl 0 rfl) ?_
      refine va_get (D := D) (ci := 1) (v := .int (nI (v 11 2))) (C := RX1) (T := TX1) (N := 10) hx hb hts inX4_readerOf_X1 hown hK hP 18 rfl rfl 2 (by decide) (hts (.fieldLink RX4 199 "OddNotice$Reader" "holds" "Z") (List.mem_of_getElem? (i := 14) (by decide +kernel))) (fun _ h9 => h9) rfl dX4_readerOf_136 ?_
      refine o_if_eq (tgt := 159) hx hb dX4_readerOf_139 (by decide) (by omega) (fun c_92 => ?_) (fun c_92 => ?_)
      · skip
        refine o_const (k := 4294967295) hx hb dX4_readerOf_159 (by decide) ?_
        exact W.iret (v := nI 4294967295) hx hb hrt (fun t ht hW => ⟨_, rfl, (congrArg nI (Eq.symm (show c_rdr v 2 6 = _ from if_pos c_92))), ht⟩) (fun _ h => nomatch h) dX4_readerOf_160
      · skip
        refine lv_aload_n hx hb dX4_readerOf_142 rfl (lv_at hl 1 rfl) ?_
        refine va_get (D := D) (ci := 4) (v := .ref (o 5)) (C := RX4) (T := TX4) (N := 6) hx hb hts inX4_readerOf_X4 hown hK hP 0 rfl rfl 0 (by decide) (hts (.fieldLink RX4 10 "OddNotice" "now" "LOddNotice$State;") (List.mem_of_getElem? (i := 5) (by decide +kernel))) (fun _ h9 => h9) rfl dX4_readerOf_143 ?_
        refine va_get (D := D) (ci := 2) (v := .ref (o 6)) (C := RX2) (T := TX2) (N := 4) hx hb hts inX4_readerOf_X2 hown hK hP 5 rfl rfl 0 (by decide) (hts (.fieldLink RX4 42 "OddNotice$State" "board" "LOddNotice$Board;") (List.mem_of_getElem? (i := 15) (by decide +kernel))) (fun _ h9 => h9) rfl dX4_readerOf_146 ?_
        refine lv_aload_n hx hb dX4_readerOf_149 rfl (lv_at hl 0 rfl) ?_
        refine va_get (D := D) (ci := 1) (v := .ref (o 19)) (C := RX1) (T := TX1) (N := 10) hx hb hts inX4_readerOf_X1 hown hK hP 18 rfl rfl 8 (by decide) (hts (.fieldLink RX4 202 "OddNotice$Reader" "held" "[I") (List.mem_of_getElem? (i := 16) (by decide +kernel))) (fun _ h9 => h9) rfl dX4_readerOf_150 ?_
        refine o_ri (va_runV (As := [.ref (o 19)]) (rest := []) ⟨hx, hb, hml, hown, hts⟩ (k_X0_latestSame l D cI cR cS cL (fun k => o (k + 6)) v (o 19) (v 12) (by show v 0 0 < 2 ^ 30; first | assumption | omega)) (cwV 1 hts gX4_readerOf_X0_latestSame rfl rfl rfl (by decide +kernel) ⟨Nat.le_of_ble_eq_true rfl, Nat.le_of_ble_eq_true rfl⟩) (o_v (o_pR hK hN (hP.sub (ws' := (wB (fun k => o (k + 6)) cI v ++ [oa cI (o 19) 5 (v 12)])) [7, 8, 9, 10, 11, 19] rfl)) (va_recv hK hP (ci := 0) (q0 := 7) rfl rfl)) rfl rfl hl.1 rfl (lv_room (Nat.le_of_ble_eq_true rfl)) dX4_readerOf_153 ⟨Nat.zero_le _, Nat.zero_le _⟩) (fun r_94 e_93 => ?_)
        have e_93 : r_94 = nI (b_ls (v 4) (v 12) (v 0 0 / 2) 16 0) := e_93
        subst e_93
        have gv_95 := (b_ls_lt (by omega) 16 0 : b_ls (v 4) (v 12) (v 0 0 / 2) 16 0 < 2 ^ 32)
        refine lv_goto (tgt := 160) hx hb dX4_readerOf_156 (by decide) ?_
        exact W.iret (v := nI (b_ls (v 4) (v 12) (v 0 0 / 2) 16 0)) hx hb hrt (fun t ht hW => ⟨_, rfl, (congrArg nI (Eq.symm (show c_rdr v 2 6 = _ from if_neg c_92))), ht⟩) (fun _ h => nomatch h) dX4_readerOf_160
    · skip
      exfalso
      omega
  · skip
    have hSc := hSI
    obtain ⟨⟨i1, i2, i3, hpl⟩, i5⟩ := hSI
    have i12 := i5 2 (by omega)
    unfold s_IR at i12
    simp only [Nat.reduceMul, Nat.reduceAdd] at i12
    refine lv_iload_n hx hb dX4_readerOf_0 rfl (lv_at hl 1 rfl) ?_
    refine o_const (k := 4) hx hb dX4_readerOf_1 (by decide) ?_
    refine o_ri (va_runS (As := [.int (nI 2), .int (nI 4)]) (rest := []) ⟨hx, hb, hml, hown, hts⟩ (k_X4_isBelow l D cI cR cS cL 2 4 (by show 2 < 2 ^ 32; first | assumption | omega) (by show 4 < 2 ^ 31; first | assumption | omega)) (va_cwS 2 hts gX4_readerOf_X4_isBelow rfl rfl rfl (by decide +kernel) ⟨Nat.le_of_ble_eq_true rfl, Nat.le_of_ble_eq_true rfl⟩) (o_pR hK hN (hP.sub (ws' := []) [] rfl)) rfl rfl hl.1 rfl (lv_room (Nat.le_of_ble_eq_true rfl)) dX4_readerOf_2 ⟨Nat.zero_le _, Nat.zero_le _⟩) (fun r_97 e_96 => ?_)
    have e_96 : r_97 = nI (bn (2 < 4)) := e_96
    subst e_96
    refine o_ifnz (tgt := 18) hx hb dX4_readerOf_5 (by decide) (fun c_98 => ?_) (fun c_98 => ?_)
    · skip
      refine lv_aload_n hx hb dX4_readerOf_18 rfl (lv_at hl 0 rfl) ?_
      refine va_get (D := D) (ci := 4) (v := .ref (o 5)) (C := RX4) (T := TX4) (N := 6) hx hb hts inX4_readerOf_X4 hown hK hP 0 rfl rfl 0 (by decide) (hts (.fieldLink RX4 10 "OddNotice" "now" "LOddNotice$State;") (List.mem_of_getElem? (i := 5) (by decide +kernel))) (fun _ h9 => h9) rfl dX4_readerOf_19 ?_
      refine va_get (D := D) (ci := 2) (v := .ref (o 11)) (C := RX2) (T := TX2) (N := 4) hx hb hts inX4_readerOf_X2 hown hK hP 5 rfl rfl 1 (by decide) (hts (.fieldLink RX4 91 "OddNotice$State" "readers" "[LOddNotice$Reader;") (List.mem_of_getElem? (i := 6) (by decide +kernel))) (fun _ h9 => h9) rfl dX4_readerOf_22 ?_
      refine lv_iload_n hx hb dX4_readerOf_25 rfl (lv_at hl 1 rfl) ?_
      refine o_aldq (v := (o 18)) (C := "OddNotice$Reader") hx hb hK hP 6 1 rfl rfl (Nat.le_of_ble_eq_true rfl) (Nat.le_of_ble_eq_true rfl) rfl dX4_readerOf_26 ?_
      refine lv_astore_n (lv' := [(3, .ref (o 18)), (0, .ref (o 0)), (1, .int (nI 2)), (2, .int (nI 7))]) hx hb dX4_readerOf_27 rfl hl (by decide) rfl (fun ls hl => ?_)
      refine lv_iload_n hx hb dX4_readerOf_28 rfl (lv_at hl 3 rfl) ?_
      refine lv_tableIn (tgt := 161) (off := 132) hx hb dX4_readerOf_29 (by decide) (by decide) (by decide) (by decide) ?_
      refine lv_aload_n hx hb dX4_readerOf_161 rfl (lv_at hl 0 rfl) ?_
      refine va_get (D := D) (ci := 1) (v := .int (nI (v 11 0))) (C := RX1) (T := TX1) (N := 10) hx hb hts inX4_readerOf_X1 hown hK hP 18 rfl rfl 0 (by decide) (hts (.fieldLink RX4 95 "OddNotice$Reader" "heeds" "Z") (List.mem_of_getElem? (i := 17) (by decide +kernel))) (fun _ h9 => h9) rfl dX4_readerOf_162 ?_
      refine o_if_eq (tgt := 172) hx hb dX4_readerOf_165 (by decide) (by omega) (fun c_99 => ?_) (fun c_99 => ?_)
      · skip
        refine o_const (k := 0) hx hb dX4_readerOf_172 (by decide) ?_
        exact W.iret (v := nI 0) hx hb hrt (fun t ht hW => ⟨_, rfl, (congrArg nI (Eq.symm (show c_rdr v 2 7 = _ from if_pos c_99))), ht⟩) (fun _ h => nomatch h) dX4_readerOf_173
      · skip
        refine o_const (k := 1) hx hb dX4_readerOf_168 (by decide) ?_
        refine lv_goto (tgt := 173) hx hb dX4_readerOf_169 (by decide) ?_
        exact W.iret (v := nI 1) hx hb hrt (fun t ht hW => ⟨_, rfl, (congrArg nI (Eq.symm (show c_rdr v 2 7 = _ from if_neg c_99))), ht⟩) (fun _ h => nomatch h) dX4_readerOf_173
    · skip
      exfalso
      omega
  · skip
    have hSc := hSI
    obtain ⟨⟨i1, i2, i3, hpl⟩, i5⟩ := hSI
    have i12 := i5 3 (by omega)
    unfold s_IR at i12
    simp only [Nat.reduceMul, Nat.reduceAdd] at i12
    refine lv_iload_n hx hb dX4_readerOf_0 rfl (lv_at hl 1 rfl) ?_
    refine o_const (k := 4) hx hb dX4_readerOf_1 (by decide) ?_
    refine o_ri (va_runS (As := [.int (nI 3), .int (nI 4)]) (rest := []) ⟨hx, hb, hml, hown, hts⟩ (k_X4_isBelow l D cI cR cS cL 3 4 (by show 3 < 2 ^ 32; first | assumption | omega) (by show 4 < 2 ^ 31; first | assumption | omega)) (va_cwS 2 hts gX4_readerOf_X4_isBelow rfl rfl rfl (by decide +kernel) ⟨Nat.le_of_ble_eq_true rfl, Nat.le_of_ble_eq_true rfl⟩) (o_pR hK hN (hP.sub (ws' := []) [] rfl)) rfl rfl hl.1 rfl (lv_room (Nat.le_of_ble_eq_true rfl)) dX4_readerOf_2 ⟨Nat.zero_le _, Nat.zero_le _⟩) (fun r_101 e_100 => ?_)
    have e_100 : r_101 = nI (bn (3 < 4)) := e_100
    subst e_100
    refine o_ifnz (tgt := 18) hx hb dX4_readerOf_5 (by decide) (fun c_102 => ?_) (fun c_102 => ?_)
    · skip
      refine lv_aload_n hx hb dX4_readerOf_18 rfl (lv_at hl 0 rfl) ?_
      refine va_get (D := D) (ci := 4) (v := .ref (o 5)) (C := RX4) (T := TX4) (N := 6) hx hb hts inX4_readerOf_X4 hown hK hP 0 rfl rfl 0 (by decide) (hts (.fieldLink RX4 10 "OddNotice" "now" "LOddNotice$State;") (List.mem_of_getElem? (i := 5) (by decide +kernel))) (fun _ h9 => h9) rfl dX4_readerOf_19 ?_
      refine va_get (D := D) (ci := 2) (v := .ref (o 11)) (C := RX2) (T := TX2) (N := 4) hx hb hts inX4_readerOf_X2 hown hK hP 5 rfl rfl 1 (by decide) (hts (.fieldLink RX4 91 "OddNotice$State" "readers" "[LOddNotice$Reader;") (List.mem_of_getElem? (i := 6) (by decide +kernel))) (fun _ h9 => h9) rfl dX4_readerOf_22 ?_
      refine lv_iload_n hx hb dX4_readerOf_25 rfl (lv_at hl 1 rfl) ?_
      refine o_aldq (v := (o 21)) (C := "OddNotice$Reader") hx hb hK hP 6 1 rfl rfl (Nat.le_of_ble_eq_true rfl) (Nat.le_of_ble_eq_true rfl) rfl dX4_readerOf_26 ?_
      refine lv_astore_n (lv' := [(3, .ref (o 21)), (0, .ref (o 0)), (1, .int (nI 3)), (2, .int (nI 0))]) hx hb dX4_readerOf_27 rfl hl (by decide) rfl (fun ls hl => ?_)
      refine lv_iload_n hx hb dX4_readerOf_28 rfl (lv_at hl 3 rfl) ?_
      refine lv_tableIn (tgt := 76) (off := 47) hx hb dX4_readerOf_29 (by decide) (by decide) (by decide) (by decide) ?_
      refine lv_aload_n hx hb dX4_readerOf_76 rfl (lv_at hl 0 rfl) ?_
      refine lv_aload_n hx hb dX4_readerOf_77 rfl (lv_at hl 1 rfl) ?_
      refine va_get (D := D) (ci := 4) (v := .ref (o 5)) (C := RX4) (T := TX4) (N := 6) hx hb hts inX4_readerOf_X4 hown hK hP 0 rfl rfl 0 (by decide) (hts (.fieldLink RX4 10 "OddNotice" "now" "LOddNotice$State;") (List.mem_of_getElem? (i := 5) (by decide +kernel))) (fun _ h9 => h9) rfl dX4_readerOf_78 ?_
      refine va_get (D := D) (ci := 2) (v := .int (nI (v 0 2))) (C := RX2) (T := TX2) (N := 4) hx hb hts inX4_readerOf_X2 hown hK hP 5 rfl rfl 3 (by decide) (hts (.fieldLink RX4 122 "OddNotice$State" "setting" "I") (List.mem_of_getElem? (i := 7) (by decide +kernel))) (fun _ h9 => h9) rfl dX4_readerOf_81 ?_
      refine o_ri (va_runV (As := [.int (nI (v 0 2))]) (rest := []) ⟨hx, hb, hml, hown, hts⟩ (k_X1_doing l D cI cR cS cL (fun k => o (k + 21)) (fun k => v (k + 14)) (v 0 2) (by show (v 14 0) < 2 ^ 31; first | assumption | omega) (by show (v 14 1) < 2 ^ 31; first | assumption | omega) (by show (v 14 5) < 2 ^ 31; first | assumption | omega) (by show (v 0 2) < 2 ^ 31; first | assumption | omega)) (cwV 1 hts gX4_readerOf_X1_doing rfl rfl rfl (by decide +kernel) ⟨Nat.le_of_ble_eq_true rfl, Nat.le_of_ble_eq_true rfl⟩) (o_v (o_pR hK hN (hP.sub (ws' := (wR (fun k => o (k + 21)) cI (fun k => v (k + 14)))) [21, 22, 23] rfl)) (va_recv hK hP (ci := 1) (q0 := 21) rfl rfl)) rfl rfl hl.1 rfl (lv_room (Nat.le_of_ble_eq_true rfl)) dX4_readerOf_84 ⟨Nat.zero_le _, Nat.zero_le _⟩) (fun r_104 e_103 => ?_)
      have e_103 : r_104 = nI (r_doing (fun k => v (k + 14)) (v 0 2)) := e_103
      subst e_103
      exact W.iret (v := nI (r_doing (fun k => v (k + 14)) (v 0 2))) hx hb hrt (fun t ht hW => ⟨_, rfl, rfl, ht⟩) (fun _ h => nomatch h) dX4_readerOf_87
    · skip
      exfalso
      omega
  · skip
    have hSc := hSI
    obtain ⟨⟨i1, i2, i3, hpl⟩, i5⟩ := hSI
    have i12 := i5 3 (by omega)
    unfold s_IR at i12
    simp only [Nat.reduceMul, Nat.reduceAdd] at i12
    refine lv_iload_n hx hb dX4_readerOf_0 rfl (lv_at hl 1 rfl) ?_
    refine o_const (k := 4) hx hb dX4_readerOf_1 (by decide) ?_
    refine o_ri (va_runS (As := [.int (nI 3), .int (nI 4)]) (rest := []) ⟨hx, hb, hml, hown, hts⟩ (k_X4_isBelow l D cI cR cS cL 3 4 (by show 3 < 2 ^ 32; first | assumption | omega) (by show 4 < 2 ^ 31; first | assumption | omega)) (va_cwS 2 hts gX4_readerOf_X4_isBelow rfl rfl rfl (by decide +kernel) ⟨Nat.le_of_ble_eq_true rfl, Nat.le_of_ble_eq_true rfl⟩) (o_pR hK hN (hP.sub (ws' := []) [] rfl)) rfl rfl hl.1 rfl (lv_room (Nat.le_of_ble_eq_true rfl)) dX4_readerOf_2 ⟨Nat.zero_le _, Nat.zero_le _⟩) (fun r_106 e_105 => ?_)
    have e_105 : r_106 = nI (bn (3 < 4)) := e_105
    subst e_105
    refine o_ifnz (tgt := 18) hx hb dX4_readerOf_5 (by decide) (fun c_107 => ?_) (fun c_107 => ?_)
    · skip
      refine lv_aload_n hx hb dX4_readerOf_18 rfl (lv_at hl 0 rfl) ?_
      refine va_get (D := D) (ci := 4) (v := .ref (o 5)) (C := RX4) (T := TX4) (N := 6) hx hb hts inX4_readerOf_X4 hown hK hP 0 rfl rfl 0 (by decide) (hts (.fieldLink RX4 10 "OddNotice" "now" "LOddNotice$State;") (List.mem_of_getElem? (i := 5) (by decide +kernel))) (fun _ h9 => h9) rfl dX4_readerOf_19 ?_
      refine va_get (D := D) (ci := 2) (v := .ref (o 11)) (C := RX2) (T := TX2) (N := 4) hx hb hts inX4_readerOf_X2 hown hK hP 5 rfl rfl 1 (by decide) (hts (.fieldLink RX4 91 "OddNotice$State" "readers" "[LOddNotice$Reader;") (List.mem_of_getElem? (i := 6) (by decide +kernel))) (fun _ h9 => h9) rfl dX4_readerOf_22 ?_
      refine lv_iload_n hx hb dX4_readerOf_25 rfl (lv_at hl 1 rfl) ?_
      refine o_aldq (v := (o 21)) (C := "OddNotice$Reader") hx hb hK hP 6 1 rfl rfl (Nat.le_of_ble_eq_true rfl) (Nat.le_of_ble_eq_true rfl) rfl dX4_readerOf_26 ?_
      refine lv_astore_n (lv' := [(3, .ref (o 21)), (0, .ref (o 0)), (1, .int (nI 3)), (2, .int (nI 1))]) hx hb dX4_readerOf_27 rfl hl (by decide) rfl (fun ls hl => ?_)
      refine lv_iload_n hx hb dX4_readerOf_28 rfl (lv_at hl 3 rfl) ?_
      refine lv_tableIn (tgt := 88) (off := 59) hx hb dX4_readerOf_29 (by decide) (by decide) (by decide) (by decide) ?_
      refine lv_aload_n hx hb dX4_readerOf_88 rfl (lv_at hl 0 rfl) ?_
      refine va_get (D := D) (ci := 1) (v := .int (nI (v 14 1))) (C := RX1) (T := TX1) (N := 10) hx hb hts inX4_readerOf_X1 hown hK hP 21 rfl rfl 1 (by decide) (hts (.fieldLink RX4 114 "OddNotice$Reader" "reads" "Z") (List.mem_of_getElem? (i := 8) (by decide +kernel))) (fun _ h9 => h9) rfl dX4_readerOf_89 ?_
      refine o_if_eq (tgt := 102) hx hb dX4_readerOf_92 (by decide) (by omega) (fun c_108 => ?_) (fun c_108 => ?_)
      · skip
        refine o_const (k := 4294967295) hx hb dX4_readerOf_102 (by decide) ?_
        exact W.iret (v := nI 4294967295) hx hb hrt (fun t ht hW => ⟨_, rfl, (congrArg nI (Eq.symm (show c_rdr v 3 1 = _ from if_pos c_108))), ht⟩) (fun _ h => nomatch h) dX4_readerOf_103
      · skip
        refine lv_aload_n hx hb dX4_readerOf_95 rfl (lv_at hl 0 rfl) ?_
        refine va_get (D := D) (ci := 1) (v := .int (nI (v 14 3))) (C := RX1) (T := TX1) (N := 10) hx hb hts inX4_readerOf_X1 hown hK hP 21 rfl rfl 3 (by decide) (hts (.fieldLink RX4 184 "OddNotice$Reader" "noted" "I") (List.mem_of_getElem? (i := 9) (by decide +kernel))) (fun _ h9 => h9) rfl dX4_readerOf_96 ?_
        refine lv_goto (tgt := 103) hx hb dX4_readerOf_99 (by decide) ?_
        exact W.iret (v := nI (v 14 3)) hx hb hrt (fun t ht hW => ⟨_, rfl, (congrArg nI (Eq.symm (show c_rdr v 3 1 = _ from if_neg c_108))), ht⟩) (fun _ h => nomatch h) dX4_readerOf_103
    · skip
      exfalso
      omega
  · skip
    have hSc := hSI
    obtain ⟨⟨i1, i2, i3, hpl⟩, i5⟩ := hSI
    have i12 := i5 3 (by omega)
    unfold s_IR at i12
    simp only [Nat.reduceMul, Nat.reduceAdd] at i12
    refine lv_iload_n hx hb dX4_readerOf_0 rfl (lv_at hl 1 rfl) ?_
    refine o_const (k := 4) hx hb dX4_readerOf_1 (by decide) ?_
    refine o_ri (va_runS (As := [.int (nI 3), .int (nI 4)]) (rest := []) ⟨hx, hb, hml, hown, hts⟩ (k_X4_isBelow l D cI cR cS cL 3 4 (by show 3 < 2 ^ 32; first | assumption | omega) (by show 4 < 2 ^ 31; first | assumption | omega)) (va_cwS 2 hts gX4_readerOf_X4_isBelow rfl rfl rfl (by decide +kernel) ⟨Nat.le_of_ble_eq_true rfl, Nat.le_of_ble_eq_true rfl⟩) (o_pR hK hN (hP.sub (ws' := []) [] rfl)) rfl rfl hl.1 rfl (lv_room (Nat.le_of_ble_eq_true rfl)) dX4_readerOf_2 ⟨Nat.zero_le _, Nat.zero_le _⟩) (fun r_110 e_109 => ?_)
    have e_109 : r_110 = nI (bn (3 < 4)) := e_109
    subst e_109
    refine o_ifnz (tgt := 18) hx hb dX4_readerOf_5 (by decide) (fun c_111 => ?_) (fun c_111 => ?_)
    · skip
      refine lv_aload_n hx hb dX4_readerOf_18 rfl (lv_at hl 0 rfl) ?_
      refine va_get (D := D) (ci := 4) (v := .ref (o 5)) (C := RX4) (T := TX4) (N := 6) hx hb hts inX4_readerOf_X4 hown hK hP 0 rfl rfl 0 (by decide) (hts (.fieldLink RX4 10 "OddNotice" "now" "LOddNotice$State;") (List.mem_of_getElem? (i := 5) (by decide +kernel))) (fun _ h9 => h9) rfl dX4_readerOf_19 ?_
      refine va_get (D := D) (ci := 2) (v := .ref (o 11)) (C := RX2) (T := TX2) (N := 4) hx hb hts inX4_readerOf_X2 hown hK hP 5 rfl rfl 1 (by decide) (hts (.fieldLink RX4 91 "OddNotice$State" "readers" "[LOddNotice$Reader;") (List.mem_of_getElem? (i := 6) (by decide +kernel))) (fun _ h9 => h9) rfl dX4_readerOf_22 ?_
      refine lv_iload_n hx hb dX4_readerOf_25 rfl (lv_at hl 1 rfl) ?_
      refine o_aldq (v := (o 21)) (C := "OddNotice$Reader") hx hb hK hP 6 1 rfl rfl (Nat.le_of_ble_eq_true rfl) (Nat.le_of_ble_eq_true rfl) rfl dX4_readerOf_26 ?_
      refine lv_astore_n (lv' := [(3, .ref (o 21)), (0, .ref (o 0)), (1, .int (nI 3)), (2, .int (nI 2))]) hx hb dX4_readerOf_27 rfl hl (by decide) rfl (fun ls hl => ?_)
      refine lv_iload_n hx hb dX4_readerOf_28 rfl (lv_at hl 3 rfl) ?_
      refine lv_tableIn (tgt := 104) (off := 75) hx hb dX4_readerOf_29 (by decide) (by decide) (by decide) (by decide) ?_
      refine lv_aload_n hx hb dX4_readerOf_104 rfl (lv_at hl 0 rfl) ?_
      refine va_get (D := D) (ci := 1) (v := .int (nI (v 14 1))) (C := RX1) (T := TX1) (N := 10) hx hb hts inX4_readerOf_X1 hown hK hP 21 rfl rfl 1 (by decide) (hts (.fieldLink RX4 114 "OddNotice$Reader" "reads" "Z") (List.mem_of_getElem? (i := 8) (by decide +kernel))) (fun _ h9 => h9) rfl dX4_readerOf_105 ?_
      refine o_if_eq (tgt := 118) hx hb dX4_readerOf_108 (by decide) (by omega) (fun c_112 => ?_) (fun c_112 => ?_)
      · skip
        refine o_const (k := 4294967295) hx hb dX4_readerOf_118 (by decide) ?_
        exact W.iret (v := nI 4294967295) hx hb hrt (fun t ht hW => ⟨_, rfl, (congrArg nI (Eq.symm (show c_rdr v 3 2 = _ from if_pos c_112))), ht⟩) (fun _ h => nomatch h) dX4_readerOf_119
      · skip
        refine lv_aload_n hx hb dX4_readerOf_111 rfl (lv_at hl 0 rfl) ?_
        refine va_get (D := D) (ci := 1) (v := .int (nI (v 14 4))) (C := RX1) (T := TX1) (N := 10) hx hb hts inX4_readerOf_X1 hown hK hP 21 rfl rfl 4 (by decide) (hts (.fieldLink RX4 187 "OddNotice$Reader" "taken" "I") (List.mem_of_getElem? (i := 10) (by decide +kernel))) (fun _ h9 => h9) rfl dX4_readerOf_112 ?_
        refine lv_goto (tgt := 119) hx hb dX4_readerOf_115 (by decide) ?_
        exact W.iret (v := nI (v 14 4)) hx hb hrt (fun t ht hW => ⟨_, rfl, (congrArg nI (Eq.symm (show c_rdr v 3 2 = _ from if_neg c_112))), ht⟩) (fun _ h => nomatch h) dX4_readerOf_119
    · skip
      exfalso
      omega
  · skip
    have hSc := hSI
    obtain ⟨⟨i1, i2, i3, hpl⟩, i5⟩ := hSI
    have i12 := i5 3 (by omega)
    unfold s_IR at i12
    simp only [Nat.reduceMul, Nat.reduceAdd] at i12
    refine lv_iload_n hx hb dX4_readerOf_0 rfl (lv_at hl 1 rfl) ?_
    refine o_const (k := 4) hx hb dX4_readerOf_1 (by decide) ?_
    refine o_ri (va_runS (As := [.int (nI 3), .int (nI 4)]) (rest := []) ⟨hx, hb, hml, hown, hts⟩ (k_X4_isBelow l D cI cR cS cL 3 4 (by show 3 < 2 ^ 32; first | assumption | omega) (by show 4 < 2 ^ 31; first | assumption | omega)) (va_cwS 2 hts gX4_readerOf_X4_isBelow rfl rfl rfl (by decide +kernel) ⟨Nat.le_of_ble_eq_true rfl, Nat.le_of_ble_eq_true rfl⟩) (o_pR hK hN (hP.sub (ws' := []) [] rfl)) rfl rfl hl.1 rfl (lv_room (Nat.le_of_ble_eq_true rfl)) dX4_readerOf_2 ⟨Nat.zero_le _, Nat.zero_le _⟩) (fun r_114 e_113 => ?_)
    have e_113 : r_114 = nI (bn (3 < 4)) := e_113
    subst e_113
    refine o_ifnz (tgt := 18) hx hb dX4_readerOf_5 (by decide) (fun c_115 => ?_) (fun c_115 => ?_)
    · skip
      refine lv_aload_n hx hb dX4_readerOf_18 rfl (lv_at hl 0 rfl) ?_
      refine va_get (D := D) (ci := 4) (v := .ref (o 5)) (C := RX4) (T := TX4) (N := 6) hx hb hts inX4_readerOf_X4 hown hK hP 0 rfl rfl 0 (by decide) (hts (.fieldLink RX4 10 "OddNotice" "now" "LOddNotice$State;") (List.mem_of_getElem? (i := 5) (by decide +kernel))) (fun _ h9 => h9) rfl dX4_readerOf_19 ?_
      refine va_get (D := D) (ci := 2) (v := .ref (o 11)) (C := RX2) (T := TX2) (N := 4) hx hb hts inX4_readerOf_X2 hown hK hP 5 rfl rfl 1 (by decide) (hts (.fieldLink RX4 91 "OddNotice$State" "readers" "[LOddNotice$Reader;") (List.mem_of_getElem? (i := 6) (by decide +kernel))) (fun _ h9 => h9) rfl dX4_readerOf_22 ?_
      refine lv_iload_n hx hb dX4_readerOf_25 rfl (lv_at hl 1 rfl) ?_
      refine o_aldq (v := (o 21)) (C := "OddNotice$Reader") hx hb hK hP 6 1 rfl rfl (Nat.le_of_ble_eq_true rfl) (Nat.le_of_ble_eq_true rfl) rfl dX4_readerOf_26 ?_
      refine lv_astore_n (lv' := [(3, .ref (o 21)), (0, .ref (o 0)), (1, .int (nI 3)), (2, .int (nI 3))]) hx hb dX4_readerOf_27 rfl hl (by decide) rfl (fun ls hl => ?_)
      refine lv_iload_n hx hb dX4_readerOf_28 rfl (lv_at hl 3 rfl) ?_
      refine lv_tableIn (tgt := 120) (off := 91) hx hb dX4_readerOf_29 (by decide) (by decide) (by decide) (by decide) ?_
      refine lv_aload_n hx hb dX4_readerOf_120 rfl (lv_at hl 0 rfl) ?_
      refine va_get (D := D) (ci := 1) (v := .int (nI (v 14 5))) (C := RX1) (T := TX1) (N := 10) hx hb hts inX4_readerOf_X1 hown hK hP 21 rfl rfl 5 (by decide) (hts (.fieldLink RX4 190 "OddNotice$Reader" "failedInRow" "I") (List.mem_of_getElem? (i := 11) (by decide +kernel))) (fun _ h9 => h9) rfl dX4_readerOf_121 ?_
      exact W.iret (v := nI (v 14 5)) hx hb hrt (fun t ht hW => ⟨_, rfl, rfl, ht⟩) (fun _ h => nomatch h) dX4_readerOf_124
    · skip
      exfalso
      omega
  · skip
    have hSc := hSI
    obtain ⟨⟨i1, i2, i3, hpl⟩, i5⟩ := hSI
    have i12 := i5 3 (by omega)
    unfold s_IR at i12
    simp only [Nat.reduceMul, Nat.reduceAdd] at i12
    refine lv_iload_n hx hb dX4_readerOf_0 rfl (lv_at hl 1 rfl) ?_
    refine o_const (k := 4) hx hb dX4_readerOf_1 (by decide) ?_
    refine o_ri (va_runS (As := [.int (nI 3), .int (nI 4)]) (rest := []) ⟨hx, hb, hml, hown, hts⟩ (k_X4_isBelow l D cI cR cS cL 3 4 (by show 3 < 2 ^ 32; first | assumption | omega) (by show 4 < 2 ^ 31; first | assumption | omega)) (va_cwS 2 hts gX4_readerOf_X4_isBelow rfl rfl rfl (by decide +kernel) ⟨Nat.le_of_ble_eq_true rfl, Nat.le_of_ble_eq_true rfl⟩) (o_pR hK hN (hP.sub (ws' := []) [] rfl)) rfl rfl hl.1 rfl (lv_room (Nat.le_of_ble_eq_true rfl)) dX4_readerOf_2 ⟨Nat.zero_le _, Nat.zero_le _⟩) (fun r_117 e_116 => ?_)
    have e_116 : r_117 = nI (bn (3 < 4)) := e_116
    subst e_116
    refine o_ifnz (tgt := 18) hx hb dX4_readerOf_5 (by decide) (fun c_118 => ?_) (fun c_118 => ?_)
    · skip
      refine lv_aload_n hx hb dX4_readerOf_18 rfl (lv_at hl 0 rfl) ?_
      refine va_get (D := D) (ci := 4) (v := .ref (o 5)) (C := RX4) (T := TX4) (N := 6) hx hb hts inX4_readerOf_X4 hown hK hP 0 rfl rfl 0 (by decide) (hts (.fieldLink RX4 10 "OddNotice" "now" "LOddNotice$State;") (List.mem_of_getElem? (i := 5) (by decide +kernel))) (fun _ h9 => h9) rfl dX4_readerOf_19 ?_
      refine va_get (D := D) (ci := 2) (v := .ref (o 11)) (C := RX2) (T := TX2) (N := 4) hx hb hts inX4_readerOf_X2 hown hK hP 5 rfl rfl 1 (by decide) (hts (.fieldLink RX4 91 "OddNotice$State" "readers" "[LOddNotice$Reader;") (List.mem_of_getElem? (i := 6) (by decide +kernel))) (fun _ h9 => h9) rfl dX4_readerOf_22 ?_
      refine lv_iload_n hx hb dX4_readerOf_25 rfl (lv_at hl 1 rfl) ?_
      refine o_aldq (v := (o 21)) (C := "OddNotice$Reader") hx hb hK hP 6 1 rfl rfl (Nat.le_of_ble_eq_true rfl) (Nat.le_of_ble_eq_true rfl) rfl dX4_readerOf_26 ?_
      refine lv_astore_n (lv' := [(3, .ref (o 21)), (0, .ref (o 0)), (1, .int (nI 3)), (2, .int (nI 4))]) hx hb dX4_readerOf_27 rfl hl (by decide) rfl (fun ls hl => ?_)
      refine lv_iload_n hx hb dX4_readerOf_28 rfl (lv_at hl 3 rfl) ?_
      refine lv_tableIn (tgt := 125) (off := 96) hx hb dX4_readerOf_29 (by decide) (by decide) (by decide) (by decide) ?_
      refine lv_aload_n hx hb dX4_readerOf_125 rfl (lv_at hl 0 rfl) ?_
      refine va_get (D := D) (ci := 1) (v := .int (nI (v 14 6))) (C := RX1) (T := TX1) (N := 10) hx hb hts inX4_readerOf_X1 hown hK hP 21 rfl rfl 6 (by decide) (hts (.fieldLink RX4 193 "OddNotice$Reader" "failed" "I") (List.mem_of_getElem? (i := 12) (by decide +kernel))) (fun _ h9 => h9) rfl dX4_readerOf_126 ?_
      exact W.iret (v := nI (v 14 6)) hx hb hrt (fun t ht hW => ⟨_, rfl, rfl, ht⟩) (fun _ h => nomatch h) dX4_readerOf_129
    · skip
      exfalso
      omega
  · skip
    have hSc := hSI
    obtain ⟨⟨i1, i2, i3, hpl⟩, i5⟩ := hSI
    have i12 := i5 3 (by omega)
    unfold s_IR at i12
    simp only [Nat.reduceMul, Nat.reduceAdd] at i12
    refine lv_iload_n hx hb dX4_readerOf_0 rfl (lv_at hl 1 rfl) ?_
    refine o_const (k := 4) hx hb dX4_readerOf_1 (by decide) ?_
    refine o_ri (va_runS (As := [.int (nI 3), .int (nI 4)]) (rest := []) ⟨hx, hb, hml, hown, hts⟩ (k_X4_isBelow l D cI cR cS cL 3 4 (by show 3 < 2 ^ 32; first | assumption | omega) (by show 4 < 2 ^ 31; first | assumption | omega)) (va_cwS 2 hts gX4_readerOf_X4_isBelow rfl rfl rfl (by decide +kernel) ⟨Nat.le_of_ble_eq_true rfl, Nat.le_of_ble_eq_true rfl⟩) (o_pR hK hN (hP.sub (ws' := []) [] rfl)) rfl rfl hl.1 rfl (lv_room (Nat.le_of_ble_eq_true rfl)) dX4_readerOf_2 ⟨Nat.zero_le _, Nat.zero_le _⟩) (fun r_120 e_119 => ?_)
    have e_119 : r_120 = nI (bn (3 < 4)) := e_119
    subst e_119
    refine o_ifnz (tgt := 18) hx hb dX4_readerOf_5 (by decide) (fun c_121 => ?_) (fun c_121 => ?_)
    · skip
      refine lv_aload_n hx hb dX4_readerOf_18 rfl (lv_at hl 0 rfl) ?_
      refine va_get (D := D) (ci := 4) (v := .ref (o 5)) (C := RX4) (T := TX4) (N := 6) hx hb hts inX4_readerOf_X4 hown hK hP 0 rfl rfl 0 (by decide) (hts (.fieldLink RX4 10 "OddNotice" "now" "LOddNotice$State;") (List.mem_of_getElem? (i := 5) (by decide +kernel))) (fun _ h9 => h9) rfl dX4_readerOf_19 ?_
      refine va_get (D := D) (ci := 2) (v := .ref (o 11)) (C := RX2) (T := TX2) (N := 4) hx hb hts inX4_readerOf_X2 hown hK hP 5 rfl rfl 1 (by decide) (hts (.fieldLink RX4 91 "OddNotice$State" "readers" "[LOddNotice$Reader;") (List.mem_of_getElem? (i := 6) (by decide +kernel))) (fun _ h9 => h9) rfl dX4_readerOf_22 ?_
      refine lv_iload_n hx hb dX4_readerOf_25 rfl (lv_at hl 1 rfl) ?_
      refine o_aldq (v := (o 21)) (C := "OddNotice$Reader") hx hb hK hP 6 1 rfl rfl (Nat.le_of_ble_eq_true rfl) (Nat.le_of_ble_eq_true rfl) rfl dX4_readerOf_26 ?_
      refine lv_astore_n (lv' := [(3, .ref (o 21)), (0, .ref (o 0)), (1, .int (nI 3)), (2, .int (nI 5))]) hx hb dX4_readerOf_27 rfl hl (by decide) rfl (fun ls hl => ?_)
      refine lv_iload_n hx hb dX4_readerOf_28 rfl (lv_at hl 3 rfl) ?_
      refine lv_tableIn (tgt := 130) (off := 101) hx hb dX4_readerOf_29 (by decide) (by decide) (by decide) (by decide) ?_
      refine lv_aload_n hx hb dX4_readerOf_130 rfl (lv_at hl 0 rfl) ?_
      refine va_get (D := D) (ci := 1) (v := .int (nI (v 14 7))) (C := RX1) (T := TX1) (N := 10) hx hb hts inX4_readerOf_X1 hown hK hP 21 rfl rfl 7 (by decide) (hts (.fieldLink RX4 196 "OddNotice$Reader" "well" "I") (List.mem_of_getElem? (i := 13) (by decide +kernel))) (fun _ h9 => h9) rfl dX4_readerOf_131 ?_
      exact W.iret (v := nI (v 14 7)) hx hb hrt (fun t ht hW => ⟨_, rfl, rfl, ht⟩) (fun _ h => nomatch h) dX4_readerOf_134
    · skip
      exfalso
      omega
  · skip
    have hSc := hSI
    obtain ⟨⟨i1, i2, i3, hpl⟩, i5⟩ := hSI
    have i12 := i5 3 (by omega)
    unfold s_IR at i12
    simp only [Nat.reduceMul, Nat.reduceAdd] at i12
    refine lv_iload_n hx hb dX4_readerOf_0 rfl (lv_at hl 1 rfl) ?_
    refine o_const (k := 4) hx hb dX4_readerOf_1 (by decide) ?_
    refine o_ri (va_runS (As := [.int (nI 3), .int (nI 4)]) (rest := []) ⟨hx, hb, hml, hown, hts⟩ (k_X4_isBelow l D cI cR cS cL 3 4 (by show 3 < 2 ^ 32; first | assumption | omega) (by show 4 < 2 ^ 31; first | assumption | omega)) (va_cwS 2 hts gX4_readerOf_X4_isBelow rfl rfl rfl (by decide +kernel) ⟨Nat.le_of_ble_eq_true rfl, Nat.le_of_ble_eq_true rfl⟩) (o_pR hK hN (hP.sub (ws' := []) [] rfl)) rfl rfl hl.1 rfl (lv_room (Nat.le_of_ble_eq_true rfl)) dX4_readerOf_2 ⟨Nat.zero_le _, Nat.zero_le _⟩) (fun r_123 e_122 => ?_)
    have e_122 : r_123 = nI (bn (3 < 4)) := e_122
    subst e_122
    refine o_ifnz (tgt := 18) hx hb dX4_readerOf_5 (by decide) (fun c_124 => ?_) (fun c_124 => ?_)
    · skip
      refine lv_aload_n hx hb dX4_readerOf_18 rfl (lv_at hl 0 rfl) ?_
      refine va_get (D := D) (ci := 4) (v := .ref (o 5)) (C := RX4) (T := TX4) (N := 6) hx hb hts inX4_readerOf_X4 hown hK hP 0 rfl rfl 0 (by decide) (hts (.fieldLink RX4 10 "OddNotice" "now" "LOddNotice$State;") (List.mem_of_getElem? (i := 5) (by decide +kernel))) (fun _ h9 => h9) rfl dX4_readerOf_19 ?_
      refine va_get (D := D) (ci := 2) (v := .ref (o 11)) (C := RX2) (T := TX2) (N := 4) hx hb hts inX4_readerOf_X2 hown hK hP 5 rfl rfl 1 (by decide) (hts (.fieldLink RX4 91 "OddNotice$State" "readers" "[LOddNotice$Reader;") (List.mem_of_getElem? (i := 6) (by decide +kernel))) (fun _ h9 => h9) rfl dX4_readerOf_22 ?_
      refine lv_iload_n hx hb dX4_readerOf_25 rfl (lv_at hl 1 rfl) ?_
      refine o_aldq (v := (o 21)) (C := "OddNotice$Reader") hx hb hK hP 6 1 rfl rfl (Nat.le_of_ble_eq_true rfl) (Nat.le_of_ble_eq_true rfl) rfl dX4_readerOf_26 ?_
      refine lv_astore_n (lv' := [(3, .ref (o 21)), (0, .ref (o 0)), (1, .int (nI 3)), (2, .int (nI 6))]) hx hb dX4_readerOf_27 rfl hl (by decide) rfl (fun ls hl => ?_)
      refine lv_iload_n hx hb dX4_readerOf_28 rfl (lv_at hl 3 rfl) ?_
      refine lv_tableIn (tgt := 135) (off := 106) hx hb dX4_readerOf_29 (by decide) (by decide) (by decide) (by decide) ?_
      refine lv_aload_n hx hb dX4_readerOf_135 rfl (lv_at hl 0 rfl) ?_
      refine va_get (D := D) (ci := 1) (v := .int (nI (v 14 2))) (C := RX1) (T := TX1) (N := 10) hx hb hts inX4_readerOf_X1 hown hK hP 21 rfl rfl 2 (by decide) (hts (.fieldLink RX4 199 "OddNotice$Reader" "holds" "Z") (List.mem_of_getElem? (i := 14) (by decide +kernel))) (fun _ h9 => h9) rfl dX4_readerOf_136 ?_
      refine o_if_eq (tgt := 159) hx hb dX4_readerOf_139 (by decide) (by omega) (fun c_125 => ?_) (fun c_125 => ?_)
      · skip
        refine o_const (k := 4294967295) hx hb dX4_readerOf_159 (by decide) ?_
        exact W.iret (v := nI 4294967295) hx hb hrt (fun t ht hW => ⟨_, rfl, (congrArg nI (Eq.symm (show c_rdr v 3 6 = _ from if_pos c_125))), ht⟩) (fun _ h => nomatch h) dX4_readerOf_160
      · skip
        refine lv_aload_n hx hb dX4_readerOf_142 rfl (lv_at hl 1 rfl) ?_
        refine va_get (D := D) (ci := 4) (v := .ref (o 5)) (C := RX4) (T := TX4) (N := 6) hx hb hts inX4_readerOf_X4 hown hK hP 0 rfl rfl 0 (by decide) (hts (.fieldLink RX4 10 "OddNotice" "now" "LOddNotice$State;") (List.mem_of_getElem? (i := 5) (by decide +kernel))) (fun _ h9 => h9) rfl dX4_readerOf_143 ?_
        refine va_get (D := D) (ci := 2) (v := .ref (o 6)) (C := RX2) (T := TX2) (N := 4) hx hb hts inX4_readerOf_X2 hown hK hP 5 rfl rfl 0 (by decide) (hts (.fieldLink RX4 42 "OddNotice$State" "board" "LOddNotice$Board;") (List.mem_of_getElem? (i := 15) (by decide +kernel))) (fun _ h9 => h9) rfl dX4_readerOf_146 ?_
        refine lv_aload_n hx hb dX4_readerOf_149 rfl (lv_at hl 0 rfl) ?_
        refine va_get (D := D) (ci := 1) (v := .ref (o 22)) (C := RX1) (T := TX1) (N := 10) hx hb hts inX4_readerOf_X1 hown hK hP 21 rfl rfl 8 (by decide) (hts (.fieldLink RX4 202 "OddNotice$Reader" "held" "[I") (List.mem_of_getElem? (i := 16) (by decide +kernel))) (fun _ h9 => h9) rfl dX4_readerOf_150 ?_
        refine o_ri (va_runV (As := [.ref (o 22)]) (rest := []) ⟨hx, hb, hml, hown, hts⟩ (k_X0_latestSame l D cI cR cS cL (fun k => o (k + 6)) v (o 22) (v 15) (by show v 0 0 < 2 ^ 30; first | assumption | omega)) (cwV 1 hts gX4_readerOf_X0_latestSame rfl rfl rfl (by decide +kernel) ⟨Nat.le_of_ble_eq_true rfl, Nat.le_of_ble_eq_true rfl⟩) (o_v (o_pR hK hN (hP.sub (ws' := (wB (fun k => o (k + 6)) cI v ++ [oa cI (o 22) 5 (v 15)])) [7, 8, 9, 10, 11, 22] rfl)) (va_recv hK hP (ci := 0) (q0 := 7) rfl rfl)) rfl rfl hl.1 rfl (lv_room (Nat.le_of_ble_eq_true rfl)) dX4_readerOf_153 ⟨Nat.zero_le _, Nat.zero_le _⟩) (fun r_127 e_126 => ?_)
        have e_126 : r_127 = nI (b_ls (v 4) (v 15) (v 0 0 / 2) 16 0) := e_126
        subst e_126
        have gv_128 := (b_ls_lt (by omega) 16 0 : b_ls (v 4) (v 15) (v 0 0 / 2) 16 0 < 2 ^ 32)
        refine lv_goto (tgt := 160) hx hb dX4_readerOf_156 (by decide) ?_
        exact W.iret (v := nI (b_ls (v 4) (v 15) (v 0 0 / 2) 16 0)) hx hb hrt (fun t ht hW => ⟨_, rfl, (congrArg nI (Eq.symm (show c_rdr v 3 6 = _ from if_neg c_125))), ht⟩) (fun _ h => nomatch h) dX4_readerOf_160
    · skip
      exfalso
      omega
  · skip
    have hSc := hSI
    obtain ⟨⟨i1, i2, i3, hpl⟩, i5⟩ := hSI
    have i12 := i5 3 (by omega)
    unfold s_IR at i12
    simp only [Nat.reduceMul, Nat.reduceAdd] at i12
    refine lv_iload_n hx hb dX4_readerOf_0 rfl (lv_at hl 1 rfl) ?_
    refine o_const (k := 4) hx hb dX4_readerOf_1 (by decide) ?_
    refine o_ri (va_runS (As := [.int (nI 3), .int (nI 4)]) (rest := []) ⟨hx, hb, hml, hown, hts⟩ (k_X4_isBelow l D cI cR cS cL 3 4 (by show 3 < 2 ^ 32; first | assumption | omega) (by show 4 < 2 ^ 31; first | assumption | omega)) (va_cwS 2 hts gX4_readerOf_X4_isBelow rfl rfl rfl (by decide +kernel) ⟨Nat.le_of_ble_eq_true rfl, Nat.le_of_ble_eq_true rfl⟩) (o_pR hK hN (hP.sub (ws' := []) [] rfl)) rfl rfl hl.1 rfl (lv_room (Nat.le_of_ble_eq_true rfl)) dX4_readerOf_2 ⟨Nat.zero_le _, Nat.zero_le _⟩) (fun r_130 e_129 => ?_)
    have e_129 : r_130 = nI (bn (3 < 4)) := e_129
    subst e_129
    refine o_ifnz (tgt := 18) hx hb dX4_readerOf_5 (by decide) (fun c_131 => ?_) (fun c_131 => ?_)
    · skip
      refine lv_aload_n hx hb dX4_readerOf_18 rfl (lv_at hl 0 rfl) ?_
      refine va_get (D := D) (ci := 4) (v := .ref (o 5)) (C := RX4) (T := TX4) (N := 6) hx hb hts inX4_readerOf_X4 hown hK hP 0 rfl rfl 0 (by decide) (hts (.fieldLink RX4 10 "OddNotice" "now" "LOddNotice$State;") (List.mem_of_getElem? (i := 5) (by decide +kernel))) (fun _ h9 => h9) rfl dX4_readerOf_19 ?_
      refine va_get (D := D) (ci := 2) (v := .ref (o 11)) (C := RX2) (T := TX2) (N := 4) hx hb hts inX4_readerOf_X2 hown hK hP 5 rfl rfl 1 (by decide) (hts (.fieldLink RX4 91 "OddNotice$State" "readers" "[LOddNotice$Reader;") (List.mem_of_getElem? (i := 6) (by decide +kernel))) (fun _ h9 => h9) rfl dX4_readerOf_22 ?_
      refine lv_iload_n hx hb dX4_readerOf_25 rfl (lv_at hl 1 rfl) ?_
      refine o_aldq (v := (o 21)) (C := "OddNotice$Reader") hx hb hK hP 6 1 rfl rfl (Nat.le_of_ble_eq_true rfl) (Nat.le_of_ble_eq_true rfl) rfl dX4_readerOf_26 ?_
      refine lv_astore_n (lv' := [(3, .ref (o 21)), (0, .ref (o 0)), (1, .int (nI 3)), (2, .int (nI 7))]) hx hb dX4_readerOf_27 rfl hl (by decide) rfl (fun ls hl => ?_)
      refine lv_iload_n hx hb dX4_readerOf_28 rfl (lv_at hl 3 rfl) ?_
      refine lv_tableIn (tgt := 161) (off := 132) hx hb dX4_readerOf_29 (by decide) (by decide) (by decide) (by decide) ?_
      refine lv_aload_n hx hb dX4_readerOf_161 rfl (lv_at hl 0 rfl) ?_
      refine va_get (D := D) (ci := 1) (v := .int (nI (v 14 0))) (C := RX1) (T := TX1) (N := 10) hx hb hts inX4_readerOf_X1 hown hK hP 21 rfl rfl 0 (by decide) (hts (.fieldLink RX4 95 "OddNotice$Reader" "heeds" "Z") (List.mem_of_getElem? (i := 17) (by decide +kernel))) (fun _ h9 => h9) rfl dX4_readerOf_162 ?_
      refine o_if_eq (tgt := 172) hx hb dX4_readerOf_165 (by decide) (by omega) (fun c_132 => ?_) (fun c_132 => ?_)
      · skip
        refine o_const (k := 0) hx hb dX4_readerOf_172 (by decide) ?_
        exact W.iret (v := nI 0) hx hb hrt (fun t ht hW => ⟨_, rfl, (congrArg nI (Eq.symm (show c_rdr v 3 7 = _ from if_pos c_132))), ht⟩) (fun _ h => nomatch h) dX4_readerOf_173
      · skip
        refine o_const (k := 1) hx hb dX4_readerOf_168 (by decide) ?_
        refine lv_goto (tgt := 173) hx hb dX4_readerOf_169 (by decide) ?_
        exact W.iret (v := nI 1) hx hb hrt (fun t ht hW => ⟨_, rfl, (congrArg nI (Eq.symm (show c_rdr v 3 7 = _ from if_neg c_132))), ht⟩) (fun _ h => nomatch h) dX4_readerOf_173
    · skip
      exfalso
      omega
theorem inX4_ifRead_X4 : ∀ w ∈ wsX40, w ∈ wsX4_ifRead := by decide +kernel
set_option maxHeartbeats 4000000 in
set_option maxRecDepth 100000 in
theorem k_X4_ifRead (l : Launch) (D : va_G) (cI cR cS cL : ClassId) (o : Nat → Nat) (x : Nat → Nat → Nat) (v : Nat → Nat → Nat) (tl : va_W) (b : Nat) (r : Nat) (hSI : s_I b v) (hb : b < 2 ^ 28) (hr : r < 4) : Met l yX4_ifRead wsX4_ifRead ({ frames := 3, cells := 0, slots := 0, locals := 63 }) (va_Pc [.ref (o 0), .int (nI r)] (o_R D (o_T cI cR cS cL) (wO o cI cR cS x v tl))) (vp_Si (fun rz => rz = nI (s_out v r))) 0 0 (fun _ => False) := by
  refine Met.ofW (cc := cX4_ifRead) (maxL := 2) (ret := (some .int)) (by decide) rfl ?_
  intro p e s m args below meth cd s₁ B hml hv
  obtain ⟨rfl, hP, hK, hN⟩ := hv
  have hx := B.exec
  have hb := B.bytes
  have hrt := B.returns
  have hts := atoms_spec (ws := wsX4_ifRead) B.pre
  have hown : s.vm.findClass RX4 = some m.cls := findClass_of_methodNamed B.named
  have hlocks := B.notSynchronized
  have hl := lv_entry ([.ref (o 0), .int (nI r)]) (n := 2) (Nat.le_of_ble_eq_true rfl)
  rw [lg_entry_eq]
  generalize (lg_sl ([.ref (o 0), .int (nI r)]) ++ List.replicate (2 - (lg_sl ([.ref (o 0), .int (nI r)])).length) Slot.unset).toArray = ls at hl ⊢
  have hl : lv_has ls 2 [(0, .ref (o 0)), (1, .int (nI r))] := hl
  refine lv_iload_n hx hb dX4_ifRead_0 rfl (lv_at hl 1 rfl) ?_
  refine o_const (k := 4) hx hb dX4_ifRead_1 (by decide) ?_
  refine o_ri (va_runS (As := [.int (nI r), .int (nI 4)]) (rest := []) ⟨hx, hb, hml, hown, hts⟩ (k_X4_isBelow l D cI cR cS cL r 4 (by show r < 2 ^ 32; first | assumption | omega) (by show 4 < 2 ^ 31; first | assumption | omega)) (va_cwS 2 hts gX4_ifRead_X4_isBelow rfl rfl rfl (by decide +kernel) ⟨Nat.le_of_ble_eq_true rfl, Nat.le_of_ble_eq_true rfl⟩) (o_pR hK hN (hP.sub (ws' := []) [] rfl)) rfl rfl hl.1 rfl (lv_room (Nat.le_of_ble_eq_true rfl)) dX4_ifRead_2 ⟨Nat.zero_le _, Nat.zero_le _⟩) (fun r_2 e_1 => ?_)
  have e_1 : r_2 = nI (bn (r < 4)) := e_1
  subst e_1
  refine o_ifnz (tgt := 18) hx hb dX4_ifRead_5 (by decide) (fun c_3 => ?_) (fun c_3 => ?_)
  · skip
    refine lv_aload_n hx hb dX4_ifRead_18 rfl (lv_at hl 0 rfl) ?_
    refine va_get (D := D) (ci := 4) (v := .ref (o 5)) (C := RX4) (T := TX4) (N := 6) hx hb hts inX4_ifRead_X4 hown hK hP 0 rfl rfl 0 (by decide) (hts (.fieldLink RX4 10 "OddNotice" "now" "LOddNotice$State;") (List.mem_of_getElem? (i := 3) (by decide +kernel))) (fun _ h9 => h9) rfl dX4_ifRead_19 ?_
    refine lv_iload_n hx hb dX4_ifRead_22 rfl (lv_at hl 1 rfl) ?_
    refine o_ri (va_runV (As := [.int (nI r)]) (rest := []) ⟨hx, hb, hml, hown, hts⟩ (k_X2_outcome l D cI cR cS cL (fun k => o (k + 5)) v b r (by show s_I b v; first | assumption | omega) (by show b < 2 ^ 28; first | assumption | omega) (by show r < 4; first | assumption | omega)) (cwV 1 hts gX4_ifRead_X2_outcome rfl rfl rfl (by decide +kernel) ⟨Nat.le_of_ble_eq_true rfl, Nat.le_of_ble_eq_true rfl⟩) (o_v (o_pR hK hN (hP.sub (ws' := (wS (fun k => o (k + 5)) cI cR v)) [5, 6, 7, 8, 9, 10, 11, 12, 13, 14, 15, 16, 17, 18, 19, 20, 21, 22, 23] rfl)) (va_recv hK hP (ci := 2) (q0 := 5) rfl rfl)) rfl rfl hl.1 rfl (lv_room (Nat.le_of_ble_eq_true rfl)) dX4_ifRead_23 ⟨Nat.zero_le _, Nat.zero_le _⟩) (fun r_5 e_4 => ?_)
    have e_4 : r_5 = nI (s_out v r) := e_4
    subst e_4
    exact W.iret (v := nI (s_out v r)) hx hb hrt (fun t ht hW => ⟨_, rfl, rfl, ht⟩) (fun _ h => nomatch h) dX4_ifRead_26
  · skip
    exfalso
    omega
theorem inX4_busy_X4 : ∀ w ∈ wsX40, w ∈ wsX4_busy := by decide +kernel
theorem inX4_busy_X2 : ∀ w ∈ wsX20, w ∈ wsX4_busy := by decide +kernel
set_option maxHeartbeats 4000000 in
set_option maxRecDepth 100000 in
theorem k_X4_busy (l : Launch) (D : va_G) (cI cR cS cL : ClassId) (o : Nat → Nat) (x : Nat → Nat → Nat) (v : Nat → Nat → Nat) (tl : va_W) (b : Nat) (hSI : s_I b v) (hb : b < 2 ^ 28) : Met l yX4_busy wsX4_busy ({ frames := 2, cells := 0, slots := 0, locals := 43 }) (va_Pc [.ref (o 0)] (o_R D (o_T cI cR cS cL) (wO o cI cR cS x v tl))) (vp_Si (fun rz => rz = nI (b_inl (v 3)))) 0 0 (fun _ => False) := by
  refine Met.ofW (cc := cX4_busy) (maxL := 1) (ret := (some .int)) (by decide) rfl ?_
  intro p e s m args below meth cd s₁ B hml hv
  obtain ⟨rfl, hP, hK, hN⟩ := hv
  have hx := B.exec
  have hb := B.bytes
  have hrt := B.returns
  have hts := atoms_spec (ws := wsX4_busy) B.pre
  have hown : s.vm.findClass RX4 = some m.cls := findClass_of_methodNamed B.named
  have hlocks := B.notSynchronized
  have hl := lv_entry ([.ref (o 0)]) (n := 1) (Nat.le_of_ble_eq_true rfl)
  rw [lg_entry_eq]
  generalize (lg_sl ([.ref (o 0)]) ++ List.replicate (1 - (lg_sl ([.ref (o 0)])).length) Slot.unset).toArray = ls at hl ⊢
  have hl : lv_has ls 1 [(0, .ref (o 0))] := hl
  have hSc := hSI
  obtain ⟨⟨i1, i2, i3, hpl⟩, i5⟩ := hSI
  refine lv_aload_n hx hb dX4_busy_0 rfl (lv_at hl 0 rfl) ?_
  refine va_get (D := D) (ci := 4) (v := .ref (o 5)) (C := RX4) (T := TX4) (N := 6) hx hb hts inX4_busy_X4 hown hK hP 0 rfl rfl 0 (by decide) (hts (.fieldLink RX4 10 "OddNotice" "now" "LOddNotice$State;") (List.mem_of_getElem? (i := 1) (by decide +kernel))) (fun _ h9 => h9) rfl dX4_busy_1 ?_
  refine va_get (D := D) (ci := 2) (v := .ref (o 6)) (C := RX2) (T := TX2) (N := 4) hx hb hts inX4_busy_X2 hown hK hP 5 rfl rfl 0 (by decide) (hts (.fieldLink RX4 42 "OddNotice$State" "board" "LOddNotice$Board;") (List.mem_of_getElem? (i := 2) (by decide +kernel))) (fun _ h9 => h9) rfl dX4_busy_4 ?_
  refine o_ri (va_runV (As := []) (rest := []) ⟨hx, hb, hml, hown, hts⟩ (k_X0_inLine l D cI cR cS cL (fun k => o (k + 6)) v (fun c hc => by have := hpl c hc; omega)) (cwV 0 hts gX4_busy_X0_inLine rfl rfl rfl (by decide +kernel) ⟨Nat.le_of_ble_eq_true rfl, Nat.le_of_ble_eq_true rfl⟩) (o_v (o_pR hK hN (hP.sub (ws' := (wB (fun k => o (k + 6)) cI v)) [7, 8, 9, 10, 11] rfl)) (va_recv hK hP (ci := 0) (q0 := 7) rfl rfl)) rfl rfl hl.1 rfl (lv_room (Nat.le_of_ble_eq_true rfl)) dX4_busy_7 ⟨Nat.zero_le _, Nat.zero_le _⟩) (fun r_2 e_1 => ?_)
  have e_1 : r_2 = nI (b_inl (v 3)) := e_1
  subst e_1
  exact W.iret (v := nI (b_inl (v 3))) hx hb hrt (fun t ht hW => ⟨_, rfl, rfl, ht⟩) (fun _ h => nomatch h) dX4_busy_10
theorem inX4_wellShare_X4 : ∀ w ∈ wsX40, w ∈ wsX4_wellShare := by decide +kernel
set_option maxHeartbeats 4000000 in
set_option maxRecDepth 100000 in
theorem k_X4_wellShare (l : Launch) (D : va_G) (cI cR cS cL : ClassId) (o : Nat → Nat) (x : Nat → Nat → Nat) (v : Nat → Nat → Nat) (tl : va_W) (b : Nat) (hSI : s_I b v) (hb : b < 2 ^ 28) : Met l yX4_wellShare wsX4_wellShare ({ frames := 1, cells := 0, slots := 0, locals := 22 }) (va_Pc [.ref (o 0)] (o_R D (o_T cI cR cS cL) (wO o cI cR cS x v tl))) (vp_Sd (fun rz => rz = (c_share v))) 0 0 (fun _ => False) := by
  refine Met.ofW (cc := cX4_wellShare) (maxL := 3) (ret := (some .double)) (by decide) rfl ?_
  intro p e s m args below meth cd s₁ B hml hv
  obtain ⟨rfl, hP, hK, hN⟩ := hv
  have hx := B.exec
  have hb := B.bytes
  have hrt := B.returns
  have hts := atoms_spec (ws := wsX4_wellShare) B.pre
  have hown : s.vm.findClass RX4 = some m.cls := findClass_of_methodNamed B.named
  have hlocks := B.notSynchronized
  have hl := lv_entry ([.ref (o 0)]) (n := 3) (Nat.le_of_ble_eq_true rfl)
  rw [lg_entry_eq]
  generalize (lg_sl ([.ref (o 0)]) ++ List.replicate (3 - (lg_sl ([.ref (o 0)])).length) Slot.unset).toArray = ls at hl ⊢
  have hl : lv_has ls 3 [(0, .ref (o 0))] := hl
  have l6 := s_sum_le hSI (Or.inl rfl)
  have l7 := s_sum_le hSI (Or.inr rfl)
  refine lv_aload_n hx hb dX4_wellShare_0 rfl (lv_at hl 0 rfl) ?_
  refine va_get (D := D) (ci := 4) (v := .ref (o 5)) (C := RX4) (T := TX4) (N := 6) hx hb hts inX4_wellShare_X4 hown hK hP 0 rfl rfl 0 (by decide) (hts (.fieldLink RX4 10 "OddNotice" "now" "LOddNotice$State;") (List.mem_of_getElem? (i := 1) (by decide +kernel))) (fun _ h9 => h9) rfl dX4_wellShare_1 ?_
  refine o_ri (va_runV (As := []) (rest := []) ⟨hx, hb, hml, hown, hts⟩ (k_X2_wellOfAll l D cI cR cS cL (fun k => o (k + 5)) v b (by show s_I b v; first | assumption | omega) (by show b < 2 ^ 28; first | assumption | omega)) (cwV 0 hts gX4_wellShare_X2_wellOfAll rfl rfl rfl (by decide +kernel) ⟨Nat.le_of_ble_eq_true rfl, Nat.le_of_ble_eq_true rfl⟩) (o_v (o_pR hK hN (hP.sub (ws' := (wS (fun k => o (k + 5)) cI cR v)) [5, 6, 7, 8, 9, 10, 11, 12, 13, 14, 15, 16, 17, 18, 19, 20, 21, 22, 23] rfl)) (va_recv hK hP (ci := 2) (q0 := 5) rfl rfl)) rfl rfl hl.1 rfl (lv_room (Nat.le_of_ble_eq_true rfl)) dX4_wellShare_4 ⟨Nat.zero_le _, Nat.zero_le _⟩) (fun r_2 e_1 => ?_)
  have e_1 : r_2 = nI (s_sum v 7) := e_1
  subst e_1
  refine lv_istore_n (lv' := [(1, .int (nI (s_sum v 7))), (0, .ref (o 0))]) hx hb dX4_wellShare_7 rfl hl (by decide) rfl (fun ls hl => ?_)
  refine lv_iload_n hx hb dX4_wellShare_8 rfl (lv_at hl 0 rfl) ?_
  refine lv_aload_n hx hb dX4_wellShare_9 rfl (lv_at hl 1 rfl) ?_
  refine va_get (D := D) (ci := 4) (v := .ref (o 5)) (C := RX4) (T := TX4) (N := 6) hx hb hts inX4_wellShare_X4 hown hK hP 0 rfl rfl 0 (by decide) (hts (.fieldLink RX4 10 "OddNotice" "now" "LOddNotice$State;") (List.mem_of_getElem? (i := 1) (by decide +kernel))) (fun _ h9 => h9) rfl dX4_wellShare_10 ?_
  refine o_ri (va_runV (As := []) (rest := [.int (nI (s_sum v 7))]) ⟨hx, hb, hml, hown, hts⟩ (k_X2_failedOfAll l D cI cR cS cL (fun k => o (k + 5)) v b (by show s_I b v; first | assumption | omega) (by show b < 2 ^ 28; first | assumption | omega)) (cwV 0 hts gX4_wellShare_X2_failedOfAll rfl rfl rfl (by decide +kernel) ⟨Nat.le_of_ble_eq_true rfl, Nat.le_of_ble_eq_true rfl⟩) (o_v (o_pR hK hN (hP.sub (ws' := (wS (fun k => o (k + 5)) cI cR v)) [5, 6, 7, 8, 9, 10, 11, 12, 13, 14, 15, 16, 17, 18, 19, 20, 21, 22, 23] rfl)) (va_recv hK hP (ci := 2) (q0 := 5) rfl rfl)) rfl rfl hl.1 rfl (lv_room (Nat.le_of_ble_eq_true rfl)) dX4_wellShare_13 ⟨Nat.zero_le _, Nat.zero_le _⟩) (fun r_4 e_3 => ?_)
  have e_3 : r_4 = nI (s_sum v 6) := e_3
  subst e_3
  refine o_iadd (a := (s_sum v 7)) (b := (s_sum v 6)) (k := ((s_sum v 7) + (s_sum v 6))) hx hb dX4_wellShare_16 rfl ?_
  refine lv_istore_n (lv' := [(2, .int (nI ((s_sum v 7) + (s_sum v 6)))), (1, .int (nI (s_sum v 7))), (0, .ref (o 0))]) hx hb dX4_wellShare_17 rfl hl (by decide) rfl (fun ls hl => ?_)
  refine lv_iload_n hx hb dX4_wellShare_18 rfl (lv_at hl 0 rfl) ?_
  refine o_if_gt (tgt := 26) hx hb dX4_wellShare_19 (by decide) (by omega) (fun c_5 => ?_) (fun c_5 => ?_)
  · skip
    refine lv_iload_n hx hb dX4_wellShare_26 rfl (lv_at hl 1 rfl) ?_
    refine lv_i2d hx hb dX4_wellShare_27 ?_
    refine lv_iload_n hx hb dX4_wellShare_28 rfl (lv_at hl 0 rfl) ?_
    refine lv_i2d hx hb dX4_wellShare_29 ?_
    refine lv_ddiv hx hb dX4_wellShare_30 (o_div_n (by omega) (by omega)) ?_
    exact W.dret (v := (FP.ddiv (FP.i2d (nI (s_sum v 7))) (FP.i2d (nI ((s_sum v 7) + (s_sum v 6)))))) hx hb hrt (fun t ht hW => ⟨_, rfl, (by unfold c_share; rw [if_neg (by omega)]), ht⟩) (fun _ h => nomatch h) dX4_wellShare_31
  · skip
    refine lv_dconst1 hx hb dX4_wellShare_22 ?_
    refine lv_goto (tgt := 31) hx hb dX4_wellShare_23 (by decide) ?_
    exact W.dret (v := FP.dconst1) hx hb hrt (fun t ht hW => ⟨_, rfl, (by unfold c_share; rw [if_pos (by omega)]), ht⟩) (fun _ h => nomatch h) dX4_wellShare_31
