set_option maxHeartbeats 4000000 in
set_option maxRecDepth 100000 in
theorem x_X4_come_2 (l : Launch) (D : va_G) (cI cR cS cL : ClassId) (hfl : l.stackTraces = false) (o : Nat → Nat) (x : Nat → Nat → Nat) (v : Nat → Nat → Nat) (tl : va_W) (b : Nat) (c : Nat) (hSI : s_I b v) (hb : b < 2 ^ 28) (hc : c < 3) (hbad : ¬ v 3 c = 4294967295) : vx_Met l yX4_come wsX4_come ({ frames := 6, cells := 1, slots := 6, locals := 82 }) (va_Pc [.ref (o 0), .int (nI c)] (o_E D (o_T cI cR cS cL) (wO o cI cR cS x v tl))) o_xq (o_xc nmS) 1 6 o_no := by
  refine vx_ofW (cc := cX4_come) (maxL := 2) (ret := (some .int)) (by decide) rfl ?_
  intro p e s m args below meth cd s₁ B hml htb hv
  obtain ⟨rfl, hP, hK, hG⟩ := hv
  have hN := hG.1
  have hx := B.exec
  have hb := B.bytes
  have hrt := B.returns
  have hts := atoms_spec (ws := wsX4_come) B.pre
  have hown : s.vm.findClass RX4 = some m.cls := findClass_of_methodNamed B.named
  have hlocks := B.notSynchronized
  have hl := lv_entry ([.ref (o 0), .int (nI c)]) (n := 2) (Nat.le_of_ble_eq_true rfl)
  rw [lg_entry_eq]
  generalize (lg_sl ([.ref (o 0), .int (nI c)]) ++ List.replicate (2 - (lg_sl ([.ref (o 0), .int (nI c)])).length) Slot.unset).toArray = ls at hl ⊢
  have hl : lv_has ls 2 [(0, .ref (o 0)), (1, .int (nI c))] := hl
  have hSc := hSI
  obtain ⟨⟨i1, i2, i3, hpl⟩, i5⟩ := hSI
  refine lv_iload_n hx hb dX4_come_0 rfl (lv_at hl 1 rfl) ?_
  refine o_const (k := 3) hx hb dX4_come_1 (by decide) ?_
  refine o_ri (va_runS (As := [.int (nI c), .int (nI 3)]) (rest := []) ⟨hx, hb, hml, hown, hts⟩ (k_X4_isBelow l D cI cR cS cL c 3 (by show c < 2 ^ 32; first | assumption | omega) (by show 3 < 2 ^ 31; first | assumption | omega)) (va_cwS 2 hts gX4_come_X4_isBelow rfl rfl rfl (by decide +kernel) ⟨Nat.le_of_ble_eq_true rfl, Nat.le_of_ble_eq_true rfl⟩) (o_pR hK hN (hP.sub (ws' := []) [] rfl)) rfl rfl hl.1 rfl (lv_room (Nat.le_of_ble_eq_true rfl)) dX4_come_2 ⟨Nat.zero_le _, Nat.zero_le _⟩) (fun r_2 e_1 => ?_)
  have e_1 : r_2 = nI (bn (c < 3)) := e_1
  subst e_1
  refine o_ifnz (tgt := 18) hx hb dX4_come_5 (by decide) (fun _ => ?_) (fun z => absurd hc z)
  refine lv_aload_n hx hb dX4_come_18 rfl (lv_at hl 0 rfl) ?_
  refine va_get (D := D) (ci := 4) (v := .ref (o 5)) (C := RX4) (T := TX4) (N := 6) hx hb hts inX4_come_X4 hown hK hP 0 rfl rfl 0 (by decide) (hts (.fieldLink RX4 10 "OddNotice" "now" "LOddNotice$State;") (List.mem_of_getElem? (i := 5) (by decide +kernel))) (fun _ h9 => h9) rfl dX4_come_19 ?_
  refine va_get (D := D) (ci := 2) (v := .ref (o 6)) (C := RX2) (T := TX2) (N := 4) hx hb hts inX4_come_X2 hown hK hP 5 rfl rfl 0 (by decide) (hts (.fieldLink RX4 42 "OddNotice$State" "board" "LOddNotice$Board;") (List.mem_of_getElem? (i := 6) (by decide +kernel))) (fun _ h9 => h9) rfl dX4_come_22 ?_
  refine lv_iload_n hx hb dX4_come_25 rfl (lv_at hl 1 rfl) ?_
  refine o_ri (va_runV (As := [.int (nI c)]) (rest := []) ⟨hx, hb, hml, hown, hts⟩ (k_X0_isAway l D cI cR cS cL (fun k => o (k + 6)) v c (by show c < 3; first | assumption | omega) (by have := hpl c (by omega); omega)) (cwV 1 hts gX4_come_X0_isAway rfl rfl rfl (by decide +kernel) ⟨Nat.le_of_ble_eq_true rfl, Nat.le_of_ble_eq_true rfl⟩) (o_v (o_pR hK hN (hP.sub (ws' := (wB (fun k => o (k + 6)) cI v)) [7, 8, 9, 10, 11] rfl)) (va_recv hK hP (ci := 0) (q0 := 7) rfl rfl)) rfl rfl hl.1 rfl (lv_room (Nat.le_of_ble_eq_true rfl)) dX4_come_26 ⟨Nat.zero_le _, Nat.zero_le _⟩) (fun r_4 e_3 => ?_)
  have e_3 : r_4 = nI (bn (v 3 c = 4294967295)) := e_3
  subst e_3
  refine o_ifnz (tgt := 42) hx hb dX4_come_29 (by decide) (fun z => absurd z hbad) (fun _ => ?_)
  obtain ⟨sa, hsa⟩ := hG.2.2.1 (54, "the clerk chalks or waits") (List.mem_of_getElem? (i := 1) rfl)
  refine vx_throwS (own := RX4) (cls := nmS) (text := "the clerk chalks or waits") (names := nmU) (ik := 52) (is := 54) (ic := 56) (mc := 1) (ms := 6) (sa := sa) (A := o_no) hx hb hfl hown (by decide) (by decide) (hts (.classLink RX4 52 "java/lang/IllegalStateException") (List.mem_of_getElem? (i := 3) (by decide +kernel))) (hts (.initialized "java/lang/IllegalStateException") (List.mem_of_getElem? (i := 4) (by decide +kernel))) hsa (vx_hat (fun w h => hts w (List.mem_cons_of_mem _ (List.mem_append_right _ h))) (B := [.castable nmS nmS, .declares (Bundle.initS "java/lang/RuntimeException"), .declares (Bundle.initS "java/lang/Exception"), .declares (Bundle.initS Bundle.tN)]) (by decide +kernel) (vx_c (va_Nw.use (A := _) rfl hG.2.1.1.2.2) (o_CD hG.2.1))) (by decide +kernel) hG.2.2.2.1 hG.2.2.2.2 va_S.rf (hl.1.trans hml.symm) dX4_come_32 dX4_come_35 dX4_come_36 dX4_come_38 dX4_come_41 (fun x h => (htb x h).elim) (Nat.le_of_ble_eq_true rfl) (Nat.le_of_ble_eq_true rfl) (Nat.le_of_ble_eq_true rfl) (Nat.le_of_ble_eq_true rfl) hlocks (fun t _ hz hq => ⟨(), trivial, rfl, hz, fun q h1 _ => hq q h1⟩) (fun z h => nomatch h) (Nat.le_of_ble_eq_true rfl) (Nat.le_of_ble_eq_true rfl)
set_option maxHeartbeats 4000000 in
set_option maxRecDepth 100000 in
theorem x_X4_chalk_3 (l : Launch) (D : va_G) (cI cR cS cL : ClassId) (hfl : l.stackTraces = false) (o : Nat → Nat) (x : Nat → Nat → Nat) (v : Nat → Nat → Nat) (tl : va_W) (b : Nat) (f : Nat) (y : Nat) (hSI : s_I b v) (hb : b < 2 ^ 28) (hf : f < 5) (hy : y < 100) (hbad : ¬ v 0 0 % 2 = 1) : vx_Met l yX4_chalk wsX4_chalk ({ frames := 6, cells := 1, slots := 6, locals := 82 }) (va_Pc [.ref (o 0), .int (nI f), .int (nI y)] (o_E D (o_T cI cR cS cL) (wO o cI cR cS x v tl))) o_xq (o_xc nmS) 1 6 o_no := by
  refine vx_ofW (cc := cX4_chalk) (maxL := 3) (ret := (some .int)) (by decide) rfl ?_
  intro p e s m args below meth cd s₁ B hml htb hv
  obtain ⟨rfl, hP, hK, hG⟩ := hv
  have hN := hG.1
  have hx := B.exec
  have hb := B.bytes
  have hrt := B.returns
  have hts := atoms_spec (ws := wsX4_chalk) B.pre
  have hown : s.vm.findClass RX4 = some m.cls := findClass_of_methodNamed B.named
  have hlocks := B.notSynchronized
  have hl := lv_entry ([.ref (o 0), .int (nI f), .int (nI y)]) (n := 3) (Nat.le_of_ble_eq_true rfl)
  rw [lg_entry_eq]
  generalize (lg_sl ([.ref (o 0), .int (nI f), .int (nI y)]) ++ List.replicate (3 - (lg_sl ([.ref (o 0), .int (nI f), .int (nI y)])).length) Slot.unset).toArray = ls at hl ⊢
  have hl : lv_has ls 3 [(0, .ref (o 0)), (1, .int (nI f)), (2, .int (nI y))] := hl
  have hSc := hSI
  obtain ⟨⟨i1, i2, i3, hpl⟩, i5⟩ := hSI
  refine lv_iload_n hx hb dX4_chalk_0 rfl (lv_at hl 1 rfl) ?_
  refine o_const (k := 5) hx hb dX4_chalk_1 (by decide) ?_
  refine o_ri (va_runS (As := [.int (nI f), .int (nI 5)]) (rest := []) ⟨hx, hb, hml, hown, hts⟩ (k_X4_isBelow l D cI cR cS cL f 5 (by show f < 2 ^ 32; first | assumption | omega) (by show 5 < 2 ^ 31; first | assumption | omega)) (va_cwS 2 hts gX4_chalk_X4_isBelow rfl rfl rfl (by decide +kernel) ⟨Nat.le_of_ble_eq_true rfl, Nat.le_of_ble_eq_true rfl⟩) (o_pR hK hN (hP.sub (ws' := []) [] rfl)) rfl rfl hl.1 rfl (lv_room (Nat.le_of_ble_eq_true rfl)) dX4_chalk_2 ⟨Nat.zero_le _, Nat.zero_le _⟩) (fun r_2 e_1 => ?_)
  have e_1 : r_2 = nI (bn (f < 5)) := e_1
  subst e_1
  refine o_ifnz (tgt := 18) hx hb dX4_chalk_5 (by decide) (fun _ => ?_) (fun z => absurd hf z)
  refine lv_iload_n hx hb dX4_chalk_18 rfl (lv_at hl 2 rfl) ?_
  refine o_bipush (k := 100) hx hb dX4_chalk_19 (by decide) ?_
  refine o_ri (va_runS (As := [.int (nI y), .int (nI 100)]) (rest := []) ⟨hx, hb, hml, hown, hts⟩ (k_X4_isBelow l D cI cR cS cL y 100 (by show y < 2 ^ 32; first | assumption | omega) (by show 100 < 2 ^ 31; first | assumption | omega)) (va_cwS 2 hts gX4_chalk_X4_isBelow rfl rfl rfl (by decide +kernel) ⟨Nat.le_of_ble_eq_true rfl, Nat.le_of_ble_eq_true rfl⟩) (o_pR hK hN (hP.sub (ws' := []) [] rfl)) rfl rfl hl.1 rfl (lv_room (Nat.le_of_ble_eq_true rfl)) dX4_chalk_21 ⟨Nat.zero_le _, Nat.zero_le _⟩) (fun r_4 e_3 => ?_)
  have e_3 : r_4 = nI (bn (y < 100)) := e_3
  subst e_3
  refine o_ifnz (tgt := 37) hx hb dX4_chalk_24 (by decide) (fun _ => ?_) (fun z => absurd hy z)
  refine lv_aload_n hx hb dX4_chalk_37 rfl (lv_at hl 0 rfl) ?_
  refine va_get (D := D) (ci := 4) (v := .ref (o 5)) (C := RX4) (T := TX4) (N := 6) hx hb hts inX4_chalk_X4 hown hK hP 0 rfl rfl 0 (by decide) (hts (.fieldLink RX4 10 "OddNotice" "now" "LOddNotice$State;") (List.mem_of_getElem? (i := 7) (by decide +kernel))) (fun _ h9 => h9) rfl dX4_chalk_38 ?_
  refine va_get (D := D) (ci := 2) (v := .ref (o 6)) (C := RX2) (T := TX2) (N := 4) hx hb hts inX4_chalk_X2 hown hK hP 5 rfl rfl 0 (by decide) (hts (.fieldLink RX4 42 "OddNotice$State" "board" "LOddNotice$Board;") (List.mem_of_getElem? (i := 8) (by decide +kernel))) (fun _ h9 => h9) rfl dX4_chalk_41 ?_
  refine o_ri (va_runV (As := []) (rest := []) ⟨hx, hb, hml, hown, hts⟩ (k_X0_isOdd l D cI cR cS cL (fun k => o (k + 6)) v (by show v 0 0 < 2 ^ 31; first | assumption | omega)) (cwV 0 hts gX4_chalk_X0_isOdd rfl rfl rfl (by decide +kernel) ⟨Nat.le_of_ble_eq_true rfl, Nat.le_of_ble_eq_true rfl⟩) (o_v (o_pR hK hN (hP.sub (ws' := (wB (fun k => o (k + 6)) cI v)) [7, 8, 9, 10, 11] rfl)) (va_recv hK hP (ci := 0) (q0 := 7) rfl rfl)) rfl rfl hl.1 rfl (lv_room (Nat.le_of_ble_eq_true rfl)) dX4_chalk_44 ⟨Nat.zero_le _, Nat.zero_le _⟩) (fun r_6 e_5 => ?_)
  have e_5 : r_6 = nI (bn (v 0 0 % 2 = 1)) := e_5
  subst e_5
  refine o_ifnz (tgt := 60) hx hb dX4_chalk_47 (by decide) (fun z => absurd z hbad) (fun _ => ?_)
  obtain ⟨sa, hsa⟩ := hG.2.2.1 (75, "nobody chalks") (List.mem_of_getElem? (i := 4) rfl)
  refine vx_throwS (own := RX4) (cls := nmS) (text := "nobody chalks") (names := nmU) (ik := 52) (is := 75) (ic := 56) (mc := 1) (ms := 6) (sa := sa) (A := o_no) hx hb hfl hown (by decide) (by decide) (hts (.classLink RX4 52 "java/lang/IllegalStateException") (List.mem_of_getElem? (i := 5) (by decide +kernel))) (hts (.initialized "java/lang/IllegalStateException") (List.mem_of_getElem? (i := 6) (by decide +kernel))) hsa (vx_hat (fun w h => hts w (List.mem_cons_of_mem _ (List.mem_append_right _ h))) (B := [.castable nmS nmS, .declares (Bundle.initS "java/lang/RuntimeException"), .declares (Bundle.initS "java/lang/Exception"), .declares (Bundle.initS Bundle.tN)]) (by decide +kernel) (vx_c (va_Nw.use (A := _) rfl hG.2.1.1.2.2) (o_CD hG.2.1))) (by decide +kernel) hG.2.2.2.1 hG.2.2.2.2 va_S.rf (hl.1.trans hml.symm) dX4_chalk_50 dX4_chalk_53 dX4_chalk_54 dX4_chalk_56 dX4_chalk_59 (fun x h => (htb x h).elim) (Nat.le_of_ble_eq_true rfl) (Nat.le_of_ble_eq_true rfl) (Nat.le_of_ble_eq_true rfl) (Nat.le_of_ble_eq_true rfl) hlocks (fun t _ hz hq => ⟨(), trivial, rfl, hz, fun q h1 _ => hq q h1⟩) (fun z h => nomatch h) (Nat.le_of_ble_eq_true rfl) (Nat.le_of_ble_eq_true rfl)
set_option maxHeartbeats 4000000 in
set_option maxRecDepth 100000 in
theorem x_X4_done_2 (l : Launch) (D : va_G) (cI cR cS cL : ClassId) (hfl : l.stackTraces = false) (o : Nat → Nat) (x : Nat → Nat → Nat) (v : Nat → Nat → Nat) (tl : va_W) (b : Nat) (c : Nat) (hSI : s_I b v) (hb : b < 2 ^ 28) (hc : c < 3) (hbad : ¬ v 3 c = 0) : vx_Met l yX4_done wsX4_done ({ frames := 6, cells := 1, slots := 6, locals := 82 }) (va_Pc [.ref (o 0), .int (nI c)] (o_E D (o_T cI cR cS cL) (wO o cI cR cS x v tl))) o_xq (o_xc nmS) 1 6 o_no := by
  refine vx_ofW (cc := cX4_done) (maxL := 2) (ret := (some .int)) (by decide) rfl ?_
  intro p e s m args below meth cd s₁ B hml htb hv
  obtain ⟨rfl, hP, hK, hG⟩ := hv
  have hN := hG.1
  have hx := B.exec
  have hb := B.bytes
  have hrt := B.returns
  have hts := atoms_spec (ws := wsX4_done) B.pre
  have hown : s.vm.findClass RX4 = some m.cls := findClass_of_methodNamed B.named
  have hlocks := B.notSynchronized
  have hl := lv_entry ([.ref (o 0), .int (nI c)]) (n := 2) (Nat.le_of_ble_eq_true rfl)
  rw [lg_entry_eq]
  generalize (lg_sl ([.ref (o 0), .int (nI c)]) ++ List.replicate (2 - (lg_sl ([.ref (o 0), .int (nI c)])).length) Slot.unset).toArray = ls at hl ⊢
  have hl : lv_has ls 2 [(0, .ref (o 0)), (1, .int (nI c))] := hl
  have hSc := hSI
  obtain ⟨⟨i1, i2, i3, hpl⟩, i5⟩ := hSI
  refine lv_iload_n hx hb dX4_done_0 rfl (lv_at hl 1 rfl) ?_
  refine o_const (k := 3) hx hb dX4_done_1 (by decide) ?_
  refine o_ri (va_runS (As := [.int (nI c), .int (nI 3)]) (rest := []) ⟨hx, hb, hml, hown, hts⟩ (k_X4_isBelow l D cI cR cS cL c 3 (by show c < 2 ^ 32; first | assumption | omega) (by show 3 < 2 ^ 31; first | assumption | omega)) (va_cwS 2 hts gX4_done_X4_isBelow rfl rfl rfl (by decide +kernel) ⟨Nat.le_of_ble_eq_true rfl, Nat.le_of_ble_eq_true rfl⟩) (o_pR hK hN (hP.sub (ws' := []) [] rfl)) rfl rfl hl.1 rfl (lv_room (Nat.le_of_ble_eq_true rfl)) dX4_done_2 ⟨Nat.zero_le _, Nat.zero_le _⟩) (fun r_2 e_1 => ?_)
  have e_1 : r_2 = nI (bn (c < 3)) := e_1
  subst e_1
  refine o_ifnz (tgt := 18) hx hb dX4_done_5 (by decide) (fun _ => ?_) (fun z => absurd hc z)
  refine lv_aload_n hx hb dX4_done_18 rfl (lv_at hl 0 rfl) ?_
  refine va_get (D := D) (ci := 4) (v := .ref (o 5)) (C := RX4) (T := TX4) (N := 6) hx hb hts inX4_done_X4 hown hK hP 0 rfl rfl 0 (by decide) (hts (.fieldLink RX4 10 "OddNotice" "now" "LOddNotice$State;") (List.mem_of_getElem? (i := 5) (by decide +kernel))) (fun _ h9 => h9) rfl dX4_done_19 ?_
  refine va_get (D := D) (ci := 2) (v := .ref (o 6)) (C := RX2) (T := TX2) (N := 4) hx hb hts inX4_done_X2 hown hK hP 5 rfl rfl 0 (by decide) (hts (.fieldLink RX4 42 "OddNotice$State" "board" "LOddNotice$Board;") (List.mem_of_getElem? (i := 6) (by decide +kernel))) (fun _ h9 => h9) rfl dX4_done_22 ?_
  refine lv_iload_n hx hb dX4_done_25 rfl (lv_at hl 1 rfl) ?_
  refine o_ri (va_runV (As := [.int (nI c)]) (rest := []) ⟨hx, hb, hml, hown, hts⟩ (k_X0_isChalking l D cI cR cS cL (fun k => o (k + 6)) v c (by show c < 3; first | assumption | omega) (by have := hpl c (by omega); omega)) (cwV 1 hts gX4_done_X0_isChalking rfl rfl rfl (by decide +kernel) ⟨Nat.le_of_ble_eq_true rfl, Nat.le_of_ble_eq_true rfl⟩) (o_v (o_pR hK hN (hP.sub (ws' := (wB (fun k => o (k + 6)) cI v)) [7, 8, 9, 10, 11] rfl)) (va_recv hK hP (ci := 0) (q0 := 7) rfl rfl)) rfl rfl hl.1 rfl (lv_room (Nat.le_of_ble_eq_true rfl)) dX4_done_26 ⟨Nat.zero_le _, Nat.zero_le _⟩) (fun r_4 e_3 => ?_)
  have e_3 : r_4 = nI (bn (v 3 c = 0)) := e_3
  subst e_3
  refine o_ifnz (tgt := 42) hx hb dX4_done_29 (by decide) (fun z => absurd z hbad) (fun _ => ?_)
  obtain ⟨sa, hsa⟩ := hG.2.2.1 (84, "the clerk does not chalk") (List.mem_of_getElem? (i := 5) rfl)
  refine vx_throwS (own := RX4) (cls := nmS) (text := "the clerk does not chalk") (names := nmU) (ik := 52) (is := 84) (ic := 56) (mc := 1) (ms := 6) (sa := sa) (A := o_no) hx hb hfl hown (by decide) (by decide) (hts (.classLink RX4 52 "java/lang/IllegalStateException") (List.mem_of_getElem? (i := 3) (by decide +kernel))) (hts (.initialized "java/lang/IllegalStateException") (List.mem_of_getElem? (i := 4) (by decide +kernel))) hsa (vx_hat (fun w h => hts w (List.mem_cons_of_mem _ (List.mem_append_right _ h))) (B := [.castable nmS nmS, .declares (Bundle.initS "java/lang/RuntimeException"), .declares (Bundle.initS "java/lang/Exception"), .declares (Bundle.initS Bundle.tN)]) (by decide +kernel) (vx_c (va_Nw.use (A := _) rfl hG.2.1.1.2.2) (o_CD hG.2.1))) (by decide +kernel) hG.2.2.2.1 hG.2.2.2.2 va_S.rf (hl.1.trans hml.symm) dX4_done_32 dX4_done_35 dX4_done_36 dX4_done_38 dX4_done_41 (fun x h => (htb x h).elim) (Nat.le_of_ble_eq_true rfl) (Nat.le_of_ble_eq_true rfl) (Nat.le_of_ble_eq_true rfl) (Nat.le_of_ble_eq_true rfl) hlocks (fun t _ hz hq => ⟨(), trivial, rfl, hz, fun q h1 _ => hq q h1⟩) (fun z h => nomatch h) (Nat.le_of_ble_eq_true rfl) (Nat.le_of_ble_eq_true rfl)
set_option maxHeartbeats 4000000 in
set_option maxRecDepth 100000 in
theorem x_X4_begin_2 (l : Launch) (D : va_G) (cI cR cS cL : ClassId) (hfl : l.stackTraces = false) (o : Nat → Nat) (x : Nat → Nat → Nat) (v : Nat → Nat → Nat) (tl : va_W) (b : Nat) (r : Nat) (hSI : s_I b v) (hb : b < 2 ^ 28) (hr : r < 4) (hbad : ¬ s_mb v r) : vx_Met l yX4_begin wsX4_begin ({ frames := 6, cells := 1, slots := 6, locals := 82 }) (va_Pc [.ref (o 0), .int (nI r)] (o_E D (o_T cI cR cS cL) (wO o cI cR cS x v tl))) o_xq (o_xc nmS) 1 6 o_no := by
  refine vx_ofW (cc := cX4_begin) (maxL := 2) (ret := (some .int)) (by decide) rfl ?_
  intro p e s m args below meth cd s₁ B hml htb hv
  obtain ⟨rfl, hP, hK, hG⟩ := hv
  have hN := hG.1
  have hx := B.exec
  have hb := B.bytes
  have hrt := B.returns
  have hts := atoms_spec (ws := wsX4_begin) B.pre
  have hown : s.vm.findClass RX4 = some m.cls := findClass_of_methodNamed B.named
  have hlocks := B.notSynchronized
  have hl := lv_entry ([.ref (o 0), .int (nI r)]) (n := 2) (Nat.le_of_ble_eq_true rfl)
  rw [lg_entry_eq]
  generalize (lg_sl ([.ref (o 0), .int (nI r)]) ++ List.replicate (2 - (lg_sl ([.ref (o 0), .int (nI r)])).length) Slot.unset).toArray = ls at hl ⊢
  have hl : lv_has ls 2 [(0, .ref (o 0)), (1, .int (nI r))] := hl
  refine lv_iload_n hx hb dX4_begin_0 rfl (lv_at hl 1 rfl) ?_
  refine o_const (k := 4) hx hb dX4_begin_1 (by decide) ?_
  refine o_ri (va_runS (As := [.int (nI r), .int (nI 4)]) (rest := []) ⟨hx, hb, hml, hown, hts⟩ (k_X4_isBelow l D cI cR cS cL r 4 (by show r < 2 ^ 32; first | assumption | omega) (by show 4 < 2 ^ 31; first | assumption | omega)) (va_cwS 2 hts gX4_begin_X4_isBelow rfl rfl rfl (by decide +kernel) ⟨Nat.le_of_ble_eq_true rfl, Nat.le_of_ble_eq_true rfl⟩) (o_pR hK hN (hP.sub (ws' := []) [] rfl)) rfl rfl hl.1 rfl (lv_room (Nat.le_of_ble_eq_true rfl)) dX4_begin_2 ⟨Nat.zero_le _, Nat.zero_le _⟩) (fun r_2 e_1 => ?_)
  have e_1 : r_2 = nI (bn (r < 4)) := e_1
  subst e_1
  refine o_ifnz (tgt := 18) hx hb dX4_begin_5 (by decide) (fun _ => ?_) (fun z => absurd hr z)
  refine lv_aload_n hx hb dX4_begin_18 rfl (lv_at hl 0 rfl) ?_
  refine va_get (D := D) (ci := 4) (v := .ref (o 5)) (C := RX4) (T := TX4) (N := 6) hx hb hts inX4_begin_X4 hown hK hP 0 rfl rfl 0 (by decide) (hts (.fieldLink RX4 10 "OddNotice" "now" "LOddNotice$State;") (List.mem_of_getElem? (i := 5) (by decide +kernel))) (fun _ h9 => h9) rfl dX4_begin_19 ?_
  refine lv_iload_n hx hb dX4_begin_22 rfl (lv_at hl 1 rfl) ?_
  refine o_ri (va_runV (As := [.int (nI r)]) (rest := []) ⟨hx, hb, hml, hown, hts⟩ (k_X2_mayBegin l D cI cR cS cL (fun k => o (k + 5)) v b r (hSI) (by show b < 2 ^ 28; first | assumption | omega) (by show r < 4; first | assumption | omega)) (cwV 1 hts gX4_begin_X2_mayBegin rfl rfl rfl (by decide +kernel) ⟨Nat.le_of_ble_eq_true rfl, Nat.le_of_ble_eq_true rfl⟩) (o_v (o_pR hK hN (hP.sub (ws' := (wS (fun k => o (k + 5)) cI cR v)) [5, 6, 7, 8, 9, 10, 11, 12, 13, 14, 15, 16, 17, 18, 19, 20, 21, 22, 23] rfl)) (va_recv hK hP (ci := 2) (q0 := 5) rfl rfl)) rfl rfl hl.1 rfl (lv_room (Nat.le_of_ble_eq_true rfl)) dX4_begin_23 ⟨Nat.zero_le _, Nat.zero_le _⟩) (fun r_4 e_3 => ?_)
  have e_3 : r_4 = nI (bn (s_mb v r)) := e_3
  subst e_3
  refine o_ifnz (tgt := 39) hx hb dX4_begin_26 (by decide) (fun z => absurd z hbad) (fun _ => ?_)
  obtain ⟨sa, hsa⟩ := hG.2.2.1 (108, "the reader reads, or has given up") (List.mem_of_getElem? (i := 7) rfl)
  refine vx_throwS (own := RX4) (cls := nmS) (text := "the reader reads, or has given up") (names := nmU) (ik := 52) (is := 108) (ic := 56) (mc := 1) (ms := 6) (sa := sa) (A := o_no) hx hb hfl hown (by decide) (by decide) (hts (.classLink RX4 52 "java/lang/IllegalStateException") (List.mem_of_getElem? (i := 3) (by decide +kernel))) (hts (.initialized "java/lang/IllegalStateException") (List.mem_of_getElem? (i := 4) (by decide +kernel))) hsa (vx_hat (fun w h => hts w (List.mem_cons_of_mem _ (List.mem_append_right _ h))) (B := [.castable nmS nmS, .declares (Bundle.initS "java/lang/RuntimeException"), .declares (Bundle.initS "java/lang/Exception"), .declares (Bundle.initS Bundle.tN)]) (by decide +kernel) (vx_c (va_Nw.use (A := _) rfl hG.2.1.1.2.2) (o_CD hG.2.1))) (by decide +kernel) hG.2.2.2.1 hG.2.2.2.2 va_S.rf (hl.1.trans hml.symm) dX4_begin_29 dX4_begin_32 dX4_begin_33 dX4_begin_35 dX4_begin_38 (fun x h => (htb x h).elim) (Nat.le_of_ble_eq_true rfl) (Nat.le_of_ble_eq_true rfl) (Nat.le_of_ble_eq_true rfl) (Nat.le_of_ble_eq_true rfl) hlocks (fun t _ hz hq => ⟨(), trivial, rfl, hz, fun q h1 _ => hq q h1⟩) (fun z h => nomatch h) (Nat.le_of_ble_eq_true rfl) (Nat.le_of_ble_eq_true rfl)
set_option maxHeartbeats 4000000 in
set_option maxRecDepth 100000 in
theorem x_X4_look_2 (l : Launch) (D : va_G) (cI cR cS cL : ClassId) (hfl : l.stackTraces = false) (o : Nat → Nat) (x : Nat → Nat → Nat) (v : Nat → Nat → Nat) (tl : va_W) (b : Nat) (r : Nat) (hSI : s_I b v) (hb : b < 2 ^ 28) (hr : r < 4) (hbad : v (5 + 3 * r) 1 = 0) : vx_Met l yX4_look wsX4_look ({ frames := 6, cells := 1, slots := 6, locals := 82 }) (va_Pc [.ref (o 0), .int (nI r)] (o_E D (o_T cI cR cS cL) (wO o cI cR cS x v tl))) o_xq (o_xc nmS) 1 6 o_no := by
  refine vx_ofW (cc := cX4_look) (maxL := 2) (ret := (some .int)) (by decide) rfl ?_
  intro p e s m args below meth cd s₁ B hml htb hv
  obtain ⟨rfl, hP, hK, hG⟩ := hv
  have hN := hG.1
  have hx := B.exec
  have hb := B.bytes
  have hrt := B.returns
  have hts := atoms_spec (ws := wsX4_look) B.pre
  have hown : s.vm.findClass RX4 = some m.cls := findClass_of_methodNamed B.named
  have hlocks := B.notSynchronized
  have hl := lv_entry ([.ref (o 0), .int (nI r)]) (n := 2) (Nat.le_of_ble_eq_true rfl)
  rw [lg_entry_eq]
  generalize (lg_sl ([.ref (o 0), .int (nI r)]) ++ List.replicate (2 - (lg_sl ([.ref (o 0), .int (nI r)])).length) Slot.unset).toArray = ls at hl ⊢
  have hl : lv_has ls 2 [(0, .ref (o 0)), (1, .int (nI r))] := hl
  rcases o_lt4 hr with rfl | rfl | rfl | rfl
  · skip
    have hSc := hSI
    obtain ⟨⟨i1, i2, i3, hpl⟩, i5⟩ := hSI
    have i12 := i5 0 (by omega)
    unfold s_IR at i12
    simp only [Nat.reduceMul, Nat.reduceAdd] at i12
    simp only [Nat.reduceMul, Nat.reduceAdd] at hbad
    refine lv_iload_n hx hb dX4_look_0 rfl (lv_at hl 1 rfl) ?_
    refine o_const (k := 4) hx hb dX4_look_1 (by decide) ?_
    refine o_ri (va_runS (As := [.int (nI 0), .int (nI 4)]) (rest := []) ⟨hx, hb, hml, hown, hts⟩ (k_X4_isBelow l D cI cR cS cL 0 4 (by show 0 < 2 ^ 32; first | assumption | omega) (by show 4 < 2 ^ 31; first | assumption | omega)) (va_cwS 2 hts gX4_look_X4_isBelow rfl rfl rfl (by decide +kernel) ⟨Nat.le_of_ble_eq_true rfl, Nat.le_of_ble_eq_true rfl⟩) (o_pR hK hN (hP.sub (ws' := []) [] rfl)) rfl rfl hl.1 rfl (lv_room (Nat.le_of_ble_eq_true rfl)) dX4_look_2 ⟨Nat.zero_le _, Nat.zero_le _⟩) (fun r_2 e_1 => ?_)
    have e_1 : r_2 = nI (bn (0 < 4)) := e_1
    subst e_1
    refine o_ifnz (tgt := 18) hx hb dX4_look_5 (by decide) (fun _ => ?_) (fun z => absurd hr z)
    refine lv_aload_n hx hb dX4_look_18 rfl (lv_at hl 0 rfl) ?_
    refine va_get (D := D) (ci := 4) (v := .ref (o 5)) (C := RX4) (T := TX4) (N := 6) hx hb hts inX4_look_X4 hown hK hP 0 rfl rfl 0 (by decide) (hts (.fieldLink RX4 10 "OddNotice" "now" "LOddNotice$State;") (List.mem_of_getElem? (i := 5) (by decide +kernel))) (fun _ h9 => h9) rfl dX4_look_19 ?_
    refine va_get (D := D) (ci := 2) (v := .ref (o 11)) (C := RX2) (T := TX2) (N := 4) hx hb hts inX4_look_X2 hown hK hP 5 rfl rfl 1 (by decide) (hts (.fieldLink RX4 91 "OddNotice$State" "readers" "[LOddNotice$Reader;") (List.mem_of_getElem? (i := 6) (by decide +kernel))) (fun _ h9 => h9) rfl dX4_look_22 ?_
    refine lv_iload_n hx hb dX4_look_25 rfl (lv_at hl 1 rfl) ?_
    refine o_aldq (v := (o 12)) (C := "OddNotice$Reader") hx hb hK hP 6 1 rfl rfl (Nat.le_of_ble_eq_true rfl) (Nat.le_of_ble_eq_true rfl) rfl dX4_look_26 ?_
    refine va_get (D := D) (ci := 1) (v := .int (nI (v 5 1))) (C := RX1) (T := TX1) (N := 10) hx hb hts inX4_look_X1 hown hK hP 12 rfl rfl 1 (by decide) (hts (.fieldLink RX4 114 "OddNotice$Reader" "reads" "Z") (List.mem_of_getElem? (i := 7) (by decide +kernel))) (fun _ h9 => h9) rfl dX4_look_27 ?_
    refine o_if_ne (tgt := 43) hx hb dX4_look_30 (by decide) (by omega) (fun c_3 => ?_) (fun c_3 => ?_)
    · skip
      exfalso
      omega
    · skip
      obtain ⟨sa, hsa⟩ := hG.2.2.1 (117, "the reader does not read") (List.mem_of_getElem? (i := 8) rfl)
      refine vx_throwS (own := RX4) (cls := nmS) (text := "the reader does not read") (names := nmU) (ik := 52) (is := 117) (ic := 56) (mc := 1) (ms := 6) (sa := sa) (A := o_no) hx hb hfl hown (by decide) (by decide) (hts (.classLink RX4 52 "java/lang/IllegalStateException") (List.mem_of_getElem? (i := 3) (by decide +kernel))) (hts (.initialized "java/lang/IllegalStateException") (List.mem_of_getElem? (i := 4) (by decide +kernel))) hsa (vx_hat (fun w h => hts w (List.mem_cons_of_mem _ (List.mem_append_right _ h))) (B := [.castable nmS nmS, .declares (Bundle.initS "java/lang/RuntimeException"), .declares (Bundle.initS "java/lang/Exception"), .declares (Bundle.initS Bundle.tN)]) (by decide +kernel) (vx_c (va_Nw.use (A := _) rfl hG.2.1.1.2.2) (o_CD hG.2.1))) (by decide +kernel) hG.2.2.2.1 hG.2.2.2.2 va_S.rf (hl.1.trans hml.symm) dX4_look_33 dX4_look_36 dX4_look_37 dX4_look_39 dX4_look_42 (fun x h => (htb x h).elim) (Nat.le_of_ble_eq_true rfl) (Nat.le_of_ble_eq_true rfl) (Nat.le_of_ble_eq_true rfl) (Nat.le_of_ble_eq_true rfl) hlocks (fun t _ hz hq => ⟨(), trivial, rfl, hz, fun q h1 _ => hq q h1⟩) (fun z h => nomatch h) (Nat.le_of_ble_eq_true rfl) (Nat.le_of_ble_eq_true rfl)
  · skip
    have hSc := hSI
    obtain ⟨⟨i1, i2, i3, hpl⟩, i5⟩ := hSI
    have i12 := i5 1 (by omega)
    unfold s_IR at i12
    simp only [Nat.reduceMul, Nat.reduceAdd] at i12
    simp only [Nat.reduceMul, Nat.reduceAdd] at hbad
    refine lv_iload_n hx hb dX4_look_0 rfl (lv_at hl 1 rfl) ?_
    refine o_const (k := 4) hx hb dX4_look_1 (by decide) ?_
    refine o_ri (va_runS (As := [.int (nI 1), .int (nI 4)]) (rest := []) ⟨hx, hb, hml, hown, hts⟩ (k_X4_isBelow l D cI cR cS cL 1 4 (by show 1 < 2 ^ 32; first | assumption | omega) (by show 4 < 2 ^ 31; first | assumption | omega)) (va_cwS 2 hts gX4_look_X4_isBelow rfl rfl rfl (by decide +kernel) ⟨Nat.le_of_ble_eq_true rfl, Nat.le_of_ble_eq_true rfl⟩) (o_pR hK hN (hP.sub (ws' := []) [] rfl)) rfl rfl hl.1 rfl (lv_room (Nat.le_of_ble_eq_true rfl)) dX4_look_2 ⟨Nat.zero_le _, Nat.zero_le _⟩) (fun r_5 e_4 => ?_)
    have e_4 : r_5 = nI (bn (1 < 4)) := e_4
    subst e_4
    refine o_ifnz (tgt := 18) hx hb dX4_look_5 (by decide) (fun _ => ?_) (fun z => absurd hr z)
    refine lv_aload_n hx hb dX4_look_18 rfl (lv_at hl 0 rfl) ?_
    refine va_get (D := D) (ci := 4) (v := .ref (o 5)) (C := RX4) (T := TX4) (N := 6) hx hb hts inX4_look_X4 hown hK hP 0 rfl rfl 0 (by decide) (hts (.fieldLink RX4 10 "OddNotice" "now" "LOddNotice$State;") (List.mem_of_getElem? (i := 5) (by decide +kernel))) (fun _ h9 => h9) rfl dX4_look_19 ?_
    refine va_get (D := D) (ci := 2) (v := .ref (o 11)) (C := RX2) (T := TX2) (N := 4) hx hb hts inX4_look_X2 hown hK hP 5 rfl rfl 1 (by decide) (hts (.fieldLink RX4 91 "OddNotice$State" "readers" "[LOddNotice$Reader;") (List.mem_of_getElem? (i := 6) (by decide +kernel))) (fun _ h9 => h9) rfl dX4_look_22 ?_
    refine lv_iload_n hx hb dX4_look_25 rfl (lv_at hl 1 rfl) ?_
    refine o_aldq (v := (o 15)) (C := "OddNotice$Reader") hx hb hK hP 6 1 rfl rfl (Nat.le_of_ble_eq_true rfl) (Nat.le_of_ble_eq_true rfl) rfl dX4_look_26 ?_
    refine va_get (D := D) (ci := 1) (v := .int (nI (v 8 1))) (C := RX1) (T := TX1) (N := 10) hx hb hts inX4_look_X1 hown hK hP 15 rfl rfl 1 (by decide) (hts (.fieldLink RX4 114 "OddNotice$Reader" "reads" "Z") (List.mem_of_getElem? (i := 7) (by decide +kernel))) (fun _ h9 => h9) rfl dX4_look_27 ?_
    refine o_if_ne (tgt := 43) hx hb dX4_look_30 (by decide) (by omega) (fun c_6 => ?_) (fun c_6 => ?_)
    · skip
      exfalso
      omega
    · skip
      obtain ⟨sa, hsa⟩ := hG.2.2.1 (117, "the reader does not read") (List.mem_of_getElem? (i := 8) rfl)
      refine vx_throwS (own := RX4) (cls := nmS) (text := "the reader does not read") (names := nmU) (ik := 52) (is := 117) (ic := 56) (mc := 1) (ms := 6) (sa := sa) (A := o_no) hx hb hfl hown (by decide) (by decide) (hts (.classLink RX4 52 "java/lang/IllegalStateException") (List.mem_of_getElem? (i := 3) (by decide +kernel))) (hts (.initialized "java/lang/IllegalStateException") (List.mem_of_getElem? (i := 4) (by decide +kernel))) hsa (vx_hat (fun w h => hts w (List.mem_cons_of_mem _ (List.mem_append_right _ h))) (B := [.castable nmS nmS, .declares (Bundle.initS "java/lang/RuntimeException"), .declares (Bundle.initS "java/lang/Exception"), .declares (Bundle.initS Bundle.tN)]) (by decide +kernel) (vx_c (va_Nw.use (A := _) rfl hG.2.1.1.2.2) (o_CD hG.2.1))) (by decide +kernel) hG.2.2.2.1 hG.2.2.2.2 va_S.rf (hl.1.trans hml.symm) dX4_look_33 dX4_look_36 dX4_look_37 dX4_look_39 dX4_look_42 (fun x h => (htb x h).elim) (Nat.le_of_ble_eq_true rfl) (Nat.le_of_ble_eq_true rfl) (Nat.le_of_ble_eq_true rfl) (Nat.le_of_ble_eq_true rfl) hlocks (fun t _ hz hq => ⟨(), trivial, rfl, hz, fun q h1 _ => hq q h1⟩) (fun z h => nomatch h) (Nat.le_of_ble_eq_true rfl) (Nat.le_of_ble_eq_true rfl)
  · skip
    have hSc := hSI
    obtain ⟨⟨i1, i2, i3, hpl⟩, i5⟩ := hSI
    have i12 := i5 2 (by omega)
    unfold s_IR at i12
    simp only [Nat.reduceMul, Nat.reduceAdd] at i12
    simp only [Nat.reduceMul, Nat.reduceAdd] at hbad
    refine lv_iload_n hx hb dX4_look_0 rfl (lv_at hl 1 rfl) ?_
    refine o_const (k := 4) hx hb dX4_look_1 (by decide) ?_
    refine o_ri (va_runS (As := [.int (nI 2), .int (nI 4)]) (rest := []) ⟨hx, hb, hml, hown, hts⟩ (k_X4_isBelow l D cI cR cS cL 2 4 (by show 2 < 2 ^ 32; first | assumption | omega) (by show 4 < 2 ^ 31; first | assumption | omega)) (va_cwS 2 hts gX4_look_X4_isBelow rfl rfl rfl (by decide +kernel) ⟨Nat.le_of_ble_eq_true rfl, Nat.le_of_ble_eq_true rfl⟩) (o_pR hK hN (hP.sub (ws' := []) [] rfl)) rfl rfl hl.1 rfl (lv_room (Nat.le_of_ble_eq_true rfl)) dX4_look_2 ⟨Nat.zero_le _, Nat.zero_le _⟩) (fun r_8 e_7 => ?_)
    have e_7 : r_8 = nI (bn (2 < 4)) := e_7
    subst e_7
    refine o_ifnz (tgt := 18) hx hb dX4_look_5 (by decide) (fun _ => ?_) (fun z => absurd hr z)
    refine lv_aload_n hx hb dX4_look_18 rfl (lv_at hl 0 rfl) ?_
    refine va_get (D := D) (ci := 4) (v := .ref (o 5)) (C := RX4) (T := TX4) (N := 6) hx hb hts inX4_look_X4 hown hK hP 0 rfl rfl 0 (by decide) (hts (.fieldLink RX4 10 "OddNotice" "now" "LOddNotice$State;") (List.mem_of_getElem? (i := 5) (by decide +kernel))) (fun _ h9 => h9) rfl dX4_look_19 ?_
    refine va_get (D := D) (ci := 2) (v := .ref (o 11)) (C := RX2) (T := TX2) (N := 4) hx hb hts inX4_look_X2 hown hK hP 5 rfl rfl 1 (by decide) (hts (.fieldLink RX4 91 "OddNotice$State" "readers" "[LOddNotice$Reader;") (List.mem_of_getElem? (i := 6) (by decide +kernel))) (fun _ h9 => h9) rfl dX4_look_22 ?_
    refine lv_iload_n hx hb dX4_look_25 rfl (lv_at hl 1 rfl) ?_
    refine o_aldq (v := (o 18)) (C := "OddNotice$Reader") hx hb hK hP 6 1 rfl rfl (Nat.le_of_ble_eq_true rfl) (Nat.le_of_ble_eq_true rfl) rfl dX4_look_26 ?_
    refine va_get (D := D) (ci := 1) (v := .int (nI (v 11 1))) (C := RX1) (T := TX1) (N := 10) hx hb hts inX4_look_X1 hown hK hP 18 rfl rfl 1 (by decide) (hts (.fieldLink RX4 114 "OddNotice$Reader" "reads" "Z") (List.mem_of_getElem? (i := 7) (by decide +kernel))) (fun _ h9 => h9) rfl dX4_look_27 ?_
    refine o_if_ne (tgt := 43) hx hb dX4_look_30 (by decide) (by omega) (fun c_9 => ?_) (fun c_9 => ?_)
    · skip
      exfalso
      omega
    · skip
      obtain ⟨sa, hsa⟩ := hG.2.2.1 (117, "the reader does not read") (List.mem_of_getElem? (i := 8) rfl)
      refine vx_throwS (own := RX4) (cls := nmS) (text := "the reader does not read") (names := nmU) (ik := 52) (is := 117) (ic := 56) (mc := 1) (ms := 6) (sa := sa) (A := o_no) hx hb hfl hown (by decide) (by decide) (hts (.classLink RX4 52 "java/lang/IllegalStateException") (List.mem_of_getElem? (i := 3) (by decide +kernel))) (hts (.initialized "java/lang/IllegalStateException") (List.mem_of_getElem? (i := 4) (by decide +kernel))) hsa (vx_hat (fun w h => hts w (List.mem_cons_of_mem _ (List.mem_append_right _ h))) (B := [.castable nmS nmS, .declares (Bundle.initS "java/lang/RuntimeException"), .declares (Bundle.initS "java/lang/Exception"), .declares (Bundle.initS Bundle.tN)]) (by decide +kernel) (vx_c (va_Nw.use (A := _) rfl hG.2.1.1.2.2) (o_CD hG.2.1))) (by decide +kernel) hG.2.2.2.1 hG.2.2.2.2 va_S.rf (hl.1.trans hml.symm) dX4_look_33 dX4_look_36 dX4_look_37 dX4_look_39 dX4_look_42 (fun x h => (htb x h).elim) (Nat.le_of_ble_eq_true rfl) (Nat.le_of_ble_eq_true rfl) (Nat.le_of_ble_eq_true rfl) (Nat.le_of_ble_eq_true rfl) hlocks (fun t _ hz hq => ⟨(), trivial, rfl, hz, fun q h1 _ => hq q h1⟩) (fun z h => nomatch h) (Nat.le_of_ble_eq_true rfl) (Nat.le_of_ble_eq_true rfl)
  · skip
    have hSc := hSI
    obtain ⟨⟨i1, i2, i3, hpl⟩, i5⟩ := hSI
    have i12 := i5 3 (by omega)
    unfold s_IR at i12
    simp only [Nat.reduceMul, Nat.reduceAdd] at i12
    simp only [Nat.reduceMul, Nat.reduceAdd] at hbad
    refine lv_iload_n hx hb dX4_look_0 rfl (lv_at hl 1 rfl) ?_
    refine o_const (k := 4) hx hb dX4_look_1 (by decide) ?_
    refine o_ri (va_runS (As := [.int (nI 3), .int (nI 4)]) (rest := []) ⟨hx, hb, hml, hown, hts⟩ (k_X4_isBelow l D cI cR cS cL 3 4 (by show 3 < 2 ^ 32; first | assumption | omega) (by show 4 < 2 ^ 31; first | assumption | omega)) (va_cwS 2 hts gX4_look_X4_isBelow rfl rfl rfl (by decide +kernel) ⟨Nat.le_of_ble_eq_true rfl, Nat.le_of_ble_eq_true rfl⟩) (o_pR hK hN (hP.sub (ws' := []) [] rfl)) rfl rfl hl.1 rfl (lv_room (Nat.le_of_ble_eq_true rfl)) dX4_look_2 ⟨Nat.zero_le _, Nat.zero_le _⟩) (fun r_11 e_10 => ?_)
    have e_10 : r_11 = nI (bn (3 < 4)) := e_10
    subst e_10
    refine o_ifnz (tgt := 18) hx hb dX4_look_5 (by decide) (fun _ => ?_) (fun z => absurd hr z)
    refine lv_aload_n hx hb dX4_look_18 rfl (lv_at hl 0 rfl) ?_
    refine va_get (D := D) (ci := 4) (v := .ref (o 5)) (C := RX4) (T := TX4) (N := 6) hx hb hts inX4_look_X4 hown hK hP 0 rfl rfl 0 (by decide) (hts (.fieldLink RX4 10 "OddNotice" "now" "LOddNotice$State;") (List.mem_of_getElem? (i := 5) (by decide +kernel))) (fun _ h9 => h9) rfl dX4_look_19 ?_
    refine va_get (D := D) (ci := 2) (v := .ref (o 11)) (C := RX2) (T := TX2) (N := 4) hx hb hts inX4_look_X2 hown hK hP 5 rfl rfl 1 (by decide) (hts (.fieldLink RX4 91 "OddNotice$State" "readers" "[LOddNotice$Reader;") (List.mem_of_getElem? (i := 6) (by decide +kernel))) (fun _ h9 => h9) rfl dX4_look_22 ?_
    refine lv_iload_n hx hb dX4_look_25 rfl (lv_at hl 1 rfl) ?_
    refine o_aldq (v := (o 21)) (C := "OddNotice$Reader") hx hb hK hP 6 1 rfl rfl (Nat.le_of_ble_eq_true rfl) (Nat.le_of_ble_eq_true rfl) rfl dX4_look_26 ?_
    refine va_get (D := D) (ci := 1) (v := .int (nI (v 14 1))) (C := RX1) (T := TX1) (N := 10) hx hb hts inX4_look_X1 hown hK hP 21 rfl rfl 1 (by decide) (hts (.fieldLink RX4 114 "OddNotice$Reader" "reads" "Z") (List.mem_of_getElem? (i := 7) (by decide +kernel))) (fun _ h9 => h9) rfl dX4_look_27 ?_
    refine o_if_ne (tgt := 43) hx hb dX4_look_30 (by decide) (by omega) (fun c_12 => ?_) (fun c_12 => ?_)
    · skip
      exfalso
      omega
    · skip
      obtain ⟨sa, hsa⟩ := hG.2.2.1 (117, "the reader does not read") (List.mem_of_getElem? (i := 8) rfl)
      refine vx_throwS (own := RX4) (cls := nmS) (text := "the reader does not read") (names := nmU) (ik := 52) (is := 117) (ic := 56) (mc := 1) (ms := 6) (sa := sa) (A := o_no) hx hb hfl hown (by decide) (by decide) (hts (.classLink RX4 52 "java/lang/IllegalStateException") (List.mem_of_getElem? (i := 3) (by decide +kernel))) (hts (.initialized "java/lang/IllegalStateException") (List.mem_of_getElem? (i := 4) (by decide +kernel))) hsa (vx_hat (fun w h => hts w (List.mem_cons_of_mem _ (List.mem_append_right _ h))) (B := [.castable nmS nmS, .declares (Bundle.initS "java/lang/RuntimeException"), .declares (Bundle.initS "java/lang/Exception"), .declares (Bundle.initS Bundle.tN)]) (by decide +kernel) (vx_c (va_Nw.use (A := _) rfl hG.2.1.1.2.2) (o_CD hG.2.1))) (by decide +kernel) hG.2.2.2.1 hG.2.2.2.2 va_S.rf (hl.1.trans hml.symm) dX4_look_33 dX4_look_36 dX4_look_37 dX4_look_39 dX4_look_42 (fun x h => (htb x h).elim) (Nat.le_of_ble_eq_true rfl) (Nat.le_of_ble_eq_true rfl) (Nat.le_of_ble_eq_true rfl) (Nat.le_of_ble_eq_true rfl) hlocks (fun t _ hz hq => ⟨(), trivial, rfl, hz, fun q h1 _ => hq q h1⟩) (fun z h => nomatch h) (Nat.le_of_ble_eq_true rfl) (Nat.le_of_ble_eq_true rfl)
set_option maxHeartbeats 4000000 in
set_option maxRecDepth 100000 in
theorem x_X4_undo_1 (l : Launch) (D : va_G) (cI cR cS cL : ClassId) (hfl : l.stackTraces = false) (o : Nat → Nat) (x : Nat → Nat → Nat) (v : Nat → Nat → Nat) (tl : va_W) (b : Nat) (hbad : x 0 4 = 0) : vx_Met l yX4_undo wsX4_undo ({ frames := 6, cells := 1, slots := 6, locals := 82 }) (va_Pc [.ref (o 0)] (o_E D (o_T cI cR cS cL) (wO o cI cR cS x v tl))) o_xq (o_xc nmS) 1 6 o_no := by
  refine vx_ofW (cc := cX4_undo) (maxL := 1) (ret := (some .int)) (by decide) rfl ?_
  intro p e s m args below meth cd s₁ B hml htb hv
  obtain ⟨rfl, hP, hK, hG⟩ := hv
  have hN := hG.1
  have hx := B.exec
  have hb := B.bytes
  have hrt := B.returns
  have hts := atoms_spec (ws := wsX4_undo) B.pre
  have hown : s.vm.findClass RX4 = some m.cls := findClass_of_methodNamed B.named
  have hlocks := B.notSynchronized
  have hl := lv_entry ([.ref (o 0)]) (n := 1) (Nat.le_of_ble_eq_true rfl)
  rw [lg_entry_eq]
  generalize (lg_sl ([.ref (o 0)]) ++ List.replicate (1 - (lg_sl ([.ref (o 0)])).length) Slot.unset).toArray = ls at hl ⊢
  have hl : lv_has ls 1 [(0, .ref (o 0))] := hl
  refine lv_aload_n hx hb dX4_undo_0 rfl (lv_at hl 0 rfl) ?_
  refine va_get (D := D) (ci := 4) (v := .int (nI (x 0 4))) (C := RX4) (T := TX4) (N := 6) hx hb hts inX4_undo_X4 hown hK hP 0 rfl rfl 3 (by decide) (hts (.fieldLink RX4 152 "OddNotice" "savedCount" "I") (List.mem_of_getElem? (i := 3) (by decide +kernel))) (fun _ h9 => h9) rfl dX4_undo_1 ?_
  refine o_if_gt (tgt := 17) hx hb dX4_undo_4 (by decide) (by omega) (fun c_1 => ?_) (fun c_1 => ?_)
  · skip
    exfalso
    omega
  · skip
    obtain ⟨sa, hsa⟩ := hG.2.2.1 (155, "no saved state") (List.mem_of_getElem? (i := 9) rfl)
    refine vx_throwS (own := RX4) (cls := nmS) (text := "no saved state") (names := nmU) (ik := 52) (is := 155) (ic := 56) (mc := 1) (ms := 6) (sa := sa) (A := o_no) hx hb hfl hown (by decide) (by decide) (hts (.classLink RX4 52 "java/lang/IllegalStateException") (List.mem_of_getElem? (i := 1) (by decide +kernel))) (hts (.initialized "java/lang/IllegalStateException") (List.mem_of_getElem? (i := 2) (by decide +kernel))) hsa (vx_hat (fun w h => hts w (List.mem_cons_of_mem _ (List.mem_append_right _ h))) (B := [.castable nmS nmS, .declares (Bundle.initS "java/lang/RuntimeException"), .declares (Bundle.initS "java/lang/Exception"), .declares (Bundle.initS Bundle.tN)]) (by decide +kernel) (vx_c (va_Nw.use (A := _) rfl hG.2.1.1.2.2) (o_CD hG.2.1))) (by decide +kernel) hG.2.2.2.1 hG.2.2.2.2 va_S.rf (hl.1.trans hml.symm) dX4_undo_7 dX4_undo_10 dX4_undo_11 dX4_undo_13 dX4_undo_16 (fun x h => (htb x h).elim) (Nat.le_of_ble_eq_true rfl) (Nat.le_of_ble_eq_true rfl) (Nat.le_of_ble_eq_true rfl) (Nat.le_of_ble_eq_true rfl) hlocks (fun t _ hz hq => ⟨(), trivial, rfl, hz, fun q h1 _ => hq q h1⟩) (fun z h => nomatch h) (Nat.le_of_ble_eq_true rfl) (Nat.le_of_ble_eq_true rfl)
