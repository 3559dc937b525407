theorem inX2_mayBegin_X2 : ∀ w ∈ wsX20, w ∈ wsX2_mayBegin := by decide +kernel
theorem inX2_mayBegin_X1 : ∀ w ∈ wsX10, w ∈ wsX2_mayBegin := by decide +kernel
set_option maxHeartbeats 4000000 in
set_option maxRecDepth 100000 in
theorem k_X2_mayBegin (l : Launch) (D : va_G) (cI cR cS cL : ClassId) (q : Nat → Nat) (v : Nat → Nat → Nat) (b : Nat) (r : Nat) (hSI : s_I b v) (hb : b < 2 ^ 28) (hr : r < 4) : Met l yX2_mayBegin wsX2_mayBegin ({ frames := 1, cells := 0, slots := 0, locals := 21 }) (va_Pc [.ref (q 0), .int (nI r)] (o_R D (o_T cI cR cS cL) (wS q cI cR v))) (vp_Si (fun rz => rz = nI (bn (s_mb v r)))) 0 0 (fun _ => False) := by
  refine Met.ofW (cc := cX2_mayBegin) (maxL := 3) (ret := (some .boolean)) (by decide) rfl ?_
  intro p e s m args below meth cd s₁ B hml hv
  obtain ⟨rfl, hP, hK, hN⟩ := hv
  have hx := B.exec
  have hb := B.bytes
  have hrt := B.returns
  have hts := atoms_spec (ws := wsX2_mayBegin) B.pre
  have hown : s.vm.findClass RX2 = some m.cls := findClass_of_methodNamed B.named
  have hlocks := B.notSynchronized
  have hl := lv_entry ([.ref (q 0), .int (nI r)]) (n := 3) (Nat.le_of_ble_eq_true rfl)
  rw [lg_entry_eq]
  generalize (lg_sl ([.ref (q 0), .int (nI r)]) ++ List.replicate (3 - (lg_sl ([.ref (q 0), .int (nI r)])).length) Slot.unset).toArray = ls at hl ⊢
  have hl : lv_has ls 3 [(0, .ref (q 0)), (1, .int (nI r))] := hl
  rcases o_lt4 hr with rfl | rfl | rfl | rfl
  · skip
    obtain ⟨⟨i1, i2, i3, hpl⟩, i5⟩ := hSI
    have i12 := i5 0 (by omega)
    unfold s_IR at i12
    simp only [Nat.reduceMul, Nat.reduceAdd] at i12
    refine lv_aload_n hx hb dX2_mayBegin_0 rfl (lv_at hl 0 rfl) ?_
    refine va_get (D := D) (ci := 2) (v := .ref (q 6)) (C := RX2) (T := TX2) (N := 4) hx hb hts inX2_mayBegin_X2 hown hK hP 0 rfl rfl 1 (by decide) (hts (.fieldLink RX2 20 "OddNotice$State" "readers" "[LOddNotice$Reader;") (List.mem_of_getElem? (i := 1) (by decide +kernel))) (fun _ h9 => h9) rfl dX2_mayBegin_1 ?_
    refine lv_iload_n hx hb dX2_mayBegin_4 rfl (lv_at hl 1 rfl) ?_
    refine o_aldq (v := (q 7)) (C := "OddNotice$Reader") hx hb hK hP 1 1 rfl rfl (Nat.le_of_ble_eq_true rfl) (Nat.le_of_ble_eq_true rfl) rfl dX2_mayBegin_5 ?_
    refine lv_astore_n (lv' := [(2, .ref (q 7)), (0, .ref (q 0)), (1, .int (nI 0))]) hx hb dX2_mayBegin_6 rfl hl (by decide) rfl (fun ls hl => ?_)
    refine lv_aload_n hx hb dX2_mayBegin_7 rfl (lv_at hl 0 rfl) ?_
    refine va_get (D := D) (ci := 1) (v := .int (nI (v 5 1))) (C := RX1) (T := TX1) (N := 10) hx hb hts inX2_mayBegin_X1 hown hK hP 7 rfl rfl 1 (by decide) (hts (.fieldLink RX2 29 "OddNotice$Reader" "reads" "Z") (List.mem_of_getElem? (i := 2) (by decide +kernel))) (fun _ h9 => h9) rfl dX2_mayBegin_8 ?_
    refine o_if_ne (tgt := 29) hx hb dX2_mayBegin_11 (by decide) (by omega) (fun c_1 => ?_) (fun c_1 => ?_)
    · skip
      refine o_const (k := 0) hx hb dX2_mayBegin_29 (by decide) ?_
      exact W.zret (v := nI 0) hx hb hrt rfl (fun t ht hW => ⟨_, rfl, (congrArg nI (Eq.symm (bn_f (by simp only [s_mb, s_gu, Nat.reduceMul, Nat.reduceAdd]; omega)))), ht⟩) (fun _ h => nomatch h) dX2_mayBegin_30
    · skip
      refine lv_aload_n hx hb dX2_mayBegin_14 rfl (lv_at hl 0 rfl) ?_
      refine lv_aload_n hx hb dX2_mayBegin_15 rfl (lv_at hl 1 rfl) ?_
      refine va_get (D := D) (ci := 2) (v := .int (nI (v 0 2))) (C := RX2) (T := TX2) (N := 4) hx hb hts inX2_mayBegin_X2 hown hK hP 0 rfl rfl 3 (by decide) (hts (.fieldLink RX2 24 "OddNotice$State" "setting" "I") (List.mem_of_getElem? (i := 3) (by decide +kernel))) (fun _ h9 => h9) rfl dX2_mayBegin_16 ?_
      refine o_ri (va_runV (As := [.int (nI (v 0 2))]) (rest := []) ⟨hx, hb, hml, hown, hts⟩ (k_X1_hasGivenUp l D cI cR cS cL (fun k => q (k + 7)) (fun k => v (k + 5)) (v 0 2) (by show (v 5 0) < 2 ^ 31; first | assumption | omega) (by show (v 5 1) < 2 ^ 31; first | assumption | omega) (by show (v 5 5) < 2 ^ 31; first | assumption | omega) (by show (v 0 2) < 2 ^ 31; first | assumption | omega)) (cwV 1 hts gX2_mayBegin_X1_hasGivenUp rfl rfl rfl (by decide +kernel) ⟨Nat.le_of_ble_eq_true rfl, Nat.le_of_ble_eq_true rfl⟩) (o_v (o_pR hK hN (hP.sub (ws' := (wR (fun k => q (k + 7)) cI (fun k => v (k + 5)))) [7, 8, 9] rfl)) (va_recv hK hP (ci := 1) (q0 := 7) rfl rfl)) rfl rfl hl.1 rfl (lv_room (Nat.le_of_ble_eq_true rfl)) dX2_mayBegin_19 ⟨Nat.zero_le _, Nat.zero_le _⟩) (fun r_3 e_2 => ?_)
      have e_2 : r_3 = nI (bn (¬ (v 5 0) = 0 ∧ (v 5 1) = 0 ∧ (v 0 2) ≤ (v 5 5))) := e_2
      subst e_2
      refine o_ifnz (tgt := 29) hx hb dX2_mayBegin_22 (by decide) (fun c_4 => ?_) (fun c_4 => ?_)
      · skip
        refine o_const (k := 0) hx hb dX2_mayBegin_29 (by decide) ?_
        exact W.zret (v := nI 0) hx hb hrt rfl (fun t ht hW => ⟨_, rfl, (congrArg nI (Eq.symm (bn_f (by simp only [s_mb, s_gu, Nat.reduceMul, Nat.reduceAdd]; omega)))), ht⟩) (fun _ h => nomatch h) dX2_mayBegin_30
      · skip
        refine o_const (k := 1) hx hb dX2_mayBegin_25 (by decide) ?_
        refine lv_goto (tgt := 30) hx hb dX2_mayBegin_26 (by decide) ?_
        exact W.zret (v := nI 1) hx hb hrt rfl (fun t ht hW => ⟨_, rfl, (congrArg nI (Eq.symm (bn_t (by simp only [s_mb, s_gu, Nat.reduceMul, Nat.reduceAdd]; omega)))), ht⟩) (fun _ h => nomatch h) dX2_mayBegin_30
  · skip
    obtain ⟨⟨i1, i2, i3, hpl⟩, i5⟩ := hSI
    have i12 := i5 1 (by omega)
    unfold s_IR at i12
    simp only [Nat.reduceMul, Nat.reduceAdd] at i12
    refine lv_aload_n hx hb dX2_mayBegin_0 rfl (lv_at hl 0 rfl) ?_
    refine va_get (D := D) (ci := 2) (v := .ref (q 6)) (C := RX2) (T := TX2) (N := 4) hx hb hts inX2_mayBegin_X2 hown hK hP 0 rfl rfl 1 (by decide) (hts (.fieldLink RX2 20 "OddNotice$State" "readers" "[LOddNotice$Reader;") (List.mem_of_getElem? (i := 1) (by decide +kernel))) (fun _ h9 => h9) rfl dX2_mayBegin_1 ?_
    refine lv_iload_n hx hb dX2_mayBegin_4 rfl (lv_at hl 1 rfl) ?_
    refine o_aldq (v := (q 10)) (C := "OddNotice$Reader") hx hb hK hP 1 1 rfl rfl (Nat.le_of_ble_eq_true rfl) (Nat.le_of_ble_eq_true rfl) rfl dX2_mayBegin_5 ?_
    refine lv_astore_n (lv' := [(2, .ref (q 10)), (0, .ref (q 0)), (1, .int (nI 1))]) hx hb dX2_mayBegin_6 rfl hl (by decide) rfl (fun ls hl => ?_)
    refine lv_aload_n hx hb dX2_mayBegin_7 rfl (lv_at hl 0 rfl) ?_
    refine va_get (D := D) (ci := 1) (v := .int (nI (v 8 1))) (C := RX1) (T := TX1) (N := 10) hx hb hts inX2_mayBegin_X1 hown hK hP 10 rfl rfl 1 (by decide) (hts (.fieldLink RX2 29 "OddNotice$Reader" "reads" "Z") (List.mem_of_getElem? (i := 2) (by decide +kernel))) (fun _ h9 => h9) rfl dX2_mayBegin_8 ?_
    refine o_if_ne (tgt := 29) hx hb dX2_mayBegin_11 (by decide) (by omega) (fun c_5 => ?_) (fun c_5 => ?_)
    · skip
      refine o_const (k := 0) hx hb dX2_mayBegin_29 (by decide) ?_
      exact W.zret (v := nI 0) hx hb hrt rfl (fun t ht hW => ⟨_, rfl, (congrArg nI (Eq.symm (bn_f (by simp only [s_mb, s_gu, Nat.reduceMul, Nat.reduceAdd]; omega)))), ht⟩) (fun _ h => nomatch h) dX2_mayBegin_30
    · skip
      refine lv_aload_n hx hb dX2_mayBegin_14 rfl (lv_at hl 0 rfl) ?_
      refine lv_aload_n hx hb dX2_mayBegin_15 rfl (lv_at hl 1 rfl) ?_
      refine va_get (D := D) (ci := 2) (v := .int (nI (v 0 2))) (C := RX2) (T := TX2) (N := 4) hx hb hts inX2_mayBegin_X2 hown hK hP 0 rfl rfl 3 (by decide) (hts (.fieldLink RX2 24 "OddNotice$State" "setting" "I") (List.mem_of_getElem? (i := 3) (by decide +kernel))) (fun _ h9 => h9) rfl dX2_mayBegin_16 ?_
      refine o_ri (va_runV (As := [.int (nI (v 0 2))]) (rest := []) ⟨hx, hb, hml, hown, hts⟩ (k_X1_hasGivenUp l D cI cR cS cL (fun k => q (k + 10)) (fun k => v (k + 8)) (v 0 2) (by show (v 8 0) < 2 ^ 31; first | assumption | omega) (by show (v 8 1) < 2 ^ 31; first | assumption | omega) (by show (v 8 5) < 2 ^ 31; first | assumption | omega) (by show (v 0 2) < 2 ^ 31; first | assumption | omega)) (cwV 1 hts gX2_mayBegin_X1_hasGivenUp rfl rfl rfl (by decide +kernel) ⟨Nat.le_of_ble_eq_true rfl, Nat.le_of_ble_eq_true rfl⟩) (o_v (o_pR hK hN (hP.sub (ws' := (wR (fun k => q (k + 10)) cI (fun k => v (k + 8)))) [10, 11, 12] rfl)) (va_recv hK hP (ci := 1) (q0 := 10) rfl rfl)) rfl rfl hl.1 rfl (lv_room (Nat.le_of_ble_eq_true rfl)) dX2_mayBegin_19 ⟨Nat.zero_le _, Nat.zero_le _⟩) (fun r_7 e_6 => ?_)
      have e_6 : r_7 = nI (bn (¬ (v 8 0) = 0 ∧ (v 8 1) = 0 ∧ (v 0 2) ≤ (v 8 5))) := e_6
      subst e_6
      refine o_ifnz (tgt := 29) hx hb dX2_mayBegin_22 (by decide) (fun c_8 => ?_) (fun c_8 => ?_)
      · skip
        refine o_const (k := 0) hx hb dX2_mayBegin_29 (by decide) ?_
        exact W.zret (v := nI 0) hx hb hrt rfl (fun t ht hW => ⟨_, rfl, (congrArg nI (Eq.symm (bn_f (by simp only [s_mb, s_gu, Nat.reduceMul, Nat.reduceAdd]; omega)))), ht⟩) (fun _ h => nomatch h) dX2_mayBegin_30
      · skip
        refine o_const (k := 1) hx hb dX2_mayBegin_25 (by decide) ?_
        refine lv_goto (tgt := 30) hx hb dX2_mayBegin_26 (by decide) ?_
        exact W.zret (v := nI 1) hx hb hrt rfl (fun t ht hW => ⟨_, rfl, (congrArg nI (Eq.symm (bn_t (by simp only [s_mb, s_gu, Nat.reduceMul, Nat.reduceAdd]; omega)))), ht⟩) (fun _ h => nomatch h) dX2_mayBegin_30
  · skip
    obtain ⟨⟨i1, i2, i3, hpl⟩, i5⟩ := hSI
    have i12 := i5 2 (by omega)
    unfold s_IR at i12
    simp only [Nat.reduceMul, Nat.reduceAdd] at i12
    refine lv_aload_n hx hb dX2_mayBegin_0 rfl (lv_at hl 0 rfl) ?_
    refine va_get (D := D) (ci := 2) (v := .ref (q 6)) (C := RX2) (T := TX2) (N := 4) hx hb hts inX2_mayBegin_X2 hown hK hP 0 rfl rfl 1 (by decide) (hts (.fieldLink RX2 20 "OddNotice$State" "readers" "[LOddNotice$Reader;") (List.mem_of_getElem? (i := 1) (by decide +kernel))) (fun _ h9 => h9) rfl dX2_mayBegin_1 ?_
    refine lv_iload_n hx hb dX2_mayBegin_4 rfl (lv_at hl 1 rfl) ?_
    refine o_aldq (v := (q 13)) (C := "OddNotice$Reader") hx hb hK hP 1 1 rfl rfl (Nat.le_of_ble_eq_true rfl) (Nat.le_of_ble_eq_true rfl) rfl dX2_mayBegin_5 ?_
    refine lv_astore_n (lv' := [(2, .ref (q 13)), (0, .ref (q 0)), (1, .int (nI 2))]) hx hb dX2_mayBegin_6 rfl hl (by decide) rfl (fun ls hl => ?_)
    refine lv_aload_n hx hb dX2_mayBegin_7 rfl (lv_at hl 0 rfl) ?_
    refine va_get (D := D) (ci := 1) (v := .int (nI (v 11 1))) (C := RX1) (T := TX1) (N := 10) hx hb hts inX2_mayBegin_X1 hown hK hP 13 rfl rfl 1 (by decide) (hts (.fieldLink RX2 29 "OddNotice$Reader" "reads" "Z") (List.mem_of_getElem? (i := 2) (by decide +kernel))) (fun _ h9 => h9) rfl dX2_mayBegin_8 ?_
    refine o_if_ne (tgt := 29) hx hb dX2_mayBegin_11 (by decide) (by omega) (fun c_9 => ?_) (fun c_9 => ?_)
    · skip
      refine o_const (k := 0) hx hb dX2_mayBegin_29 (by decide) ?_
      exact W.zret (v := nI 0) hx hb hrt rfl (fun t ht hW => ⟨_, rfl, (congrArg nI (Eq.symm (bn_f (by simp only [s_mb, s_gu, Nat.reduceMul, Nat.reduceAdd]; omega)))), ht⟩) (fun _ h => nomatch h) dX2_mayBegin_30
    · skip
      refine lv_aload_n hx hb dX2_mayBegin_14 rfl (lv_at hl 0 rfl) ?_
      refine lv_aload_n hx hb dX2_mayBegin_15 rfl (lv_at hl 1 rfl) ?_
      refine va_get (D := D) (ci := 2) (v := .int (nI (v 0 2))) (C := RX2) (T := TX2) (N := 4) hx hb hts inX2_mayBegin_X2 hown hK hP 0 rfl rfl 3 (by decide) (hts (.fieldLink RX2 24 "OddNotice$State" "setting" "I") (List.mem_of_getElem? (i := 3) (by decide +kernel))) (fun _ h9 => h9) rfl dX2_mayBegin_16 ?_
      refine o_ri (va_runV (As := [.int (nI (v 0 2))]) (rest := []) ⟨hx, hb, hml, hown, hts⟩ (k_X1_hasGivenUp l D cI cR cS cL (fun k => q (k + 13)) (fun k => v (k + 11)) (v 0 2) (by show (v 11 0) < 2 ^ 31; first | assumption | omega) (by show (v 11 1) < 2 ^ 31; first | assumption | omega) (by show (v 11 5) < 2 ^ 31; first | assumption | omega) (by show (v 0 2) < 2 ^ 31; first | assumption | omega)) (cwV 1 hts gX2_mayBegin_X1_hasGivenUp rfl rfl rfl (by decide +kernel) ⟨Nat.le_of_ble_eq_true rfl, Nat.le_of_ble_eq_true rfl⟩) (o_v (o_pR hK hN (hP.sub (ws' := (wR (fun k => q (k + 13)) cI (fun k => v (k + 11)))) [13, 14, 15] rfl)) (va_recv hK hP (ci := 1) (q0 := 13) rfl rfl)) rfl rfl hl.1 rfl (lv_room (Nat.le_of_ble_eq_true rfl)) dX2_mayBegin_19 ⟨Nat.zero_le _, Nat.zero_le _⟩) (fun r_11 e_10 => ?_)
      have e_10 : r_11 = nI (bn (¬ (v 11 0) = 0 ∧ (v 11 1) = 0 ∧ (v 0 2) ≤ (v 11 5))) := e_10
      subst e_10
      refine o_ifnz (tgt := 29) hx hb dX2_mayBegin_22 (by decide) (fun c_12 => ?_) (fun c_12 => ?_)
      · skip
        refine o_const (k := 0) hx hb dX2_mayBegin_29 (by decide) ?_
        exact W.zret (v := nI 0) hx hb hrt rfl (fun t ht hW => ⟨_, rfl, (congrArg nI (Eq.symm (bn_f (by simp only [s_mb, s_gu, Nat.reduceMul, Nat.reduceAdd]; omega)))), ht⟩) (fun _ h => nomatch h) dX2_mayBegin_30
      · skip
        refine o_const (k := 1) hx hb dX2_mayBegin_25 (by decide) ?_
        refine lv_goto (tgt := 30) hx hb dX2_mayBegin_26 (by decide) ?_
        exact W.zret (v := nI 1) hx hb hrt rfl (fun t ht hW => ⟨_, rfl, (congrArg nI (Eq.symm (bn_t (by simp only [s_mb, s_gu, Nat.reduceMul, Nat.reduceAdd]; omega)))), ht⟩) (fun _ h => nomatch h) dX2_mayBegin_30
  · skip
    obtain ⟨⟨i1, i2, i3, hpl⟩, i5⟩ := hSI
    have i12 := i5 3 (by omega)
    unfold s_IR at i12
    simp only [Nat.reduceMul, Nat.reduceAdd] at i12
    refine lv_aload_n hx hb dX2_mayBegin_0 rfl (lv_at hl 0 rfl) ?_
    refine va_get (D := D) (ci := 2) (v := .ref (q 6)) (C := RX2) (T := TX2) (N := 4) hx hb hts inX2_mayBegin_X2 hown hK hP 0 rfl rfl 1 (by decide) (hts (.fieldLink RX2 20 "OddNotice$State" "readers" "[LOddNotice$Reader;") (List.mem_of_getElem? (i := 1) (by decide +kernel))) (fun _ h9 => h9) rfl dX2_mayBegin_1 ?_
    refine lv_iload_n hx hb dX2_mayBegin_4 rfl (lv_at hl 1 rfl) ?_
    refine o_aldq (v := (q 16)) (C := "OddNotice$Reader") hx hb hK hP 1 1 rfl rfl (Nat.le_of_ble_eq_true rfl) (Nat.le_of_ble_eq_true rfl) rfl dX2_mayBegin_5 ?_
    refine lv_astore_n (lv' := [(2, .ref (q 16)), (0, .ref (q 0)), (1, .int (nI 3))]) hx hb dX2_mayBegin_6 rfl hl (by decide) rfl (fun ls hl => ?_)
    refine lv_aload_n hx hb dX2_mayBegin_7 rfl (lv_at hl 0 rfl) ?_
    refine va_get (D := D) (ci := 1) (v := .int (nI (v 14 1))) (C := RX1) (T := TX1) (N := 10) hx hb hts inX2_mayBegin_X1 hown hK hP 16 rfl rfl 1 (by decide) (hts (.fieldLink RX2 29 "OddNotice$Reader" "reads" "Z") (List.mem_of_getElem? (i := 2) (by decide +kernel))) (fun _ h9 => h9) rfl dX2_mayBegin_8 ?_
    refine o_if_ne (tgt := 29) hx hb dX2_mayBegin_11 (by decide) (by omega) (fun c_13 => ?_) (fun c_13 => ?_)
    · skip
      refine o_const (k := 0) hx hb dX2_mayBegin_29 (by decide) ?_
      exact W.zret (v := nI 0) hx hb hrt rfl (fun t ht hW => ⟨_, rfl, (congrArg nI (Eq.symm (bn_f (by simp only [s_mb, s_gu, Nat.reduceMul, Nat.reduceAdd]; omega)))), ht⟩) (fun _ h => nomatch h) dX2_mayBegin_30
    · skip
      refine lv_aload_n hx hb dX2_mayBegin_14 rfl (lv_at hl 0 rfl) ?_
      refine lv_aload_n hx hb dX2_mayBegin_15 rfl (lv_at hl 1 rfl) ?_
      refine va_get (D := D) (ci := 2) (v := .int (nI (v 0 2))) (C := RX2) (T := TX2) (N := 4) hx hb hts inX2_mayBegin_X2 hown hK hP 0 rfl rfl 3 (by decide) (hts (.fieldLink RX2 24 "OddNotice$State" "setting" "I") (List.mem_of_getElem? (i := 3) (by decide +kernel))) (fun _ h9 => h9) rfl dX2_mayBegin_16 ?_
      refine o_ri (va_runV (As := [.int (nI (v 0 2))]) (rest := []) ⟨hx, hb, hml, hown, hts⟩ (k_X1_hasGivenUp l D cI cR cS cL (fun k => q (k + 16)) (fun k => v (k + 14)) (v 0 2) (by show (v 14 0) < 2 ^ 31; first | assumption | omega) (by show (v 14 1) < 2 ^ 31; first | assumption | omega) (by show (v 14 5) < 2 ^ 31; first | assumption | omega) (by show (v 0 2) < 2 ^ 31; first | assumption | omega)) (cwV 1 hts gX2_mayBegin_X1_hasGivenUp rfl rfl rfl (by decide +kernel) ⟨Nat.le_of_ble_eq_true rfl, Nat.le_of_ble_eq_true rfl⟩) (o_v (o_pR hK hN (hP.sub (ws' := (wR (fun k => q (k + 16)) cI (fun k => v (k + 14)))) [16, 17, 18] rfl)) (va_recv hK hP (ci := 1) (q0 := 16) rfl rfl)) rfl rfl hl.1 rfl (lv_room (Nat.le_of_ble_eq_true rfl)) dX2_mayBegin_19 ⟨Nat.zero_le _, Nat.zero_le _⟩) (fun r_15 e_14 => ?_)
      have e_14 : r_15 = nI (bn (¬ (v 14 0) = 0 ∧ (v 14 1) = 0 ∧ (v 0 2) ≤ (v 14 5))) := e_14
      subst e_14
      refine o_ifnz (tgt := 29) hx hb dX2_mayBegin_22 (by decide) (fun c_16 => ?_) (fun c_16 => ?_)
      · skip
        refine o_const (k := 0) hx hb dX2_mayBegin_29 (by decide) ?_
        exact W.zret (v := nI 0) hx hb hrt rfl (fun t ht hW => ⟨_, rfl, (congrArg nI (Eq.symm (bn_f (by simp only [s_mb, s_gu, Nat.reduceMul, Nat.reduceAdd]; omega)))), ht⟩) (fun _ h => nomatch h) dX2_mayBegin_30
      · skip
        refine o_const (k := 1) hx hb dX2_mayBegin_25 (by decide) ?_
        refine lv_goto (tgt := 30) hx hb dX2_mayBegin_26 (by decide) ?_
        exact W.zret (v := nI 1) hx hb hrt rfl (fun t ht hW => ⟨_, rfl, (congrArg nI (Eq.symm (bn_t (by simp only [s_mb, s_gu, Nat.reduceMul, Nat.reduceAdd]; omega)))), ht⟩) (fun _ h => nomatch h) dX2_mayBegin_30
theorem inX2_glance_X2 : ∀ w ∈ wsX20, w ∈ wsX2_glance := by decide +kernel
theorem inX2_glance_X1 : ∀ w ∈ wsX10, w ∈ wsX2_glance := by decide +kernel
set_option maxHeartbeats 4000000 in
set_option maxRecDepth 100000 in
theorem k_X2_glance (l : Launch) (D : va_G) (cI cR cS cL : ClassId) (sz : Nat) (q : Nat → Nat) (v : Nat → Nat → Nat) (b : Nat) (r : Nat) (hSI : s_I b v) (hb : b < 2 ^ 28) (hr : r < 4) : Met l yX2_glance wsX2_glance ({ frames := 3, cells := 0, slots := 0, locals := 65 }) (va_Pc [.ref (q 0), .int (nI r)] (o_B D (o_T cI cR cS cL) (wS q cI cR v) sz)) (va_Qi (fun rz (_ : Unit) => rz = nI (s_glr v r)) (fun (_ : Unit) t => va_P D vwCl (wS q cI cR (s_gl v r)) t.heap) (va_A (wS q cI cR v) sz)) 0 0 (va_A (wS q cI cR v) sz) := by
  refine Met.ofW (cc := cX2_glance) (maxL := 3) (ret := (some .int)) (by decide) rfl ?_
  intro p e s m args below meth cd s₁ B hml hv
  obtain ⟨rfl, hsz, hP, hK, hD0, hN⟩ := hv
  have hx := B.exec
  have hb := B.bytes
  have hrt := B.returns
  have hts := atoms_spec (ws := wsX2_glance) B.pre
  have hown : s.vm.findClass RX2 = some m.cls := findClass_of_methodNamed B.named
  have hlocks := B.notSynchronized
  subst hsz
  have hD := hD0.self (sz := s.heap.size)
  generalize hAe : va_A (wS q cI cR v) s.heap.size = A at hD ⊢
  have hA : ∀ q : Nat, s.heap.size ≤ q → A q := fun q h => by rw [← hAe]; exact Or.inr h
  have hS : va_S A s.heap s.heap [] := va_S.rf
  have hl := lv_entry ([.ref (q 0), .int (nI r)]) (n := 3) (Nat.le_of_ble_eq_true rfl)
  rw [lg_entry_eq]
  generalize (lg_sl ([.ref (q 0), .int (nI r)]) ++ List.replicate (3 - (lg_sl ([.ref (q 0), .int (nI r)])).length) Slot.unset).toArray = ls at hl ⊢
  have hl : lv_has ls 3 [(0, .ref (q 0)), (1, .int (nI r))] := hl
  rcases o_lt4 hr with rfl | rfl | rfl | rfl
  · skip
    obtain ⟨⟨i1, i2, i3, hpl⟩, i5⟩ := hSI
    have i12 := i5 0 (by omega)
    unfold s_IR at i12
    simp only [Nat.reduceMul, Nat.reduceAdd] at i12
    refine lv_aload_n hx hb dX2_glance_0 rfl (lv_at hl 0 rfl) ?_
    refine va_get (D := D) (ci := 2) (v := .ref (q 6)) (C := RX2) (T := TX2) (N := 4) hx hb hts inX2_glance_X2 hown hK hP 0 rfl rfl 1 (by decide) (hts (.fieldLink RX2 20 "OddNotice$State" "readers" "[LOddNotice$Reader;") (List.mem_of_getElem? (i := 1) (by decide +kernel))) (fun _ h9 => h9) rfl dX2_glance_1 ?_
    refine lv_iload_n hx hb dX2_glance_4 rfl (lv_at hl 1 rfl) ?_
    refine o_aldq (v := (q 7)) (C := "OddNotice$Reader") hx hb hK hP 1 1 rfl rfl (Nat.le_of_ble_eq_true rfl) (Nat.le_of_ble_eq_true rfl) rfl dX2_glance_5 ?_
    refine lv_astore_n (lv' := [(2, .ref (q 7)), (0, .ref (q 0)), (1, .int (nI 0))]) hx hb dX2_glance_6 rfl hl (by decide) rfl (fun ls hl => ?_)
    refine lv_aload_n hx hb dX2_glance_7 rfl (lv_at hl 0 rfl) ?_
    refine va_get (D := D) (ci := 1) (v := .int (nI (v 5 4))) (C := RX1) (T := TX1) (N := 10) hx hb hts inX2_glance_X1 hown hK hP 7 rfl rfl 4 (by decide) (hts (.fieldLink RX2 37 "OddNotice$Reader" "taken" "I") (List.mem_of_getElem? (i := 2) (by decide +kernel))) (fun _ h9 => h9) rfl dX2_glance_8 ?_
    refine o_const (k := 5) hx hb dX2_glance_11 (by decide) ?_
    refine o_icmp_ge (tgt := 24) hx hb dX2_glance_12 (by decide) (by omega) (Nat.le_of_ble_eq_true rfl) (fun c_1 => ?_) (fun c_1 => ?_)
    · skip
      refine lv_aload_n hx hb dX2_glance_24 rfl (lv_at hl 0 rfl) ?_
      refine lv_aload_n hx hb dX2_glance_25 rfl (lv_at hl 1 rfl) ?_
      refine va_get (D := D) (ci := 2) (v := .ref (q 1)) (C := RX2) (T := TX2) (N := 4) hx hb hts inX2_glance_X2 hown hK hP 0 rfl rfl 0 (by decide) (hts (.fieldLink RX2 12 "OddNotice$State" "board" "LOddNotice$Board;") (List.mem_of_getElem? (i := 3) (by decide +kernel))) (fun _ h9 => h9) rfl dX2_glance_26 ?_
      refine o_ri (va_runV (As := [.ref (q 1)]) (rest := []) ⟨hx, hb, hml, hown, hts⟩ (k_X1_wouldFail l D cI cR cS cL (fun k => q (k + 7)) (fun k => v (k + 5)) (fun k => q (k + 1)) v (by show (v 5 0) < 2 ^ 31; first | assumption | omega) (by show (v 5 1) < 2 ^ 31; first | assumption | omega) (by show (v 5 3) < 2 ^ 32; first | assumption | omega) (by show v 0 0 < 2 ^ 31; first | assumption | omega)) (cwV 1 hts gX2_glance_X1_wouldFail rfl rfl rfl (by decide +kernel) ⟨Nat.le_of_ble_eq_true rfl, Nat.le_of_ble_eq_true rfl⟩) (o_v (o_pR hK hN (hP.sub (ws' := (wR (fun k => q (k + 7)) cI (fun k => v (k + 5)) ++ wB (fun k => q (k + 1)) cI v)) [7, 8, 9, 2, 3, 4, 5, 6] rfl)) (va_recv hK hP (ci := 1) (q0 := 7) rfl rfl)) rfl rfl hl.1 rfl (lv_room (Nat.le_of_ble_eq_true rfl)) dX2_glance_29 ⟨Nat.zero_le _, Nat.zero_le _⟩) (fun r_3 e_2 => ?_)
      have e_2 : r_3 = nI (bn (¬ (v 5 0) = 0 ∧ (¬ (v 5 1) = 0 ∧ ¬ (v 5 3) = v 0 0 ∨ (v 5 1) = 0 ∧ v 0 0 % 2 = 1))) := e_2
      subst e_2
      refine o_ifz (tgt := 42) hx hb dX2_glance_32 (by decide) (fun c_4 => ?_) (fun c_4 => ?_)
      · skip
        refine lv_aload_n hx hb dX2_glance_42 rfl (lv_at hl 0 rfl) ?_
        refine o_wv (va_runV (As := []) (rest := []) ⟨hx, hb, hml, hown, hts⟩ (k_X1_doWell l D cI cR cS cL s.heap.size (fun k => q (k + 7)) (fun k => v (k + 5)) ) (cwV 0 hts gX2_glance_X1_doWell rfl rfl rfl (by decide +kernel) ⟨Nat.le_of_ble_eq_true rfl, Nat.le_of_ble_eq_true rfl⟩) (o_v (o_pB hK hN (hP.sub (ws' := (wR (fun k => q (k + 7)) cI (fun k => v (k + 5)))) [7, 8, 9] rfl) (hD.sub (ws' := (wR (fun k => q (k + 7)) cI (fun k => v (k + 5)))) [7, 8, 9] (by decide) rfl)) (va_recv hK hP (ci := 1) (q0 := 7) rfl rfl)) rfl rfl hl.1 rfl (lv_room (Nat.le_of_ble_eq_true rfl)) dX2_glance_43 ⟨Nat.zero_le _, Nat.zero_le _⟩) hP hD hS hA [7, 8, 9] (by decide) rfl (fun _ => rfl) (fun _ H locs e_5 hP hD hS => ?_)
        have hP : va_P D vwCl (wS q cI cR (va_up (va_up (va_up v 5 ((r_well (fun k => v (k + 5))) 0)) 6 ((r_well (fun k => v (k + 5))) 1)) 7 ((r_well (fun k => v (k + 5))) 2))) H := hP
        have hD : va_D A (wS q cI cR (va_up (va_up (va_up v 5 ((r_well (fun k => v (k + 5))) 0)) 6 ((r_well (fun k => v (k + 5))) 1)) 7 ((r_well (fun k => v (k + 5))) 2))) := hD
        refine lv_aload_n hx hb dX2_glance_46 rfl (lv_at hl 1 rfl) ?_
        refine va_get (D := D) (ci := 2) (v := .ref (q 1)) (C := RX2) (T := TX2) (N := 4) hx hb hts inX2_glance_X2 hown hK hP 0 rfl rfl 0 (by decide) (hts (.fieldLink RX2 12 "OddNotice$State" "board" "LOddNotice$Board;") (List.mem_of_getElem? (i := 3) (by decide +kernel))) (fun _ h9 => h9) rfl dX2_glance_47 ?_
        refine lv_aload_n hx hb dX2_glance_50 rfl (lv_at hl 0 rfl) ?_
        refine va_get (D := D) (ci := 1) (v := .ref (q 8)) (C := RX1) (T := TX1) (N := 10) hx hb hts inX2_glance_X1 hown hK hP 7 rfl rfl 8 (by decide) (hts (.fieldLink RX2 54 "OddNotice$Reader" "held" "[I") (List.mem_of_getElem? (i := 4) (by decide +kernel))) (fun _ h9 => h9) rfl dX2_glance_51 ?_
        refine o_ri (va_runV (As := [.ref (q 8)]) (rest := []) ⟨hx, hb, hml, hown, hts⟩ (k_X0_latestSame l D cI cR cS cL (fun k => q (k + 1)) (va_up (va_up (va_up v 5 ((r_well (fun k => v (k + 5))) 0)) 6 ((r_well (fun k => v (k + 5))) 1)) 7 ((r_well (fun k => v (k + 5))) 2)) (q 8) ((r_well (fun k => v (k + 5))) 1) (by show v 0 0 < 2 ^ 30; first | assumption | omega)) (cwV 1 hts gX2_glance_X0_latestSame rfl rfl rfl (by decide +kernel) ⟨Nat.le_of_ble_eq_true rfl, Nat.le_of_ble_eq_true rfl⟩) (o_v (o_pR hK hN (hP.sub (ws' := (wB (fun k => q (k + 1)) cI (va_up (va_up (va_up v 5 ((r_well (fun k => v (k + 5))) 0)) 6 ((r_well (fun k => v (k + 5))) 1)) 7 ((r_well (fun k => v (k + 5))) 2)) ++ [oa cI (q 8) 5 ((r_well (fun k => v (k + 5))) 1)])) [2, 3, 4, 5, 6, 8] rfl)) (va_recv hK hP (ci := 0) (q0 := 2) rfl rfl)) rfl rfl hl.1 rfl (lv_room (Nat.le_of_ble_eq_true rfl)) dX2_glance_54 ⟨Nat.zero_le _, Nat.zero_le _⟩) (fun r_7 e_6 => ?_)
        have e_6 : r_7 = nI (b_ls (v 4) ((r_well (fun k => v (k + 5))) 1) (v 0 0 / 2) 16 0) := e_6
        subst e_6
        have gv_8 := (b_ls_lt (by omega) 16 0 : b_ls (v 4) ((r_well (fun k => v (k + 5))) 1) (v 0 0 / 2) 16 0 < 2 ^ 32)
        refine o_const (k := 4294967295) hx hb dX2_glance_57 (by decide) ?_
        refine o_icmp_ne (tgt := 71) hx hb dX2_glance_58 (by decide) (by omega) (Nat.le_of_ble_eq_true rfl) (fun c_9 => ?_) (fun c_9 => ?_)
        · skip
          refine o_bipush (k := 101) hx hb dX2_glance_71 (by decide) ?_
          have w_10 : (wS q cI cR (s_gl v 0)) = (wS q cI cR (va_up (va_up (va_up v 5 ((r_well (fun k => v (k + 5))) 0)) 6 ((r_well (fun k => v (k + 5))) 1)) 7 ((r_well (fun k => v (k + 5))) 2))) := (by rw [show s_gl v 0 = va_up (s_wl v 0) 0 (va_up (v 0) 1 (v 0 1)) from Eq.trans (Eq.trans (if_neg c_1) (if_neg c_4)) (congrArg (fun z => va_up (s_wl v 0) 0 (va_up (v 0) 1 z)) (if_neg c_9))]; rfl)
          rw [← w_10] at hP
          exact W.iret (v := nI 101) hx hb hrt (fun t ht hW => ⟨⟨_, (), rfl, (congrArg nI (Eq.symm (show s_glr v 0 = _ from (Eq.trans (if_neg c_1) (if_neg c_4))))), by show va_P D vwCl _ t.heap; rw [ht]; exact hP⟩, hS.F ht⟩) hS.2.2 dX2_glance_73
        · skip
          refine lv_aload_n hx hb dX2_glance_61 rfl (lv_at hl 1 rfl) ?_
          refine lv_dup hx hb dX2_glance_62 rfl ?_
          refine va_get (D := D) (ci := 2) (v := .int (nI (v 0 1))) (C := RX2) (T := TX2) (N := 4) hx hb hts inX2_glance_X2 hown hK hP 0 rfl rfl 2 (by decide) (hts (.fieldLink RX2 62 "OddNotice$State" "halves" "I") (List.mem_of_getElem? (i := 5) (by decide +kernel))) (fun _ h9 => h9) rfl dX2_glance_63 ?_
          refine o_const (k := 1) hx hb dX2_glance_66 (by decide) ?_
          refine o_iadd (a := (v 0 1)) (b := 1) (k := ((v 0 1) + 1)) hx hb dX2_glance_67 rfl ?_
          refine va_put (D := D) (ci := 2) (v := .int (nI ((v 0 1) + 1))) (ty := .int) (C := RX2) (T := TX2) (N := 4) hx hb hts inX2_glance_X2 tyX2 tyX2_ok nmX2 hown hK hP hD hS 0 rfl rfl 2 (by decide) (hts (.fieldLink RX2 62 "OddNotice$State" "halves" "I") (List.mem_of_getElem? (i := 5) (by decide +kernel))) (fun _ h9 => h9) rfl (by decide +kernel) rfl rfl (Nat.le_of_ble_eq_true rfl) dX2_glance_68 (fun H locs hP hD hS => ?_)
          have hP : va_P D vwCl (wS q cI cR (va_up (va_up (va_up (va_up v 0 (va_up (v 0) 1 ((v 0 1) + 1))) 5 ((r_well (fun k => v (k + 5))) 0)) 6 ((r_well (fun k => v (k + 5))) 1)) 7 ((r_well (fun k => v (k + 5))) 2))) H := hP
          have hD : va_D A (wS q cI cR (va_up (va_up (va_up (va_up v 0 (va_up (v 0) 1 ((v 0 1) + 1))) 5 ((r_well (fun k => v (k + 5))) 0)) 6 ((r_well (fun k => v (k + 5))) 1)) 7 ((r_well (fun k => v (k + 5))) 2))) := hD
          refine o_bipush (k := 101) hx hb dX2_glance_71 (by decide) ?_
          have w_11 : (wS q cI cR (s_gl v 0)) = (wS q cI cR (va_up (va_up (va_up (va_up v 0 (va_up (v 0) 1 ((v 0 1) + 1))) 5 ((r_well (fun k => v (k + 5))) 0)) 6 ((r_well (fun k => v (k + 5))) 1)) 7 ((r_well (fun k => v (k + 5))) 2))) := (by rw [show s_gl v 0 = va_up (s_wl v 0) 0 (va_up (v 0) 1 (v 0 1 + 1)) from Eq.trans (Eq.trans (if_neg c_1) (if_neg c_4)) (congrArg (fun z => va_up (s_wl v 0) 0 (va_up (v 0) 1 z)) (if_pos c_9))]; rfl)
          rw [← w_11] at hP
          exact W.iret (v := nI 101) hx hb hrt (fun t ht hW => ⟨⟨_, (), rfl, (congrArg nI (Eq.symm (show s_glr v 0 = _ from (Eq.trans (if_neg c_1) (if_neg c_4))))), by show va_P D vwCl _ t.heap; rw [ht]; exact hP⟩, hS.F ht⟩) hS.2.2 dX2_glance_73
      · skip
        refine lv_aload_n hx hb dX2_glance_35 rfl (lv_at hl 0 rfl) ?_
        refine o_wv (va_runV (As := []) (rest := []) ⟨hx, hb, hml, hown, hts⟩ (k_X1_fail l D cI cR cS cL s.heap.size (fun k => q (k + 7)) (fun k => v (k + 5)) ) (cwV 0 hts gX2_glance_X1_fail rfl rfl rfl (by decide +kernel) ⟨Nat.le_of_ble_eq_true rfl, Nat.le_of_ble_eq_true rfl⟩) (o_v (o_pB hK hN (hP.sub (ws' := (wR (fun k => q (k + 7)) cI (fun k => v (k + 5)))) [7, 8, 9] rfl) (hD.sub (ws' := (wR (fun k => q (k + 7)) cI (fun k => v (k + 5)))) [7, 8, 9] (by decide) rfl)) (va_recv hK hP (ci := 1) (q0 := 7) rfl rfl)) rfl rfl hl.1 rfl (lv_room (Nat.le_of_ble_eq_true rfl)) dX2_glance_36 ⟨Nat.zero_le _, Nat.zero_le _⟩) hP hD hS hA [7, 8, 9] (by decide) rfl (fun _ => rfl) (fun _ H locs e_12 hP hD hS => ?_)
        have hP : va_P D vwCl (wS q cI cR (va_up v 5 (va_up (va_up (va_up (v 5) 1 0) 5 ((v 5 5) + 1)) 6 ((v 5 6) + 1)))) H := hP
        have hD : va_D A (wS q cI cR (va_up v 5 (va_up (va_up (va_up (v 5) 1 0) 5 ((v 5 5) + 1)) 6 ((v 5 6) + 1)))) := hD
        refine o_bipush (k := 100) hx hb dX2_glance_39 (by decide) ?_
        have w_13 : (wS q cI cR (s_gl v 0)) = (wS q cI cR (va_up v 5 (va_up (va_up (va_up (v 5) 1 0) 5 ((v 5 5) + 1)) 6 ((v 5 6) + 1)))) := (by rw [show s_gl v 0 = s_fl v 0 from (Eq.trans (if_neg c_1) (if_pos c_4))]; rfl)
        rw [← w_13] at hP
        exact W.iret (v := nI 100) hx hb hrt (fun t ht hW => ⟨⟨_, (), rfl, (congrArg nI (Eq.symm (show s_glr v 0 = _ from (Eq.trans (if_neg c_1) (if_pos c_4))))), by show va_P D vwCl _ t.heap; rw [ht]; exact hP⟩, hS.F ht⟩) hS.2.2 dX2_glance_41
    · skip
      refine lv_aload_n hx hb dX2_glance_15 rfl (lv_at hl 0 rfl) ?_
      refine lv_aload_n hx hb dX2_glance_16 rfl (lv_at hl 1 rfl) ?_
      refine va_get (D := D) (ci := 2) (v := .ref (q 1)) (C := RX2) (T := TX2) (N := 4) hx hb hts inX2_glance_X2 hown hK hP 0 rfl rfl 0 (by decide) (hts (.fieldLink RX2 12 "OddNotice$State" "board" "LOddNotice$Board;") (List.mem_of_getElem? (i := 3) (by decide +kernel))) (fun _ h9 => h9) rfl dX2_glance_17 ?_
      refine o_wi (va_runV (As := [.ref (q 1)]) (rest := []) ⟨hx, hb, hml, hown, hts⟩ (k_X1_take l D cI cR cS cL s.heap.size (fun k => q (k + 7)) (fun k => v (k + 5)) (fun k => q (k + 1)) v (by show (v 5 4) < 5; first | assumption | omega)) (cwV 1 hts gX2_glance_X1_take rfl rfl rfl (by decide +kernel) ⟨Nat.le_of_ble_eq_true rfl, Nat.le_of_ble_eq_true rfl⟩) (o_v (o_pB hK hN (hP.sub (ws' := (wR (fun k => q (k + 7)) cI (fun k => v (k + 5)) ++ wB (fun k => q (k + 1)) cI v)) [7, 8, 9, 2, 3, 4, 5, 6] rfl) (hD.sub (ws' := (wR (fun k => q (k + 7)) cI (fun k => v (k + 5)) ++ wB (fun k => q (k + 1)) cI v)) [7, 8, 9, 2, 3, 4, 5, 6] (by decide) rfl)) (va_recv hK hP (ci := 1) (q0 := 7) rfl rfl)) rfl rfl hl.1 rfl (lv_room (Nat.le_of_ble_eq_true rfl)) dX2_glance_20 ⟨Nat.zero_le _, Nat.zero_le _⟩) hP hD hS hA [7, 8, 9, 2, 3, 4, 5, 6] (by decide) rfl (fun _ => rfl) (fun r_15 _ H locs e_14 hP hD hS => ?_)
      have e_14 : r_15 = nI (v 1 (v 5 4)) := e_14
      subst e_14
      have hP : va_P D vwCl (wS q cI cR (va_up (va_up (va_up v 5 ((r_take (fun k => v (k + 5)) v) 0)) 6 ((r_take (fun k => v (k + 5)) v) 1)) 7 ((r_take (fun k => v (k + 5)) v) 2))) H := hP
      have hD : va_D A (wS q cI cR (va_up (va_up (va_up v 5 ((r_take (fun k => v (k + 5)) v) 0)) 6 ((r_take (fun k => v (k + 5)) v) 1)) 7 ((r_take (fun k => v (k + 5)) v) 2))) := hD
      have w_16 : (wS q cI cR (s_gl v 0)) = (wS q cI cR (va_up (va_up (va_up v 5 ((r_take (fun k => v (k + 5)) v) 0)) 6 ((r_take (fun k => v (k + 5)) v) 1)) 7 ((r_take (fun k => v (k + 5)) v) 2))) := (by rw [show s_gl v 0 = s_tk v 0 from (if_pos c_1)]; rfl)
      rw [← w_16] at hP
      exact W.iret (v := nI (v 1 (v 5 4))) hx hb hrt (fun t ht hW => ⟨⟨_, (), rfl, (congrArg nI (Eq.symm (show s_glr v 0 = _ from (if_pos c_1)))), by show va_P D vwCl _ t.heap; rw [ht]; exact hP⟩, hS.F ht⟩) hS.2.2 dX2_glance_23
  · skip
    obtain ⟨⟨i1, i2, i3, hpl⟩, i5⟩ := hSI
    have i12 := i5 1 (by omega)
    unfold s_IR at i12
    simp only [Nat.reduceMul, Nat.reduceAdd] at i12
    refine lv_aload_n hx hb dX2_glance_0 rfl (lv_at hl 0 rfl) ?_
    refine va_get (D := D) (ci := 2) (v := .ref (q 6)) (C := RX2) (T := TX2) (N := 4) hx hb hts inX2_glance_X2 hown hK hP 0 rfl rfl 1 (by decide) (hts (.fieldLink RX2 20 "OddNotice$State" "readers" "[LOddNotice$Reader;") (List.mem_of_getElem? (i := 1) (by decide +kernel))) (fun _ h9 => h9) rfl dX2_glance_1 ?_
    refine lv_iload_n hx hb dX2_glance_4 rfl (lv_at hl 1 rfl) ?_
    refine o_aldq (v := (q 10)) (C := "OddNotice$Reader") hx hb hK hP 1 1 rfl rfl (Nat.le_of_ble_eq_true rfl) (Nat.le_of_ble_eq_true rfl) rfl dX2_glance_5 ?_
    refine lv_astore_n (lv' := [(2, .ref (q 10)), (0, .ref (q 0)), (1, .int (nI 1))]) hx hb dX2_glance_6 rfl hl (by decide) rfl (fun ls hl => ?_)
    refine lv_aload_n hx hb dX2_glance_7 rfl (lv_at hl 0 rfl) ?_
    refine va_get (D := D) (ci := 1) (v := .int (nI (v 8 4))) (C := RX1) (T := TX1) (N := 10) hx hb hts inX2_glance_X1 hown hK hP 10 rfl rfl 4 (by decide) (hts (.fieldLink RX2 37 "OddNotice$Reader" "taken" "I") (List.mem_of_getElem? (i := 2) (by decide +kernel))) (fun _ h9 => h9) rfl dX2_glance_8 ?_
    refine o_const (k := 5) hx hb dX2_glance_11 (by decide) ?_
    refine o_icmp_ge (tgt := 24) hx hb dX2_glance_12 (by decide) (by omega) (Nat.le_of_ble_eq_true rfl) (fun c_17 => ?_) (fun c_17 => ?_)
    · skip
      refine lv_aload_n hx hb dX2_glance_24 rfl (lv_at hl 0 rfl) ?_
      refine lv_aload_n hx hb dX2_glance_25 rfl (lv_at hl 1 rfl) ?_
      refine va_get (D := D) (ci := 2) (v := .ref (q 1)) (C := RX2) (T := TX2) (N := 4) hx hb hts inX2_glance_X2 hown hK hP 0 rfl rfl 0 (by decide) (hts (.fieldLink RX2 12 "OddNotice$State" "board" "LOddNotice$Board;") (List.mem_of_getElem? (i := 3) (by decide +kernel))) (fun _ h9 => h9) rfl dX2_glance_26 ?_
      refine o_ri (va_runV (As := [.ref (q 1)]) (rest := []) ⟨hx, hb, hml, hown, hts⟩ (k_X1_wouldFail l D cI cR cS cL (fun k => q (k + 10)) (fun k => v (k + 8)) (fun k => q (k + 1)) v (by show (v 8 0) < 2 ^ 31; first | assumption | omega) (by show (v 8 1) < 2 ^ 31; first | assumption | omega) (by show (v 8 3) < 2 ^ 32; first | assumption | omega) (by show v 0 0 < 2 ^ 31; first | assumption | omega)) (cwV 1 hts gX2_glance_X1_wouldFail rfl rfl rfl (by decide +kernel) ⟨Nat.le_of_ble_eq_true rfl, Nat.le_of_ble_eq_true rfl⟩) (o_v (o_pR hK hN (hP.sub (ws' := (wR (fun k => q (k + 10)) cI (fun k => v (k + 8)) ++ wB (fun k => q (k + 1)) cI v)) [10, 11, 12, 2, 3, 4, 5, 6] rfl)) (va_recv hK hP (ci := 1) (q0 := 10) rfl rfl)) rfl rfl hl.1 rfl (lv_room (Nat.le_of_ble_eq_true rfl)) dX2_glance_29 ⟨Nat.zero_le _, Nat.zero_le _⟩) (fun r_19 e_18 => ?_)
      have e_18 : r_19 = nI (bn (¬ (v 8 0) = 0 ∧ (¬ (v 8 1) = 0 ∧ ¬ (v 8 3) = v 0 0 ∨ (v 8 1) = 0 ∧ v 0 0 % 2 = 1))) := e_18
      subst e_18
      refine o_ifz (tgt := 42) hx hb dX2_glance_32 (by decide) (fun c_20 => ?_) (fun c_20 => ?_)
      · skip
        refine lv_aload_n hx hb dX2_glance_42 rfl (lv_at hl 0 rfl) ?_
        refine o_wv (va_runV (As := []) (rest := []) ⟨hx, hb, hml, hown, hts⟩ (k_X1_doWell l D cI cR cS cL s.heap.size (fun k => q (k + 10)) (fun k => v (k + 8)) ) (cwV 0 hts gX2_glance_X1_doWell rfl rfl rfl (by decide +kernel) ⟨Nat.le_of_ble_eq_true rfl, Nat.le_of_ble_eq_true rfl⟩) (o_v (o_pB hK hN (hP.sub (ws' := (wR (fun k => q (k + 10)) cI (fun k => v (k + 8)))) [10, 11, 12] rfl) (hD.sub (ws' := (wR (fun k => q (k + 10)) cI (fun k => v (k + 8)))) [10, 11, 12] (by decide) rfl)) (va_recv hK hP (ci := 1) (q0 := 10) rfl rfl)) rfl rfl hl.1 rfl (lv_room (Nat.le_of_ble_eq_true rfl)) dX2_glance_43 ⟨Nat.zero_le _, Nat.zero_le _⟩) hP hD hS hA [10, 11, 12] (by decide) rfl (fun _ => rfl) (fun _ H locs e_21 hP hD hS => ?_)
        have hP : va_P D vwCl (wS q cI cR (va_up (va_up (va_up v 8 ((r_well (fun k => v (k + 8))) 0)) 9 ((r_well (fun k => v (k + 8))) 1)) 10 ((r_well (fun k => v (k + 8))) 2))) H := hP
        have hD : va_D A (wS q cI cR (va_up (va_up (va_up v 8 ((r_well (fun k => v (k + 8))) 0)) 9 ((r_well (fun k => v (k + 8))) 1)) 10 ((r_well (fun k => v (k + 8))) 2))) := hD
        refine lv_aload_n hx hb dX2_glance_46 rfl (lv_at hl 1 rfl) ?_
        refine va_get (D := D) (ci := 2) (v := .ref (q 1)) (C := RX2) (T := TX2) (N := 4) hx hb hts inX2_glance_X2 hown hK hP 0 rfl rfl 0 (by decide) (hts (.fieldLink RX2 12 "OddNotice$State" "board" "LOddNotice$Board;") (List.mem_of_getElem? (i := 3) (by decide +kernel))) (fun _ h9 => h9) rfl dX2_glance_47 ?_
        refine lv_aload_n hx hb dX2_glance_50 rfl (lv_at hl 0 rfl) ?_
        refine va_get (D := D) (ci := 1) (v := .ref (q 11)) (C := RX1) (T := TX1) (N := 10) hx hb hts inX2_glance_X1 hown hK hP 10 rfl rfl 8 (by decide) (hts (.fieldLink RX2 54 "OddNotice$Reader" "held" "[I") (List.mem_of_getElem? (i := 4) (by decide +kernel))) (fun _ h9 => h9) rfl dX2_glance_51 ?_
        refine o_ri (va_runV (As := [.ref (q 11)]) (rest := []) ⟨hx, hb, hml, hown, hts⟩ (k_X0_latestSame l D cI cR cS cL (fun k => q (k + 1)) (va_up (va_up (va_up v 8 ((r_well (fun k => v (k + 8))) 0)) 9 ((r_well (fun k => v (k + 8))) 1)) 10 ((r_well (fun k => v (k + 8))) 2)) (q 11) ((r_well (fun k => v (k + 8))) 1) (by show v 0 0 < 2 ^ 30; first | assumption | omega)) (cwV 1 hts gX2_glance_X0_latestSame rfl rfl rfl (by decide +kernel) ⟨Nat.le_of_ble_eq_true rfl, Nat.le_of_ble_eq_true rfl⟩) (o_v (o_pR hK hN (hP.sub (ws' := (wB (fun k => q (k + 1)) cI (va_up (va_up (va_up v 8 ((r_well (fun k => v (k + 8))) 0)) 9 ((r_well (fun k => v (k + 8))) 1)) 10 ((r_well (fun k => v (k + 8))) 2)) ++ [oa cI (q 11) 5 ((r_well (fun k => v (k + 8))) 1)])) [2, 3, 4, 5, 6, 11] rfl)) (va_recv hK hP (ci := 0) (q0 := 2) rfl rfl)) rfl rfl hl.1 rfl (lv_room (Nat.le_of_ble_eq_true rfl)) dX2_glance_54 ⟨Nat.zero_le _, Nat.zero_le _⟩) (fun r_23 e_22 => ?_)
        have e_22 : r_23 = nI (b_ls (v 4) ((r_well (fun k => v (k + 8))) 1) (v 0 0 / 2) 16 0) := e_22
        subst e_22
        have gv_24 := (b_ls_lt (by omega) 16 0 : b_ls (v 4) ((r_well (fun k => v (k + 8))) 1) (v 0 0 / 2) 16 0 < 2 ^ 32)
        refine o_const (k := 4294967295) hx hb dX2_glance_57 (by decide) ?_
        refine o_icmp_ne (tgt := 71) hx hb dX2_glance_58 (by decide) (by omega) (Nat.le_of_ble_eq_true rfl) (fun c_25 => ?_) (fun c_25 => ?_)
        · skip
          refine o_bipush (k := 101) hx hb dX2_glance_71 (by decide) ?_
          have w_26 : (wS q cI cR (s_gl v 1)) = (wS q cI cR (va_up (va_up (va_up v 8 ((r_well (fun k => v (k + 8))) 0)) 9 ((r_well (fun k => v (k + 8))) 1)) 10 ((r_well (fun k => v (k + 8))) 2))) := (by rw [show s_gl v 1 = va_up (s_wl v 1) 0 (va_up (v 0) 1 (v 0 1)) from Eq.trans (Eq.trans (if_neg c_17) (if_neg c_20)) (congrArg (fun z => va_up (s_wl v 1) 0 (va_up (v 0) 1 z)) (if_neg c_25))]; rfl)
          rw [← w_26] at hP
          exact W.iret (v := nI 101) hx hb hrt (fun t ht hW => ⟨⟨_, (), rfl, (congrArg nI (Eq.symm (show s_glr v 1 = _ from (Eq.trans (if_neg c_17) (if_neg c_20))))), by show va_P D vwCl _ t.heap; rw [ht]; exact hP⟩, hS.F ht⟩) hS.2.2 dX2_glance_73
        · skip
          refine lv_aload_n hx hb dX2_glance_61 rfl (lv_at hl 1 rfl) ?_
          refine lv_dup hx hb dX2_glance_62 rfl ?_
          refine va_get (D := D) (ci := 2) (v := .int (nI (v 0 1))) (C := RX2) (T := TX2) (N := 4) hx hb hts inX2_glance_X2 hown hK hP 0 rfl rfl 2 (by decide) (hts (.fieldLink RX2 62 "OddNotice$State" "halves" "I") (List.mem_of_getElem? (i := 5) (by decide +kernel))) (fun _ h9 => h9) rfl dX2_glance_63 ?_
          refine o_const (k := 1) hx hb dX2_glance_66 (by decide) ?_
          refine o_iadd (a := (v 0 1)) (b := 1) (k := ((v 0 1) + 1)) hx hb dX2_glance_67 rfl ?_
          refine va_put (D := D) (ci := 2) (v := .int (nI ((v 0 1) + 1))) (ty := .int) (C := RX2) (T := TX2) (N := 4) hx hb hts inX2_glance_X2 tyX2 tyX2_ok nmX2 hown hK hP hD hS 0 rfl rfl 2 (by decide) (hts (.fieldLink RX2 62 "OddNotice$State" "halves" "I") (List.mem_of_getElem? (i := 5) (by decide +kernel))) (fun _ h9 => h9) rfl (by decide +kernel) rfl rfl (Nat.le_of_ble_eq_true rfl) dX2_glance_68 (fun H locs hP hD hS => ?_)
          have hP : va_P D vwCl (wS q cI cR (va_up (va_up (va_up (va_up v 0 (va_up (v 0) 1 ((v 0 1) + 1))) 8 ((r_well (fun k => v (k + 8))) 0)) 9 ((r_well (fun k => v (k + 8))) 1)) 10 ((r_well (fun k => v (k + 8))) 2))) H := hP
          have hD : va_D A (wS q cI cR (va_up (va_up (va_up (va_up v 0 (va_up (v 0) 1 ((v 0 1) + 1))) 8 ((r_well (fun k => v (k + 8))) 0)) 9 ((r_well (fun k => v (k + 8))) 1)) 10 ((r_well (fun k => v (k + 8))) 2))) := hD
          refine o_bipush (k := 101) hx hb dX2_glance_71 (by decide) ?_
          have w_27 : (wS q cI cR (s_gl v 1)) = (wS q cI cR (va_up (va_up (va_up (va_up v 0 (va_up (v 0) 1 ((v 0 1) + 1))) 8 ((r_well (fun k => v (k + 8))) 0)) 9 ((r_well (fun k => v (k + 8))) 1)) 10 ((r_well (fun k => v (k + 8))) 2))) := (by rw [show s_gl v 1 = va_up (s_wl v 1) 0 (va_up (v 0) 1 (v 0 1 + 1)) from Eq.trans (Eq.trans (if_neg c_17) (if_neg c_20)) (congrArg (fun z => va_up (s_wl v 1) 0 (va_up (v 0) 1 z)) (if_pos c_25))]; rfl)
          rw [← w_27] at hP
          exact W.iret (v := nI 101) hx hb hrt (fun t ht hW => ⟨⟨_, (), rfl, (congrArg nI (Eq.symm (show s_glr v 1 = _ from (Eq.trans (if_neg c_17) (if_neg c_20))))), by show va_P D vwCl _ t.heap; rw [ht]; exact hP⟩, hS.F ht⟩) hS.2.2 dX2_glance_73
      · skip
        refine lv_aload_n hx hb dX2_glance_35 rfl (lv_at hl 0 rfl) ?_
        refine o_wv (va_runV (As := []) (rest := []) ⟨hx, hb, hml, hown, hts⟩ (k_X1_fail l D cI cR cS cL s.heap.size (fun k => q (k + 10)) (fun k => v (k + 8)) ) (cwV 0 hts gX2_glance_X1_fail rfl rfl rfl (by decide +kernel) ⟨Nat.le_of_ble_eq_true rfl, Nat.le_of_ble_eq_true rfl⟩) (o_v (o_pB hK hN (hP.sub (ws' := (wR (fun k => q (k + 10)) cI (fun k => v (k + 8)))) [10, 11, 12] rfl) (hD.sub (ws' := (wR (fun k => q (k + 10)) cI (fun k => v (k + 8)))) [10, 11, 12] (by decide) rfl)) (va_recv hK hP (ci := 1) (q0 := 10) rfl rfl)) rfl rfl hl.1 rfl (lv_room (Nat.le_of_ble_eq_true rfl)) dX2_glance_36 ⟨Nat.zero_le _, Nat.zero_le _⟩) hP hD hS hA [10, 11, 12] (by decide) rfl (fun _ => rfl) (fun _ H locs e_28 hP hD hS => ?_)
        have hP : va_P D vwCl (wS q cI cR (va_up v 8 (va_up (va_up (va_up (v 8) 1 0) 5 ((v 8 5) + 1)) 6 ((v 8 6) + 1)))) H := hP
        have hD : va_D A (wS q cI cR (va_up v 8 (va_up (va_up (va_up (v 8) 1 0) 5 ((v 8 5) + 1)) 6 ((v 8 6) + 1)))) := hD
        refine o_bipush (k := 100) hx hb dX2_glance_39 (by decide) ?_
        have w_29 : (wS q cI cR (s_gl v 1)) = (wS q cI cR (va_up v 8 (va_up (va_up (va_up (v 8) 1 0) 5 ((v 8 5) + 1)) 6 ((v 8 6) + 1)))) := (by rw [show s_gl v 1 = s_fl v 1 from (Eq.trans (if_neg c_17) (if_pos c_20))]; rfl)
        rw [← w_29] at hP
        exact W.iret (v := nI 100) hx hb hrt (fun t ht hW => ⟨⟨_, (), rfl, (congrArg nI (Eq.symm (show s_glr v 1 = _ from (Eq.trans (if_neg c_17) (if_pos c_20))))), by show va_P D vwCl _ t.heap; rw [ht]; exact hP⟩, hS.F ht⟩) hS.2.2 dX2_glance_41
    · skip
      refine lv_aload_n hx hb dX2_glance_15 rfl (lv_at hl 0 rfl) ?_
      refine lv_aload_n hx hb dX2_glance_16 rfl (lv_at hl 1 rfl) ?_
      refine va_get (D := D) (ci := 2) (v := .ref (q 1)) (C := RX2) (T := TX2) (N := 4) hx hb hts inX2_glance_X2 hown hK hP 0 rfl rfl 0 (by decide) (hts (.fieldLink RX2 12 "OddNotice$State" "board" "LOddNotice$Board;") (List.mem_of_getElem? (i := 3) (by decide +kernel))) (fun _ h9 => h9) rfl dX2_glance_17 ?_
      refine o_wi (va_runV (As := [.ref (q 1)]) (rest := []) ⟨hx, hb, hml, hown, hts⟩ (k_X1_take l D cI cR cS cL s.heap.size (fun k => q (k + 10)) (fun k => v (k + 8)) (fun k => q (k + 1)) v (by show (v 8 4) < 5; first | assumption | omega)) (cwV 1 hts gX2_glance_X1_take rfl rfl rfl (by decide +kernel) ⟨Nat.le_of_ble_eq_true rfl, Nat.le_of_ble_eq_true rfl⟩) (o_v (o_pB hK hN (hP.sub (ws' := (wR (fun k => q (k + 10)) cI (fun k => v (k + 8)) ++ wB (fun k => q (k + 1)) cI v)) [10, 11, 12, 2, 3, 4, 5, 6] rfl) (hD.sub (ws' := (wR (fun k => q (k + 10)) cI (fun k => v (k + 8)) ++ wB (fun k => q (k + 1)) cI v)) [10, 11, 12, 2, 3, 4, 5, 6] (by decide) rfl)) (va_recv hK hP (ci := 1) (q0 := 10) rfl rfl)) rfl rfl hl.1 rfl (lv_room (Nat.le_of_ble_eq_true rfl)) dX2_glance_20 ⟨Nat.zero_le _, Nat.zero_le _⟩) hP hD hS hA [10, 11, 12, 2, 3, 4, 5, 6] (by decide) rfl (fun _ => rfl) (fun r_31 _ H locs e_30 hP hD hS => ?_)
      have e_30 : r_31 = nI (v 1 (v 8 4)) := e_30
      subst e_30
      have hP : va_P D vwCl (wS q cI cR (va_up (va_up (va_up v 8 ((r_take (fun k => v (k + 8)) v) 0)) 9 ((r_take (fun k => v (k + 8)) v) 1)) 10 ((r_take (fun k => v (k + 8)) v) 2))) H := hP
      have hD : va_D A (wS q cI cR (va_up (va_up (va_up v 8 ((r_take (fun k => v (k + 8)) v) 0)) 9 ((r_take (fun k => v (k + 8)) v) 1)) 10 ((r_take (fun k => v (k + 8)) v) 2))) := hD
      have w_32 : (wS q cI cR (s_gl v 1)) = (wS q cI cR (va_up (va_up (va_up v 8 ((r_take (fun k => v (k + 8)) v) 0)) 9 ((r_take (fun k => v (k + 8)) v) 1)) 10 ((r_take (fun k => v (k + 8)) v) 2))) := (by rw [show s_gl v 1 = s_tk v 1 from (if_pos c_17)]; rfl)
      rw [← w_32] at hP
      exact W.iret (v := nI (v 1 (v 8 4))) hx hb hrt (fun t ht hW => ⟨⟨_, (), rfl, (congrArg nI (Eq.symm (show s_glr v 1 = _ from (if_pos c_17)))), by show va_P D vwCl _ t.heap; rw [ht]; exact hP⟩, hS.F ht⟩) hS.2.2 dX2_glance_23
  · skip
    obtain ⟨⟨i1, i2, i3, hpl⟩, i5⟩ := hSI
    have i12 := i5 2 (by omega)
    unfold s_IR at i12
    simp only [Nat.reduceMul, Nat.reduceAdd] at i12
    refine lv_aload_n hx hb dX2_glance_0 rfl (lv_at hl 0 rfl) ?_
    refine va_get (D := D) (ci := 2) (v := .ref (q 6)) (C := RX2) (T := TX2) (N := 4) hx hb hts inX2_glance_X2 hown hK hP 0 rfl rfl 1 (by decide) (hts (.fieldLink RX2 20 "OddNotice$State" "readers" "[LOddNotice$Reader;") (List.mem_of_getElem? (i := 1) (by decide +kernel))) (fun _ h9 => h9) rfl dX2_glance_1 ?_
    refine lv_iload_n hx hb dX2_glance_4 rfl (lv_at hl 1 rfl) ?_
    refine o_aldq (v := (q 13)) (C := "OddNotice$Reader") hx hb hK hP 1 1 rfl rfl (Nat.le_of_ble_eq_true rfl) (Nat.le_of_ble_eq_true rfl) rfl dX2_glance_5 ?_
    refine lv_astore_n (lv' := [(2, .ref (q 13)), (0, .ref (q 0)), (1, .int (nI 2))]) hx hb dX2_glance_6 rfl hl (by decide) rfl (fun ls hl => ?_)
    refine lv_aload_n hx hb dX2_glance_7 rfl (lv_at hl 0 rfl) ?_
    refine va_get (D := D) (ci := 1) (v := .int (nI (v 11 4))) (C := RX1) (T := TX1) (N := 10) hx hb hts inX2_glance_X1 hown hK hP 13 rfl rfl 4 (by decide) (hts (.fieldLink RX2 37 "OddNotice$Reader" "taken" "I") (List.mem_of_getElem? (i := 2) (by decide +kernel))) (fun _ h9 => h9) rfl dX2_glance_8 ?_
    refine o_const (k := 5) hx hb dX2_glance_11 (by decide) ?_
    refine o_icmp_ge (tgt := 24) hx hb dX2_glance_12 (by decide) (by omega) (Nat.le_of_ble_eq_true rfl) (fun c_33 => ?_) (fun c_33 => ?_)
    · skip
      refine lv_aload_n hx hb dX2_glance_24 rfl (lv_at hl 0 rfl) ?_
      refine lv_aload_n hx hb dX2_glance_25 rfl (lv_at hl 1 rfl) ?_
      refine va_get (D := D) (ci := 2) (v := .ref (q 1)) (C := RX2) (T := TX2) (N := 4) hx hb hts inX2_glance_X2 hown hK hP 0 rfl rfl 0 (by decide) (hts (.fieldLink RX2 12 "OddNotice$State" "board" "LOddNotice$Board;") (List.mem_of_getElem? (i := 3) (by decide +kernel))) (fun _ h9 => h9) rfl dX2_glance_26 ?_
      refine o_ri (va_runV (As := [.ref (q 1)]) (rest := []) ⟨hx, hb, hml, hown, hts⟩ (k_X1_wouldFail l D cI cR cS cL (fun k => q (k + 13)) (fun k => v (k + 11)) (fun k => q (k + 1)) v (by show (v 11 0) < 2 ^ 31; first | assumption | omega) (by show (v 11 1) < 2 ^ 31; first | assumption | omega) (by show (v 11 3) < 2 ^ 32; first | assumption | omega) (by show v 0 0 < 2 ^ 31; first | assumption | omega)) (cwV 1 hts gX2_glance_X1_wouldFail rfl rfl rfl (by decide +kernel) ⟨Nat.le_of_ble_eq_true rfl, Nat.le_of_ble_eq_true rfl⟩) (o_v (o_pR hK hN (hP.sub (ws' := (wR (fun k => q (k + 13)) cI (fun k => v (k + 11)) ++ wB (fun k => q (k + 1)) cI v)) [13, 14, 15, 2, 3, 4, 5, 6] rfl)) (va_recv hK hP (ci := 1) (q0 := 13) rfl rfl)) rfl rfl hl.1 rfl (lv_room (Nat.le_of_ble_eq_true rfl)) dX2_glance_29 ⟨Nat.zero_le _, Nat.zero_le _⟩) (fun r_35 e_34 => ?_)
      have e_34 : r_35 = nI (bn (¬ (v 11 0) = 0 ∧ (¬ (v 11 1) = 0 ∧ ¬ (v 11 3) = v 0 0 ∨ (v 11 1) = 0 ∧ v 0 0 % 2 = 1))) := e_34
      subst e_34
      refine o_ifz (tgt := 42) hx hb dX2_glance_32 (by decide) (fun c_36 => ?_) (fun c_36 => ?_)
      · skip
        refine lv_aload_n hx hb dX2_glance_42 rfl (lv_at hl 0 rfl) ?_
        refine o_wv (va_runV (As := []) (rest := []) ⟨hx, hb, hml, hown, hts⟩ (k_X1_doWell l D cI cR cS cL s.heap.size (fun k => q (k + 13)) (fun k => v (k + 11)) ) (cwV 0 hts gX2_glance_X1_doWell rfl rfl rfl (by decide +kernel) ⟨Nat.le_of_ble_eq_true rfl, Nat.le_of_ble_eq_true rfl⟩) (o_v (o_pB hK hN (hP.sub (ws' := (wR (fun k => q (k + 13)) cI (fun k => v (k + 11)))) [13, 14, 15] rfl) (hD.sub (ws' := (wR (fun k => q (k + 13)) cI (fun k => v (k + 11)))) [13, 14, 15] (by decide) rfl)) (va_recv hK hP (ci := 1) (q0 := 13) rfl rfl)) rfl rfl hl.1 rfl (lv_room (Nat.le_of_ble_eq_true rfl)) dX2_glance_43 ⟨Nat.zero_le _, Nat.zero_le _⟩) hP hD hS hA [13, 14, 15] (by decide) rfl (fun _ => rfl) (fun _ H locs e_37 hP hD hS => ?_)
        have hP : va_P D vwCl (wS q cI cR (va_up (va_up (va_up v 11 ((r_well (fun k => v (k + 11))) 0)) 12 ((r_well (fun k => v (k + 11))) 1)) 13 ((r_well (fun k => v (k + 11))) 2))) H := hP
        have hD : va_D A (wS q cI cR (va_up (va_up (va_up v 11 ((r_well (fun k => v (k + 11))) 0)) 12 ((r_well (fun k => v (k + 11))) 1)) 13 ((r_well (fun k => v (k + 11))) 2))) := hD
        refine lv_aload_n hx hb dX2_glance_46 rfl (lv_at hl 1 rfl) ?_
        refine va_get (D := D) (ci := 2) (v := .ref (q 1)) (C := RX2) (T := TX2) (N := 4) hx hb hts inX2_glance_X2 hown hK hP 0 rfl rfl 0 (by decide) (hts (.fieldLink RX2 12 "OddNotice$State" "board" "LOddNotice$Board;") (List.mem_of_getElem? (i := 3) (by decide +kernel))) (fun _ h9 => h9) rfl dX2_glance_47 ?_
        refine lv_aload_n hx hb dX2_glance_50 rfl (lv_at hl 0 rfl) ?_
        refine va_get (D := D) (ci := 1) (v := .ref (q 14)) (C := RX1) (T := TX1) (N := 10) hx hb hts inX2_glance_X1 hown hK hP 13 rfl rfl 8 (by decide) (hts (.fieldLink RX2 54 "OddNotice$Reader" "held" "[I") (List.mem_of_getElem? (i := 4) (by decide +kernel))) (fun _ h9 => h9) rfl dX2_glance_51 ?_
        refine o_ri (va_runV (As := [.ref (q 14)]) (rest := []) ⟨hx, hb, hml, hown, hts⟩ (k_X0_latestSame l D cI cR cS cL (fun k => q (k + 1)) (va_up (va_up (va_up v 11 ((r_well (fun k => v (k + 11))) 0)) 12 ((r_well (fun k => v (k + 11))) 1)) 13 ((r_well (fun k => v (k + 11))) 2)) (q 14) ((r_well (fun k => v (k + 11))) 1) (by show v 0 0 < 2 ^ 30; first | assumption | omega)) (cwV 1 hts gX2_glance_X0_latestSame rfl rfl rfl (by decide +kernel) ⟨Nat.le_of_ble_eq_true rfl, Nat.le_of_ble_eq_true rfl⟩) (o_v (o_pR hK hN (hP.sub (ws' := (wB (fun k => q (k + 1)) cI (va_up (va_up (va_up v 11 ((r_well (fun k => v (k + 11))) 0)) 12 ((r_well (fun k => v (k + 11))) 1)) 13 ((r_well (fun k => v (k + 11))) 2)) ++ [oa cI (q 14) 5 ((r_well (fun k => v (k + 11))) 1)])) [2, 3, 4, 5, 6, 14] rfl)) (va_recv hK hP (ci := 0) (q0 := 2) rfl rfl)) rfl rfl hl.1 rfl (lv_room (Nat.le_of_ble_eq_true rfl)) dX2_glance_54 ⟨Nat.zero_le _, Nat.zero_le _⟩) (fun r_39 e_38 => ?_)
        have e_38 : r_39 = nI (b_ls (v 4) ((r_well (fun k => v (k + 11))) 1) (v 0 0 / 2) 16 0) := e_38
        subst e_38
        have gv_40 := (b_ls_lt (by omega) 16 0 : b_ls (v 4) ((r_well (fun k => v (k + 11))) 1) (v 0 0 / 2) 16 0 < 2 ^ 32)
        refine o_const (k := 4294967295) hx hb dX2_glance_57 (by decide) ?_
        refine o_icmp_ne (tgt := 71) hx hb dX2_glance_58 (by decide) (by omega) (Nat.le_of_ble_eq_true rfl) (fun c_41 => ?_) (fun c_41 => ?_)
        · skip
          refine o_bipush (k := 101) hx hb dX2_glance_71 (by decide) ?_
          have w_42 : (wS q cI cR (s_gl v 2)) = (wS q cI cR (va_up (va_up (va_up v 11 ((r_well (fun k => v (k + 11))) 0)) 12 ((r_well (fun k => v (k + 11))) 1)) 13 ((r_well (fun k => v (k + 11))) 2))) := (by rw [show s_gl v 2 = va_up (s_wl v 2) 0 (va_up (v 0) 1 (v 0 1)) from Eq.trans (Eq.trans (if_neg c_33) (if_neg c_36)) (congrArg (fun z => va_up (s_wl v 2) 0 (va_up (v 0) 1 z)) (if_neg c_41))]; rfl)
          rw [← w_42] at hP
          exact W.iret (v := nI 101) hx hb hrt (fun t ht hW => ⟨⟨_, (), rfl, (congrArg nI (Eq.symm (show s_glr v 2 = _ from (Eq.trans (if_neg c_33) (if_neg c_36))))), by show va_P D vwCl _ t.heap; rw [ht]; exact hP⟩, hS.F ht⟩) hS.2.2 dX2_glance_73
        · skip
          refine lv_aload_n hx hb dX2_glance_61 rfl (lv_at hl 1 rfl) ?_
          refine lv_dup hx hb dX2_glance_62 rfl ?_
          refine va_get (D := D) (ci := 2) (v := .int (nI (v 0 1))) (C := RX2) (T := TX2) (N := 4) hx hb hts inX2_glance_X2 hown hK hP 0 rfl rfl 2 (by decide) (hts (.fieldLink RX2 62 "OddNotice$State" "halves" "I") (List.mem_of_getElem? (i := 5) (by decide +kernel))) (fun _ h9 => h9) rfl dX2_glance_63 ?_
          refine o_const (k := 1) hx hb dX2_glance_66 (by decide) ?_
          refine o_iadd (a := (v 0 1)) (b := 1) (k := ((v 0 1) + 1)) hx hb dX2_glance_67 rfl ?_
          refine va_put (D := D) (ci := 2) (v := .int (nI ((v 0 1) + 1))) (ty := .int) (C := RX2) (T := TX2) (N := 4) hx hb hts inX2_glance_X2 tyX2 tyX2_ok nmX2 hown hK hP hD hS 0 rfl rfl 2 (by decide) (hts (.fieldLink RX2 62 "OddNotice$State" "halves" "I") (List.mem_of_getElem? (i := 5) (by decide +kernel))) (fun _ h9 => h9) rfl (by decide +kernel) rfl rfl (Nat.le_of_ble_eq_true rfl) dX2_glance_68 (fun H locs hP hD hS => ?_)
          have hP : va_P D vwCl (wS q cI cR (va_up (va_up (va_up (va_up v 0 (va_up (v 0) 1 ((v 0 1) + 1))) 11 ((r_well (fun k => v (k + 11))) 0)) 12 ((r_well (fun k => v (k + 11))) 1)) 13 ((r_well (fun k => v (k + 11))) 2))) H := hP
          have hD : va_D A (wS q cI cR (va_up (va_up (va_up (va_up v 0 (va_up (v 0) 1 ((v 0 1) + 1))) 11 ((r_well (fun k => v (k + 11))) 0)) 12 ((r_well (fun k => v (k + 11))) 1)) 13 ((r_well (fun k => v (k + 11))) 2))) := hD
          refine o_bipush (k := 101) hx hb dX2_glance_71 (by decide) ?_
          have w_43 : (wS q cI cR (s_gl v 2)) = (wS q cI cR (va_up (va_up (va_up (va_up v 0 (va_up (v 0) 1 ((v 0 1) + 1))) 11 ((r_well (fun k => v (k + 11))) 0)) 12 ((r_well (fun k => v (k + 11))) 1)) 13 ((r_well (fun k => v (k + 11))) 2))) := (by rw [show s_gl v 2 = va_up (s_wl v 2) 0 (va_up (v 0) 1 (v 0 1 + 1)) from Eq.trans (Eq.trans (if_neg c_33) (if_neg c_36)) (congrArg (fun z => va_up (s_wl v 2) 0 (va_up (v 0) 1 z)) (if_pos c_41))]; rfl)
          rw [← w_43] at hP
          exact W.iret (v := nI 101) hx hb hrt (fun t ht hW => ⟨⟨_, (), rfl, (congrArg nI (Eq.symm (show s_glr v 2 = _ from (Eq.trans (if_neg c_33) (if_neg c_36))))), by show va_P D vwCl _ t.heap; rw [ht]; exact hP⟩, hS.F ht⟩) hS.2.2 dX2_glance_73
      · skip
        refine lv_aload_n hx hb dX2_glance_35 rfl (lv_at hl 0 rfl) ?_
        refine o_wv (va_runV (As := []) (rest := []) ⟨hx, hb, hml, hown, hts⟩ (k_X1_fail l D cI cR cS cL s.heap.size (fun k => q (k + 13)) (fun k => v (k + 11)) ) (cwV 0 hts gX2_glance_X1_fail rfl rfl rfl (by decide +kernel) ⟨Nat.le_of_ble_eq_true rfl, Nat.le_of_ble_eq_true rfl⟩) (o_v (o_pB hK hN (hP.sub (ws' := (wR (fun k => q (k + 13)) cI (fun k => v (k + 11)))) [13, 14, 15] rfl) (hD.sub (ws' := (wR (fun k => q (k + 13)) cI (fun k => v (k + 11)))) [13, 14, 15] (by decide) rfl)) (va_recv hK hP (ci := 1) (q0 := 13) rfl rfl)) rfl rfl hl.1 rfl (lv_room (Nat.le_of_ble_eq_true rfl)) dX2_glance_36 ⟨Nat.zero_le _, Nat.zero_le _⟩) hP hD hS hA [13, 14, 15] (by decide) rfl (fun _ => rfl) (fun _ H locs e_44 hP hD hS => ?_)
        have hP : va_P D vwCl (wS q cI cR (va_up v 11 (va_up (va_up (va_up (v 11) 1 0) 5 ((v 11 5) + 1)) 6 ((v 11 6) + 1)))) H := hP
        have hD : va_D A (wS q cI cR (va_up v 11 (va_up (va_up (va_up (v 11) 1 0) 5 ((v 11 5) + 1)) 6 ((v 11 6) + 1)))) := hD
        refine o_bipush (k := 100) hx hb dX2_glance_39 (by decide) ?_
        have w_45 : (wS q cI cR (s_gl v 2)) = (wS q cI cR (va_up v 11 (va_up (va_up (va_up (v 11) 1 0) 5 ((v 11 5) + 1)) 6 ((v 11 6) + 1)))) := (by rw [show s_gl v 2 = s_fl v 2 from (Eq.trans (if_neg c_33) (if_pos c_36))]; rfl)
        rw [← w_45] at hP
        exact W.iret (v := nI 100) hx hb hrt (fun t ht hW => ⟨⟨_, (), rfl, (congrArg nI (Eq.symm (show s_glr v 2 = _ from (Eq.trans (if_neg c_33) (if_pos c_36))))), by show va_P D vwCl _ t.heap; rw [ht]; exact hP⟩, hS.F ht⟩) hS.2.2 dX2_glance_41
    · skip
      refine lv_aload_n hx hb dX2_glance_15 rfl (lv_at hl 0 rfl) ?_
      refine lv_aload_n hx hb dX2_glance_16 rfl (lv_at hl 1 rfl) ?_
      refine va_get (D := D) (ci := 2) (v := .ref (q 1)) (C := RX2) (T := TX2) (N := 4) hx hb hts inX2_glance_X2 hown hK hP 0 rfl rfl 0 (by decide) (hts (.fieldLink RX2 12 "OddNotice$State" "board" "LOddNotice$Board;") (List.mem_of_getElem? (i := 3) (by decide +kernel))) (fun _ h9 => h9) rfl dX2_glance_17 ?_
      refine o_wi (va_runV (As := [.ref (q 1)]) (rest := []) ⟨hx, hb, hml, hown, hts⟩ (k_X1_take l D cI cR cS cL s.heap.size (fun k => q (k + 13)) (fun k => v (k + 11)) (fun k => q (k + 1)) v (by show (v 11 4) < 5; first | assumption | omega)) (cwV 1 hts gX2_glance_X1_take rfl rfl rfl (by decide +kernel) ⟨Nat.le_of_ble_eq_true rfl, Nat.le_of_ble_eq_true rfl⟩) (o_v (o_pB hK hN (hP.sub (ws' := (wR (fun k => q (k + 13)) cI (fun k => v (k + 11)) ++ wB (fun k => q (k + 1)) cI v)) [13, 14, 15, 2, 3, 4, 5, 6] rfl) (hD.sub (ws' := (wR (fun k => q (k + 13)) cI (fun k => v (k + 11)) ++ wB (fun k => q (k + 1)) cI v)) [13, 14, 15, 2, 3, 4, 5, 6] (by decide) rfl)) (va_recv hK hP (ci := 1) (q0 := 13) rfl rfl)) rfl rfl hl.1 rfl (lv_room (Nat.le_of_ble_eq_true rfl)) dX2_glance_20 ⟨Nat.zero_le _, Nat.zero_le _⟩) hP hD hS hA [13, 14, 15, 2, 3, 4, 5, 6] (by decide) rfl (fun _ => rfl) (fun r_47 _ H locs e_46 hP hD hS => ?_)
      have e_46 : r_47 = nI (v 1 (v 11 4)) := e_46
      subst e_46
      have hP : va_P D vwCl (wS q cI cR (va_up (va_up (va_up v 11 ((r_take (fun k => v (k + 11)) v) 0)) 12 ((r_take (fun k => v (k + 11)) v) 1)) 13 ((r_take (fun k => v (k + 11)) v) 2))) H := hP
      have hD : va_D A (wS q cI cR (va_up (va_up (va_up v 11 ((r_take (fun k => v (k + 11)) v) 0)) 12 ((r_take (fun k => v (k + 11)) v) 1)) 13 ((r_take (fun k => v (k + 11)) v) 2))) := hD
      have w_48 : (wS q cI cR (s_gl v 2)) = (wS q cI cR (va_up (va_up (va_up v 11 ((r_take (fun k => v (k + 11)) v) 0)) 12 ((r_take (fun k => v (k + 11)) v) 1)) 13 ((r_take (fun k => v (k + 11)) v) 2))) := (by rw [show s_gl v 2 = s_tk v 2 from (if_pos c_33)]; rfl)
      rw [← w_48] at hP
      exact W.iret (v := nI (v 1 (v 11 4))) hx hb hrt (fun t ht hW => ⟨⟨_, (), rfl, (congrArg nI (Eq.symm (show s_glr v 2 = _ from (if_pos c_33)))), by show va_P D vwCl _ t.heap; rw [ht]; exact hP⟩, hS.F ht⟩) hS.2.2 dX2_glance_23
  · skip
    obtain ⟨⟨i1, i2, i3, hpl⟩, i5⟩ := hSI
    have i12 := i5 3 (by omega)
    unfold s_IR at i12
    simp only [Nat.reduceMul, Nat.reduceAdd] at i12
    refine lv_aload_n hx hb dX2_glance_0 rfl (lv_at hl 0 rfl) ?_
    refine va_get (D := D) (ci := 2) (v := .ref (q 6)) (C := RX2) (T := TX2) (N := 4) hx hb hts inX2_glance_X2 hown hK hP 0 rfl rfl 1 (by decide) (hts (.fieldLink RX2 20 "OddNotice$State" "readers" "[LOddNotice$Reader;") (List.mem_of_getElem? (i := 1) (by decide +kernel))) (fun _ h9 => h9) rfl dX2_glance_1 ?_
    refine lv_iload_n hx hb dX2_glance_4 rfl (lv_at hl 1 rfl) ?_
    refine o_aldq (v := (q 16)) (C := "OddNotice$Reader") hx hb hK hP 1 1 rfl rfl (Nat.le_of_ble_eq_true rfl) (Nat.le_of_ble_eq_true rfl) rfl dX2_glance_5 ?_
    refine lv_astore_n (lv' := [(2, .ref (q 16)), (0, .ref (q 0)), (1, .int (nI 3))]) hx hb dX2_glance_6 rfl hl (by decide) rfl (fun ls hl => ?_)
    refine lv_aload_n hx hb dX2_glance_7 rfl (lv_at hl 0 rfl) ?_
    refine va_get (D := D) (ci := 1) (v := .int (nI (v 14 4))) (C := RX1) (T := TX1) (N := 10) hx hb hts inX2_glance_X1 hown hK hP 16 rfl rfl 4 (by decide) (hts (.fieldLink RX2 37 "OddNotice$Reader" "taken" "I") (List.mem_of_getElem? (i := 2) (by decide +kernel))) (fun _ h9 => h9) rfl dX2_glance_8 ?_
    refine o_const (k := 5) hx hb dX2_glance_11 (by decide) ?_
    refine o_icmp_ge (tgt := 24) hx hb dX2_glance_12 (by decide) (by omega) (Nat.le_of_ble_eq_true rfl) (fun c_49 => ?_) (fun c_49 => ?_)
    · skip
      refine lv_aload_n hx hb dX2_glance_24 rfl (lv_at hl 0 rfl) ?_
      refine lv_aload_n hx hb dX2_glance_25 rfl (lv_at hl 1 rfl) ?_
      refine va_get (D := D) (ci := 2) (v := .ref (q 1)) (C := RX2) (T := TX2) (N := 4) hx hb hts inX2_glance_X2 hown hK hP 0 rfl rfl 0 (by decide) (hts (.fieldLink RX2 12 "OddNotice$State" "board" "LOddNotice$Board;") (List.mem_of_getElem? (i := 3) (by decide +kernel))) (fun _ h9 => h9) rfl dX2_glance_26 ?_
      refine o_ri (va_runV (As := [.ref (q 1)]) (rest := []) ⟨hx, hb, hml, hown, hts⟩ (k_X1_wouldFail l D cI cR cS cL (fun k => q (k + 16)) (fun k => v (k + 14)) (fun k => q (k + 1)) v (by show (v 14 0) < 2 ^ 31; first | assumption | omega) (by show (v 14 1) < 2 ^ 31; first | assumption | omega) (by show (v 14 3) < 2 ^ 32; first | assumption | omega) (by show v 0 0 < 2 ^ 31; first | assumption | omega)) (cwV 1 hts gX2_glance_X1_wouldFail rfl rfl rfl (by decide +kernel) ⟨Nat.le_of_ble_eq_true rfl, Nat.le_of_ble_eq_true rfl⟩) (o_v (o_pR hK hN (hP.sub (ws' := (wR (fun k => q (k + 16)) cI (fun k => v (k + 14)) ++ wB (fun k => q (k + 1)) cI v)) [16, 17, 18, 2, 3, 4, 5, 6] rfl)) (va_recv hK hP (ci := 1) (q0 := 16) rfl rfl)) rfl rfl hl.1 rfl (lv_room (Nat.le_of_ble_eq_true rfl)) dX2_glance_29 ⟨Nat.zero_le _, Nat.zero_le _⟩) (fun r_51 e_50 => ?_)
      have e_50 : r_51 = nI (bn (¬ (v 14 0) = 0 ∧ (¬ (v 14 1) = 0 ∧ ¬ (v 14 3) = v 0 0 ∨ (v 14 1) = 0 ∧ v 0 0 % 2 = 1))) := e_50
      subst e_50
      refine o_ifz (tgt := 42) hx hb dX2_glance_32 (by decide) (fun c_52 => ?_) (fun c_52 => ?_)
      · skip
        refine lv_aload_n hx hb dX2_glance_42 rfl (lv_at hl 0 rfl) ?_
        refine o_wv (va_runV (As := []) (rest := []) ⟨hx, hb, hml, hown, hts⟩ (k_X1_doWell l D cI cR cS cL s.heap.size (fun k => q (k + 16)) (fun k => v (k + 14)) ) (cwV 0 hts gX2_glance_X1_doWell rfl rfl rfl (by decide +kernel) ⟨Nat.le_of_ble_eq_true rfl, Nat.le_of_ble_eq_true rfl⟩) (o_v (o_pB hK hN (hP.sub (ws' := (wR (fun k => q (k + 16)) cI (fun k => v (k + 14)))) [16, 17, 18] rfl) (hD.sub (ws' := (wR (fun k => q (k + 16)) cI (fun k => v (k + 14)))) [16, 17, 18] (by decide) rfl)) (va_recv hK hP (ci := 1) (q0 := 16) rfl rfl)) rfl rfl hl.1 rfl (lv_room (Nat.le_of_ble_eq_true rfl)) dX2_glance_43 ⟨Nat.zero_le _, Nat.zero_le _⟩) hP hD hS hA [16, 17, 18] (by decide) rfl (fun _ => rfl) (fun _ H locs e_53 hP hD hS => ?_)
        have hP : va_P D vwCl (wS q cI cR (va_up (va_up (va_up v 14 ((r_well (fun k => v (k + 14))) 0)) 15 ((r_well (fun k => v (k + 14))) 1)) 16 ((r_well (fun k => v (k + 14))) 2))) H := hP
        have hD : va_D A (wS q cI cR (va_up (va_up (va_up v 14 ((r_well (fun k => v (k + 14))) 0)) 15 ((r_well (fun k => v (k + 14))) 1)) 16 ((r_well (fun k => v (k + 14))) 2))) := hD
        refine lv_aload_n hx hb dX2_glance_46 rfl (lv_at hl 1 rfl) ?_
        refine va_get (D := D) (ci := 2) (v := .ref (q 1)) (C := RX2) (T := TX2) (N := 4) hx hb hts inX2_glance_X2 hown hK hP 0 rfl rfl 0 (by decide) (hts (.fieldLink RX2 12 "OddNotice$State" "board" "LOddNotice$Board;") (List.mem_of_getElem? (i := 3) (by decide +kernel))) (fun _ h9 => h9) rfl dX2_glance_47 ?_
        refine lv_aload_n hx hb dX2_glance_50 rfl (lv_at hl 0 rfl) ?_
        refine va_get (D := D) (ci := 1) (v := .ref (q 17)) (C := RX1) (T := TX1) (N := 10) hx hb hts inX2_glance_X1 hown hK hP 16 rfl rfl 8 (by decide) (hts (.fieldLink RX2 54 "OddNotice$Reader" "held" "[I") (List.mem_of_getElem? (i := 4) (by decide +kernel))) (fun _ h9 => h9) rfl dX2_glance_51 ?_
        refine o_ri (va_runV (As := [.ref (q 17)]) (rest := []) ⟨hx, hb, hml, hown, hts⟩ (k_X0_latestSame l D cI cR cS cL (fun k => q (k + 1)) (va_up (va_up (va_up v 14 ((r_well (fun k => v (k + 14))) 0)) 15 ((r_well (fun k => v (k + 14))) 1)) 16 ((r_well (fun k => v (k + 14))) 2)) (q 17) ((r_well (fun k => v (k + 14))) 1) (by show v 0 0 < 2 ^ 30; first | assumption | omega)) (cwV 1 hts gX2_glance_X0_latestSame rfl rfl rfl (by decide +kernel) ⟨Nat.le_of_ble_eq_true rfl, Nat.le_of_ble_eq_true rfl⟩) (o_v (o_pR hK hN (hP.sub (ws' := (wB (fun k => q (k + 1)) cI (va_up (va_up (va_up v 14 ((r_well (fun k => v (k + 14))) 0)) 15 ((r_well (fun k => v (k + 14))) 1)) 16 ((r_well (fun k => v (k + 14))) 2)) ++ [oa cI (q 17) 5 ((r_well (fun k => v (k + 14))) 1)])) [2, 3, 4, 5, 6, 17] rfl)) (va_recv hK hP (ci := 0) (q0 := 2) rfl rfl)) rfl rfl hl.1 rfl (lv_room (Nat.le_of_ble_eq_true rfl)) dX2_glance_54 ⟨Nat.zero_le _, Nat.zero_le _⟩) (fun r_55 e_54 => ?_)
        have e_54 : r_55 = nI (b_ls (v 4) ((r_well (fun k => v (k + 14))) 1) (v 0 0 / 2) 16 0) := e_54
        subst e_54
        have gv_56 := (b_ls_lt (by omega) 16 0 : b_ls (v 4) ((r_well (fun k => v (k + 14))) 1) (v 0 0 / 2) 16 0 < 2 ^ 32)
        refine o_const (k := 4294967295) hx hb dX2_glance_57 (by decide) ?_
        refine o_icmp_ne (tgt := 71) hx hb dX2_glance_58 (by decide) (by omega) (Nat.le_of_ble_eq_true rfl) (fun c_57 => ?_) (fun c_57 => ?_)
        · skip
          refine o_bipush (k := 101) hx hb dX2_glance_71 (by decide) ?_
          have w_58 : (wS q cI cR (s_gl v 3)) = (wS q cI cR (va_up (va_up (va_up v 14 ((r_well (fun k => v (k + 14))) 0)) 15 ((r_well (fun k => v (k + 14))) 1)) 16 ((r_well (fun k => v (k + 14))) 2))) := (by rw [show s_gl v 3 = va_up (s_wl v 3) 0 (va_up (v 0) 1 (v 0 1)) from Eq.trans (Eq.trans (if_neg c_49) (if_neg c_52)) (congrArg (fun z => va_up (s_wl v 3) 0 (va_up (v 0) 1 z)) (if_neg c_57))]; rfl)
          rw [← w_58] at hP
          exact W.iret (v := nI 101) hx hb hrt (fun t ht hW => ⟨⟨_, (), rfl, (congrArg nI (Eq.symm (show s_glr v 3 = _ from (Eq.trans (if_neg c_49) (if_neg c_52))))), by show va_P D vwCl _ t.heap; rw [ht]; exact hP⟩, hS.F ht⟩) hS.2.2 dX2_glance_73
        · skip
          refine lv_aload_n hx hb dX2_glance_61 rfl (lv_at hl 1 rfl) ?_
          refine lv_dup hx hb dX2_glance_62 rfl ?_
          refine va_get (D := D) (ci := 2) (v := .int (nI (v 0 1))) (C := RX2) (T := TX2) (N := 4) hx hb hts inX2_glance_X2 hown hK hP 0 rfl rfl 2 (by decide) (hts (.fieldLink RX2 62 "OddNotice$State" "halves" "I") (List.mem_of_getElem? (i := 5) (by decide +kernel))) (fun _ h9 => h9) rfl dX2_glance_63 ?_
          refine o_const (k := 1) hx hb dX2_glance_66 (by decide) ?_
          refine o_iadd (a := (v 0 1)) (b := 1) (k := ((v 0 1) + 1)) hx hb dX2_glance_67 rfl ?_
          refine va_put (D := D) (ci := 2) (v := .int (nI ((v 0 1) + 1))) (ty := .int) (C := RX2) (T := TX2) (N := 4) hx hb hts inX2_glance_X2 tyX2 tyX2_ok nmX2 hown hK hP hD hS 0 rfl rfl 2 (by decide) (hts (.fieldLink RX2 62 "OddNotice$State" "halves" "I") (List.mem_of_getElem? (i := 5) (by decide +kernel))) (fun _ h9 => h9) rfl (by decide +kernel) rfl rfl (Nat.le_of_ble_eq_true rfl) dX2_glance_68 (fun H locs hP hD hS => ?_)
          have hP : va_P D vwCl (wS q cI cR (va_up (va_up (va_up (va_up v 0 (va_up (v 0) 1 ((v 0 1) + 1))) 14 ((r_well (fun k => v (k + 14))) 0)) 15 ((r_well (fun k => v (k + 14))) 1)) 16 ((r_well (fun k => v (k + 14))) 2))) H := hP
          have hD : va_D A (wS q cI cR (va_up (va_up (va_up (va_up v 0 (va_up (v 0) 1 ((v 0 1) + 1))) 14 ((r_well (fun k => v (k + 14))) 0)) 15 ((r_well (fun k => v (k + 14))) 1)) 16 ((r_well (fun k => v (k + 14))) 2))) := hD
          refine o_bipush (k := 101) hx hb dX2_glance_71 (by decide) ?_
          have w_59 : (wS q cI cR (s_gl v 3)) = (wS q cI cR (va_up (va_up (va_up (va_up v 0 (va_up (v 0) 1 ((v 0 1) + 1))) 14 ((r_well (fun k => v (k + 14))) 0)) 15 ((r_well (fun k => v (k + 14))) 1)) 16 ((r_well (fun k => v (k + 14))) 2))) := (by rw [show s_gl v 3 = va_up (s_wl v 3) 0 (va_up (v 0) 1 (v 0 1 + 1)) from Eq.trans (Eq.trans (if_neg c_49) (if_neg c_52)) (congrArg (fun z => va_up (s_wl v 3) 0 (va_up (v 0) 1 z)) (if_pos c_57))]; rfl)
          rw [← w_59] at hP
          exact W.iret (v := nI 101) hx hb hrt (fun t ht hW => ⟨⟨_, (), rfl, (congrArg nI (Eq.symm (show s_glr v 3 = _ from (Eq.trans (if_neg c_49) (if_neg c_52))))), by show va_P D vwCl _ t.heap; rw [ht]; exact hP⟩, hS.F ht⟩) hS.2.2 dX2_glance_73
      · skip
        refine lv_aload_n hx hb dX2_glance_35 rfl (lv_at hl 0 rfl) ?_
        refine o_wv (va_runV (As := []) (rest := []) ⟨hx, hb, hml, hown, hts⟩ (k_X1_fail l D cI cR cS cL s.heap.size (fun k => q (k + 16)) (fun k => v (k + 14)) ) (cwV 0 hts gX2_glance_X1_fail rfl rfl rfl (by decide +kernel) ⟨Nat.le_of_ble_eq_true rfl, Nat.le_of_ble_eq_true rfl⟩) (o_v (o_pB hK hN (hP.sub (ws' := (wR (fun k => q (k + 16)) cI (fun k => v (k + 14)))) [16, 17, 18] rfl) (hD.sub (ws' := (wR (fun k => q (k + 16)) cI (fun k => v (k + 14)))) [16, 17, 18] (by decide) rfl)) (va_recv hK hP (ci := 1) (q0 := 16) rfl rfl)) rfl rfl hl.1 rfl (lv_room (Nat.le_of_ble_eq_true rfl)) dX2_glance_36 ⟨Nat.zero_le _, Nat.zero_le _⟩) hP hD hS hA [16, 17, 18] (by decide) rfl (fun _ => rfl) (fun _ H locs e_60 hP hD hS => ?_)
        have hP : va_P D vwCl (wS q cI cR (va_up v 14 (va_up (va_up (va_up (v 14) 1 0) 5 ((v 14 5) + 1)) 6 ((v 14 6) + 1)))) H := hP
        have hD : va_D A (wS q cI cR (va_up v 14 (va_up (va_up (va_up (v 14) 1 0) 5 ((v 14 5) + 1)) 6 ((v 14 6) + 1)))) := hD
        refine o_bipush (k := 100) hx hb dX2_glance_39 (by decide) ?_
        have w_61 : (wS q cI cR (s_gl v 3)) = (wS q cI cR (va_up v 14 (va_up (va_up (va_up (v 14) 1 0) 5 ((v 14 5) + 1)) 6 ((v 14 6) + 1)))) := (by rw [show s_gl v 3 = s_fl v 3 from (Eq.trans (if_neg c_49) (if_pos c_52))]; rfl)
        rw [← w_61] at hP
        exact W.iret (v := nI 100) hx hb hrt (fun t ht hW => ⟨⟨_, (), rfl, (congrArg nI (Eq.symm (show s_glr v 3 = _ from (Eq.trans (if_neg c_49) (if_pos c_52))))), by show va_P D vwCl _ t.heap; rw [ht]; exact hP⟩, hS.F ht⟩) hS.2.2 dX2_glance_41
    · skip
      refine lv_aload_n hx hb dX2_glance_15 rfl (lv_at hl 0 rfl) ?_
      refine lv_aload_n hx hb dX2_glance_16 rfl (lv_at hl 1 rfl) ?_
      refine va_get (D := D) (ci := 2) (v := .ref (q 1)) (C := RX2) (T := TX2) (N := 4) hx hb hts inX2_glance_X2 hown hK hP 0 rfl rfl 0 (by decide) (hts (.fieldLink RX2 12 "OddNotice$State" "board" "LOddNotice$Board;") (List.mem_of_getElem? (i := 3) (by decide +kernel))) (fun _ h9 => h9) rfl dX2_glance_17 ?_
      refine o_wi (va_runV (As := [.ref (q 1)]) (rest := []) ⟨hx, hb, hml, hown, hts⟩ (k_X1_take l D cI cR cS cL s.heap.size (fun k => q (k + 16)) (fun k => v (k + 14)) (fun k => q (k + 1)) v (by show (v 14 4) < 5; first | assumption | omega)) (cwV 1 hts gX2_glance_X1_take rfl rfl rfl (by decide +kernel) ⟨Nat.le_of_ble_eq_true rfl, Nat.le_of_ble_eq_true rfl⟩) (o_v (o_pB hK hN (hP.sub (ws' := (wR (fun k => q (k + 16)) cI (fun k => v (k + 14)) ++ wB (fun k => q (k + 1)) cI v)) [16, 17, 18, 2, 3, 4, 5, 6] rfl) (hD.sub (ws' := (wR (fun k => q (k + 16)) cI (fun k => v (k + 14)) ++ wB (fun k => q (k + 1)) cI v)) [16, 17, 18, 2, 3, 4, 5, 6] (by decide) rfl)) (va_recv hK hP (ci := 1) (q0 := 16) rfl rfl)) rfl rfl hl.1 rfl (lv_room (Nat.le_of_ble_eq_true rfl)) dX2_glance_20 ⟨Nat.zero_le _, Nat.zero_le _⟩) hP hD hS hA [16, 17, 18, 2, 3, 4, 5, 6] (by decide) rfl (fun _ => rfl) (fun r_63 _ H locs e_62 hP hD hS => ?_)
      have e_62 : r_63 = nI (v 1 (v 14 4)) := e_62
      subst e_62
      have hP : va_P D vwCl (wS q cI cR (va_up (va_up (va_up v 14 ((r_take (fun k => v (k + 14)) v) 0)) 15 ((r_take (fun k => v (k + 14)) v) 1)) 16 ((r_take (fun k => v (k + 14)) v) 2))) H := hP
      have hD : va_D A (wS q cI cR (va_up (va_up (va_up v 14 ((r_take (fun k => v (k + 14)) v) 0)) 15 ((r_take (fun k => v (k + 14)) v) 1)) 16 ((r_take (fun k => v (k + 14)) v) 2))) := hD
      have w_64 : (wS q cI cR (s_gl v 3)) = (wS q cI cR (va_up (va_up (va_up v 14 ((r_take (fun k => v (k + 14)) v) 0)) 15 ((r_take (fun k => v (k + 14)) v) 1)) 16 ((r_take (fun k => v (k + 14)) v) 2))) := (by rw [show s_gl v 3 = s_tk v 3 from (if_pos c_49)]; rfl)
      rw [← w_64] at hP
      exact W.iret (v := nI (v 1 (v 14 4))) hx hb hrt (fun t ht hW => ⟨⟨_, (), rfl, (congrArg nI (Eq.symm (show s_glr v 3 = _ from (if_pos c_49)))), by show va_P D vwCl _ t.heap; rw [ht]; exact hP⟩, hS.F ht⟩) hS.2.2 dX2_glance_23
theorem inX2_outcome_X2 : ∀ w ∈ wsX20, w ∈ wsX2_outcome := by decide +kernel
set_option maxHeartbeats 4000000 in
set_option maxRecDepth 100000 in
theorem k_X2_outcome (l : Launch) (D : va_G) (cI cR cS cL : ClassId) (q : Nat → Nat) (v : Nat → Nat → Nat) (b : Nat) (r : Nat) (hSI : s_I b v) (hb : b < 2 ^ 28) (hr : r < 4) : Met l yX2_outcome wsX2_outcome ({ frames := 2, cells := 0, slots := 0, locals := 41 }) (va_Pc [.ref (q 0), .int (nI r)] (o_R D (o_T cI cR cS cL) (wS q cI cR v))) (vp_Si (fun rz => rz = nI (s_out v r))) 0 0 (fun _ => False) := by
  refine Met.ofW (cc := cX2_outcome) (maxL := 3) (ret := (some .int)) (by decide) rfl ?_
  intro p e s m args below meth cd s₁ B hml hv
  obtain ⟨rfl, hP, hK, hN⟩ := hv
  have hx := B.exec
  have hb := B.bytes
  have hrt := B.returns
  have hts := atoms_spec (ws := wsX2_outcome) B.pre
  have hown : s.vm.findClass RX2 = some m.cls := findClass_of_methodNamed B.named
  have hlocks := B.notSynchronized
  have hl := lv_entry ([.ref (q 0), .int (nI r)]) (n := 3) (Nat.le_of_ble_eq_true rfl)
  rw [lg_entry_eq]
  generalize (lg_sl ([.ref (q 0), .int (nI r)]) ++ List.replicate (3 - (lg_sl ([.ref (q 0), .int (nI r)])).length) Slot.unset).toArray = ls at hl ⊢
  have hl : lv_has ls 3 [(0, .ref (q 0)), (1, .int (nI r))] := hl
  rcases o_lt4 hr with rfl | rfl | rfl | rfl
  · skip
    obtain ⟨⟨i1, i2, i3, hpl⟩, i5⟩ := hSI
    have i12 := i5 0 (by omega)
    unfold s_IR at i12
    simp only [Nat.reduceMul, Nat.reduceAdd] at i12
    refine lv_aload_n hx hb dX2_outcome_0 rfl (lv_at hl 0 rfl) ?_
    refine va_get (D := D) (ci := 2) (v := .ref (q 6)) (C := RX2) (T := TX2) (N := 4) hx hb hts inX2_outcome_X2 hown hK hP 0 rfl rfl 1 (by decide) (hts (.fieldLink RX2 20 "OddNotice$State" "readers" "[LOddNotice$Reader;") (List.mem_of_getElem? (i := 1) (by decide +kernel))) (fun _ h9 => h9) rfl dX2_outcome_1 ?_
    refine lv_iload_n hx hb dX2_outcome_4 rfl (lv_at hl 1 rfl) ?_
    refine o_aldq (v := (q 7)) (C := "OddNotice$Reader") hx hb hK hP 1 1 rfl rfl (Nat.le_of_ble_eq_true rfl) (Nat.le_of_ble_eq_true rfl) rfl dX2_outcome_5 ?_
    refine lv_astore_n (lv' := [(2, .ref (q 7)), (0, .ref (q 0)), (1, .int (nI 0))]) hx hb dX2_outcome_6 rfl hl (by decide) rfl (fun ls hl => ?_)
    refine lv_aload_n hx hb dX2_outcome_7 rfl (lv_at hl 0 rfl) ?_
    refine lv_aload_n hx hb dX2_outcome_8 rfl (lv_at hl 1 rfl) ?_
    refine va_get (D := D) (ci := 2) (v := .int (nI (v 0 2))) (C := RX2) (T := TX2) (N := 4) hx hb hts inX2_outcome_X2 hown hK hP 0 rfl rfl 3 (by decide) (hts (.fieldLink RX2 24 "OddNotice$State" "setting" "I") (List.mem_of_getElem? (i := 2) (by decide +kernel))) (fun _ h9 => h9) rfl dX2_outcome_9 ?_
    refine o_ri (va_runV (As := [.int (nI (v 0 2))]) (rest := []) ⟨hx, hb, hml, hown, hts⟩ (k_X1_hasGivenUp l D cI cR cS cL (fun k => q (k + 7)) (fun k => v (k + 5)) (v 0 2) (by show (v 5 0) < 2 ^ 31; first | assumption | omega) (by show (v 5 1) < 2 ^ 31; first | assumption | omega) (by show (v 5 5) < 2 ^ 31; first | assumption | omega) (by show (v 0 2) < 2 ^ 31; first | assumption | omega)) (cwV 1 hts gX2_outcome_X1_hasGivenUp rfl rfl rfl (by decide +kernel) ⟨Nat.le_of_ble_eq_true rfl, Nat.le_of_ble_eq_true rfl⟩) (o_v (o_pR hK hN (hP.sub (ws' := (wR (fun k => q (k + 7)) cI (fun k => v (k + 5)))) [7, 8, 9] rfl)) (va_recv hK hP (ci := 1) (q0 := 7) rfl rfl)) rfl rfl hl.1 rfl (lv_room (Nat.le_of_ble_eq_true rfl)) dX2_outcome_12 ⟨Nat.zero_le _, Nat.zero_le _⟩) (fun r_2 e_1 => ?_)
    have e_1 : r_2 = nI (bn (¬ (v 5 0) = 0 ∧ (v 5 1) = 0 ∧ (v 0 2) ≤ (v 5 5))) := e_1
    subst e_1
    refine o_ifz (tgt := 20) hx hb dX2_outcome_15 (by decide) (fun c_3 => ?_) (fun c_3 => ?_)
    · skip
      refine lv_aload_n hx hb dX2_outcome_20 rfl (lv_at hl 0 rfl) ?_
      refine lv_aload_n hx hb dX2_outcome_21 rfl (lv_at hl 1 rfl) ?_
      refine va_get (D := D) (ci := 2) (v := .ref (q 1)) (C := RX2) (T := TX2) (N := 4) hx hb hts inX2_outcome_X2 hown hK hP 0 rfl rfl 0 (by decide) (hts (.fieldLink RX2 12 "OddNotice$State" "board" "LOddNotice$Board;") (List.mem_of_getElem? (i := 3) (by decide +kernel))) (fun _ h9 => h9) rfl dX2_outcome_22 ?_
      refine o_ri (va_runV (As := [.ref (q 1)]) (rest := []) ⟨hx, hb, hml, hown, hts⟩ (k_X1_wouldFail l D cI cR cS cL (fun k => q (k + 7)) (fun k => v (k + 5)) (fun k => q (k + 1)) v (by show (v 5 0) < 2 ^ 31; first | assumption | omega) (by show (v 5 1) < 2 ^ 31; first | assumption | omega) (by show (v 5 3) < 2 ^ 32; first | assumption | omega) (by show v 0 0 < 2 ^ 31; first | assumption | omega)) (cwV 1 hts gX2_outcome_X1_wouldFail rfl rfl rfl (by decide +kernel) ⟨Nat.le_of_ble_eq_true rfl, Nat.le_of_ble_eq_true rfl⟩) (o_v (o_pR hK hN (hP.sub (ws' := (wR (fun k => q (k + 7)) cI (fun k => v (k + 5)) ++ wB (fun k => q (k + 1)) cI v)) [7, 8, 9, 2, 3, 4, 5, 6] rfl)) (va_recv hK hP (ci := 1) (q0 := 7) rfl rfl)) rfl rfl hl.1 rfl (lv_room (Nat.le_of_ble_eq_true rfl)) dX2_outcome_25 ⟨Nat.zero_le _, Nat.zero_le _⟩) (fun r_5 e_4 => ?_)
      have e_4 : r_5 = nI (bn (¬ (v 5 0) = 0 ∧ (¬ (v 5 1) = 0 ∧ ¬ (v 5 3) = v 0 0 ∨ (v 5 1) = 0 ∧ v 0 0 % 2 = 1))) := e_4
      subst e_4
      refine o_ifz (tgt := 35) hx hb dX2_outcome_28 (by decide) (fun c_6 => ?_) (fun c_6 => ?_)
      · skip
        refine o_const (k := 1) hx hb dX2_outcome_35 (by decide) ?_
        exact W.iret (v := nI 1) hx hb hrt (fun t ht hW => ⟨_, rfl, (congrArg nI (Eq.symm (show s_out v 0 = _ from (Eq.trans (if_neg c_3) (if_neg c_6))))), ht⟩) (fun _ h => nomatch h) dX2_outcome_36
      · skip
        refine o_const (k := 0) hx hb dX2_outcome_31 (by decide) ?_
        refine lv_goto (tgt := 36) hx hb dX2_outcome_32 (by decide) ?_
        exact W.iret (v := nI 0) hx hb hrt (fun t ht hW => ⟨_, rfl, (congrArg nI (Eq.symm (show s_out v 0 = _ from (Eq.trans (if_neg c_3) (if_pos c_6))))), ht⟩) (fun _ h => nomatch h) dX2_outcome_36
    · skip
      refine o_const (k := 4294967295) hx hb dX2_outcome_18 (by decide) ?_
      exact W.iret (v := nI 4294967295) hx hb hrt (fun t ht hW => ⟨_, rfl, (congrArg nI (Eq.symm (show s_out v 0 = _ from (if_pos c_3)))), ht⟩) (fun _ h => nomatch h) dX2_outcome_19
  · skip
    obtain ⟨⟨i1, i2, i3, hpl⟩, i5⟩ := hSI
    have i12 := i5 1 (by omega)
    unfold s_IR at i12
    simp only [Nat.reduceMul, Nat.reduceAdd] at i12
    refine lv_aload_n hx hb dX2_outcome_0 rfl (lv_at hl 0 rfl) ?_
    refine va_get (D := D) (ci := 2) (v := .ref (q 6)) (C := RX2) (T := TX2) (N := 4) hx hb hts inX2_outcome_X2 hown hK hP 0 rfl rfl 1 (by decide) (hts (.fieldLink RX2 20 "OddNotice$State" "readers" "[LOddNotice$Reader;") (List.mem_of_getElem? (i := 1) (by decide +kernel))) (fun _ h9 => h9) rfl dX2_outcome_1 ?_
    refine lv_iload_n hx hb dX2_outcome_4 rfl (lv_at hl 1 rfl) ?_
    refine o_aldq (v := (q 10)) (C := "OddNotice$Reader") hx hb hK hP 1 1 rfl rfl (Nat.le_of_ble_eq_true rfl) (Nat.le_of_ble_eq_true rfl) rfl dX2_outcome_5 ?_
    refine lv_astore_n (lv' := [(2, .ref (q 10)), (0, .ref (q 0)), (1, .int (nI 1))]) hx hb dX2_outcome_6 rfl hl (by decide) rfl (fun ls hl => ?_)
    refine lv_aload_n hx hb dX2_outcome_7 rfl (lv_at hl 0 rfl) ?_
    refine lv_aload_n hx hb dX2_outcome_8 rfl (lv_at hl 1 rfl) ?_
    refine va_get (D := D) (ci := 2) (v := .int (nI (v 0 2))) (C := RX2) (T := TX2) (N := 4) hx hb hts inX2_outcome_X2 hown hK hP 0 rfl rfl 3 (by decide) (hts (.fieldLink RX2 24 "OddNotice$State" "setting" "I") (List.mem_of_getElem? (i := 2) (by decide +kernel))) (fun _ h9 => h9) rfl dX2_outcome_9 ?_
    refine o_ri (va_runV (As := [.int (nI (v 0 2))]) (rest := []) ⟨hx, hb, hml, hown, hts⟩ (k_X1_hasGivenUp l D cI cR cS cL (fun k => q (k + 10)) (fun k => v (k + 8)) (v 0 2) (by show (v 8 0) < 2 ^ 31; first | assumption | omega) (by show (v 8 1) < 2 ^ 31; first | assumption | omega) (by show (v 8 5) < 2 ^ 31; first | assumption | omega) (by show (v 0 2) < 2 ^ 31; first | assumption | omega)) (cwV 1 hts gX2_outcome_X1_hasGivenUp rfl rfl rfl (by decide +kernel) ⟨Nat.le_of_ble_eq_true rfl, Nat.le_of_ble_eq_true rfl⟩) (o_v (o_pR hK hN (hP.sub (ws' := (wR (fun k => q (k + 10)) cI (fun k => v (k + 8)))) [10, 11, 12] rfl)) (va_recv hK hP (ci := 1) (q0 := 10) rfl rfl)) rfl rfl hl.1 rfl (lv_room (Nat.le_of_ble_eq_true rfl)) dX2_outcome_12 ⟨Nat.zero_le _, Nat.zero_le _⟩) (fun r_8 e_7 => ?_)
    have e_7 : r_8 = nI (bn (¬ (v 8 0) = 0 ∧ (v 8 1) = 0 ∧ (v 0 2) ≤ (v 8 5))) := e_7
    subst e_7
    refine o_ifz (tgt := 20) hx hb dX2_outcome_15 (by decide) (fun c_9 => ?_) (fun c_9 => ?_)
    · skip
      refine lv_aload_n hx hb dX2_outcome_20 rfl (lv_at hl 0 rfl) ?_
      refine lv_aload_n hx hb dX2_outcome_21 rfl (lv_at hl 1 rfl) ?_
      refine va_get (D := D) (ci := 2) (v := .ref (q 1)) (C := RX2) (T := TX2) (N := 4) hx hb hts inX2_outcome_X2 hown hK hP 0 rfl rfl 0 (by decide) (hts (.fieldLink RX2 12 "OddNotice$State" "board" "LOddNotice$Board;") (List.mem_of_getElem? (i := 3) (by decide +kernel))) (fun _ h9 => h9) rfl dX2_outcome_22 ?_
      refine o_ri (va_runV (As := [.ref (q 1)]) (rest := []) ⟨hx, hb, hml, hown, hts⟩ (k_X1_wouldFail l D cI cR cS cL (fun k => q (k + 10)) (fun k => v (k + 8)) (fun k => q (k + 1)) v (by show (v 8 0) < 2 ^ 31; first | assumption | omega) (by show (v 8 1) < 2 ^ 31; first | assumption | omega) (by show (v 8 3) < 2 ^ 32; first | assumption | omega) (by show v 0 0 < 2 ^ 31; first | assumption | omega)) (cwV 1 hts gX2_outcome_X1_wouldFail rfl rfl rfl (by decide +kernel) ⟨Nat.le_of_ble_eq_true rfl, Nat.le_of_ble_eq_true rfl⟩) (o_v (o_pR hK hN (hP.sub (ws' := (wR (fun k => q (k + 10)) cI (fun k => v (k + 8)) ++ wB (fun k => q (k + 1)) cI v)) [10, 11, 12, 2, 3, 4, 5, 6] rfl)) (va_recv hK hP (ci := 1) (q0 := 10) rfl rfl)) rfl rfl hl.1 rfl (lv_room (Nat.le_of_ble_eq_true rfl)) dX2_outcome_25 ⟨Nat.zero_le _, Nat.zero_le _⟩) (fun r_11 e_10 => ?_)
      have e_10 : r_11 = nI (bn (¬ (v 8 0) = 0 ∧ (¬ (v 8 1) = 0 ∧ ¬ (v 8 3) = v 0 0 ∨ (v 8 1) = 0 ∧ v 0 0 % 2 = 1))) := e_10
      subst e_10
      refine o_ifz (tgt := 35) hx hb dX2_outcome_28 (by decide) (fun c_12 => ?_) (fun c_12 => ?_)
      · skip
        refine o_const (k := 1) hx hb dX2_outcome_35 (by decide) ?_
        exact W.iret (v := nI 1) hx hb hrt (fun t ht hW => ⟨_, rfl, (congrArg nI (Eq.symm (show s_out v 1 = _ from (Eq.trans (if_neg c_9) (if_neg c_12))))), ht⟩) (fun _ h => nomatch h) dX2_outcome_36
      · skip
        refine o_const (k := 0) hx hb dX2_outcome_31 (by decide) ?_
        refine lv_goto (tgt := 36) hx hb dX2_outcome_32 (by decide) ?_
        exact W.iret (v := nI 0) hx hb hrt (fun t ht hW => ⟨_, rfl, (congrArg nI (Eq.symm (show s_out v 1 = _ from (Eq.trans (if_neg c_9) (if_pos c_12))))), ht⟩) (fun _ h => nomatch h) dX2_outcome_36
    · skip
      refine o_const (k := 4294967295) hx hb dX2_outcome_18 (by decide) ?_
      exact W.iret (v := nI 4294967295) hx hb hrt (fun t ht hW => ⟨_, rfl, (congrArg nI (Eq.symm (show s_out v 1 = _ from (if_pos c_9)))), ht⟩) (fun _ h => nomatch h) dX2_outcome_19
  · skip
    obtain ⟨⟨i1, i2, i3, hpl⟩, i5⟩ := hSI
    have i12 := i5 2 (by omega)
    unfold s_IR at i12
    simp only [Nat.reduceMul, Nat.reduceAdd] at i12
    refine lv_aload_n hx hb dX2_outcome_0 rfl (lv_at hl 0 rfl) ?_
    refine va_get (D := D) (ci := 2) (v := .ref (q 6)) (C := RX2) (T := TX2) (N := 4) hx hb hts inX2_outcome_X2 hown hK hP 0 rfl rfl 1 (by decide) (hts (.fieldLink RX2 20 "OddNotice$State" "readers" "[LOddNotice$Reader;") (List.mem_of_getElem? (i := 1) (by decide +kernel))) (fun _ h9 => h9) rfl dX2_outcome_1 ?_
    refine lv_iload_n hx hb dX2_outcome_4 rfl (lv_at hl 1 rfl) ?_
    refine o_aldq (v := (q 13)) (C := "OddNotice$Reader") hx hb hK hP 1 1 rfl rfl (Nat.le_of_ble_eq_true rfl) (Nat.le_of_ble_eq_true rfl) rfl dX2_outcome_5 ?_
    refine lv_astore_n (lv' := [(2, .ref (q 13)), (0, .ref (q 0)), (1, .int (nI 2))]) hx hb dX2_outcome_6 rfl hl (by decide) rfl (fun ls hl => ?_)
    refine lv_aload_n hx hb dX2_outcome_7 rfl (lv_at hl 0 rfl) ?_
    refine lv_aload_n hx hb dX2_outcome_8 rfl (lv_at hl 1 rfl) ?_
    refine va_get (D := D) (ci := 2) (v := .int (nI (v 0 2))) (C := RX2) (T := TX2) (N := 4) hx hb hts inX2_outcome_X2 hown hK hP 0 rfl rfl 3 (by decide) (hts (.fieldLink RX2 24 "OddNotice$State" "setting" "I") (List.mem_of_getElem? (i := 2) (by decide +kernel))) (fun _ h9 => h9) rfl dX2_outcome_9 ?_
    refine o_ri (va_runV (As := [.int (nI (v 0 2))]) (rest := []) ⟨hx, hb, hml, hown, hts⟩ (k_X1_hasGivenUp l D cI cR cS cL (fun k => q (k + 13)) (fun k => v (k + 11)) (v 0 2) (by show (v 11 0) < 2 ^ 31; first | assumption | omega) (by show (v 11 1) < 2 ^ 31; first | assumption | omega) (by show (v 11 5) < 2 ^ 31; first | assumption | omega) (by show (v 0 2) < 2 ^ 31; first | assumption | omega)) (cwV 1 hts gX2_outcome_X1_hasGivenUp rfl rfl rfl (by decide +kernel) ⟨Nat.le_of_ble_eq_true rfl, Nat.le_of_ble_eq_true rfl⟩) (o_v (o_pR hK hN (hP.sub (ws' := (wR (fun k => q (k + 13)) cI (fun k => v (k + 11)))) [13, 14, 15] rfl)) (va_recv hK hP (ci := 1) (q0 := 13) rfl rfl)) rfl rfl hl.1 rfl (lv_room (Nat.le_of_ble_eq_true rfl)) dX2_outcome_12 ⟨Nat.zero_le _, Nat.zero_le _⟩) (fun r_14 e_13 => ?_)
    have e_13 : r_14 = nI (bn (¬ (v 11 0) = 0 ∧ (v 11 1) = 0 ∧ (v 0 2) ≤ (v 11 5))) := e_13
    subst e_13
    refine o_ifz (tgt := 20) hx hb dX2_outcome_15 (by decide) (fun c_15 => ?_) (fun c_15 => ?_)
    · skip
      refine lv_aload_n hx hb dX2_outcome_20 rfl (lv_at hl 0 rfl) ?_
      refine lv_aload_n hx hb dX2_outcome_21 rfl (lv_at hl 1 rfl) ?_
      refine va_get (D := D) (ci := 2) (v := .ref (q 1)) (C := RX2) (T := TX2) (N := 4) hx hb hts inX2_outcome_X2 hown hK hP 0 rfl rfl 0 (by decide) (hts (.fieldLink RX2 12 "OddNotice$State" "board" "LOddNotice$Board;") (List.mem_of_getElem? (i := 3) (by decide +kernel))) (fun _ h9 => h9) rfl dX2_outcome_22 ?_
      refine o_ri (va_runV (As := [.ref (q 1)]) (rest := []) ⟨hx, hb, hml, hown, hts⟩ (k_X1_wouldFail l D cI cR cS cL (fun k => q (k + 13)) (fun k => v (k + 11)) (fun k => q (k + 1)) v (by show (v 11 0) < 2 ^ 31; first | assumption | omega) (by show (v 11 1) < 2 ^ 31; first | assumption | omega) (by show (v 11 3) < 2 ^ 32; first | assumption | omega) (by show v 0 0 < 2 ^ 31; first | assumption | omega)) (cwV 1 hts gX2_outcome_X1_wouldFail rfl rfl rfl (by decide +kernel) ⟨Nat.le_of_ble_eq_true rfl, Nat.le_of_ble_eq_true rfl⟩) (o_v (o_pR hK hN (hP.sub (ws' := (wR (fun k => q (k + 13)) cI (fun k => v (k + 11)) ++ wB (fun k => q (k + 1)) cI v)) [13, 14, 15, 2, 3, 4, 5, 6] rfl)) (va_recv hK hP (ci := 1) (q0 := 13) rfl rfl)) rfl rfl hl.1 rfl (lv_room (Nat.le_of_ble_eq_true rfl)) dX2_outcome_25 ⟨Nat.zero_le _, Nat.zero_le _⟩) (fun r_17 e_16 => ?_)
      have e_16 : r_17 = nI (bn (¬ (v 11 0) = 0 ∧ (¬ (v 11 1) = 0 ∧ ¬ (v 11 3) = v 0 0 ∨ (v 11 1) = 0 ∧ v 0 0 % 2 = 1))) := e_16
      subst e_16
      refine o_ifz (tgt := 35) hx hb dX2_outcome_28 (by decide) (fun c_18 => ?_) (fun c_18 => ?_)
      · skip
        refine o_const (k := 1) hx hb dX2_outcome_35 (by decide) ?_
        exact W.iret (v := nI 1) hx hb hrt (fun t ht hW => ⟨_, rfl, (congrArg nI (Eq.symm (show s_out v 2 = _ from (Eq.trans (if_neg c_15) (if_neg c_18))))), ht⟩) (fun _ h => nomatch h) dX2_outcome_36
      · skip
        refine o_const (k := 0) hx hb dX2_outcome_31 (by decide) ?_
        refine lv_goto (tgt := 36) hx hb dX2_outcome_32 (by decide) ?_
        exact W.iret (v := nI 0) hx hb hrt (fun t ht hW => ⟨_, rfl, (congrArg nI (Eq.symm (show s_out v 2 = _ from (Eq.trans (if_neg c_15) (if_pos c_18))))), ht⟩) (fun _ h => nomatch h) dX2_outcome_36
    · skip
      refine o_const (k := 4294967295) hx hb dX2_outcome_18 (by decide) ?_
      exact W.iret (v := nI 4294967295) hx hb hrt (fun t ht hW => ⟨_, rfl, (congrArg nI (Eq.symm (show s_out v 2 = _ from (if_pos c_15)))), ht⟩) (fun _ h => nomatch h) dX2_outcome_19
  · skip
    obtain ⟨⟨i1, i2, i3, hpl⟩, i5⟩ := hSI
    have i12 := i5 3 (by omega)
    unfold s_IR at i12
    simp only [Nat.reduceMul, Nat.reduceAdd] at i12
    refine lv_aload_n hx hb dX2_outcome_0 rfl (lv_at hl 0 rfl) ?_
    refine va_get (D := D) (ci := 2) (v := .ref (q 6)) (C := RX2) (T := TX2) (N := 4) hx hb hts inX2_outcome_X2 hown hK hP 0 rfl rfl 1 (by decide) (hts (.fieldLink RX2 20 "OddNotice$State" "readers" "[LOddNotice$Reader;") (List.mem_of_getElem? (i := 1) (by decide +kernel))) (fun _ h9 => h9) rfl dX2_outcome_1 ?_
    refine lv_iload_n hx hb dX2_outcome_4 rfl (lv_at hl 1 rfl) ?_
    refine o_aldq (v := (q 16)) (C := "OddNotice$Reader") hx hb hK hP 1 1 rfl rfl (Nat.le_of_ble_eq_true rfl) (Nat.le_of_ble_eq_true rfl) rfl dX2_outcome_5 ?_
    refine lv_astore_n (lv' := [(2, .ref (q 16)), (0, .ref (q 0)), (1, .int (nI 3))]) hx hb dX2_outcome_6 rfl hl (by decide) rfl (fun ls hl => ?_)
    refine lv_aload_n hx hb dX2_outcome_7 rfl (lv_at hl 0 rfl) ?_
    refine lv_aload_n hx hb dX2_outcome_8 rfl (lv_at hl 1 rfl) ?_
    refine va_get (D := D) (ci := 2) (v := .int (nI (v 0 2))) (C := RX2) (T := TX2) (N := 4) hx hb hts inX2_outcome_X2 hown hK hP 0 rfl rfl 3 (by decide) (hts (.fieldLink RX2 24 "OddNotice$State" "setting" "I") (List.mem_of_getElem? (i := 2) (by decide +kernel))) (fun _ h9 => h9) rfl dX2_outcome_9 ?_
    refine o_ri (va_runV (As := [.int (nI (v 0 2))]) (rest := []) ⟨hx, hb, hml, hown, hts⟩ (k_X1_hasGivenUp l D cI cR cS cL (fun k => q (k + 16)) (fun k => v (k + 14)) (v 0 2) (by show (v 14 0) < 2 ^ 31; first | assumption | omega) (by show (v 14 1) < 2 ^ 31; first | assumption | omega) (by show (v 14 5) < 2 ^ 31; first | assumption | omega) (by show (v 0 2) < 2 ^ 31; first | assumption | omega)) (cwV 1 hts gX2_outcome_X1_hasGivenUp rfl rfl rfl (by decide +kernel) ⟨Nat.le_of_ble_eq_true rfl, Nat.le_of_ble_eq_true rfl⟩) (o_v (o_pR hK hN (hP.sub (ws' := (wR (fun k => q (k + 16)) cI (fun k => v (k + 14)))) [16, 17, 18] rfl)) (va_recv hK hP (ci := 1) (q0 := 16) rfl rfl)) rfl rfl hl.1 rfl (lv_room (Nat.le_of_ble_eq_true rfl)) dX2_outcome_12 ⟨Nat.zero_le _, Nat.zero_le _⟩) (fun r_20 e_19 => ?_)
    have e_19 : r_20 = nI (bn (¬ (v 14 0) = 0 ∧ (v 14 1) = 0 ∧ (v 0 2) ≤ (v 14 5))) := e_19
    subst e_19
    refine o_ifz (tgt := 20) hx hb dX2_outcome_15 (by decide) (fun c_21 => ?_) (fun c_21 => ?_)
    · skip
      refine lv_aload_n hx hb dX2_outcome_20 rfl (lv_at hl 0 rfl) ?_
      refine lv_aload_n hx hb dX2_outcome_21 rfl (lv_at hl 1 rfl) ?_
      refine va_get (D := D) (ci := 2) (v := .ref (q 1)) (C := RX2) (T := TX2) (N := 4) hx hb hts inX2_outcome_X2 hown hK hP 0 rfl rfl 0 (by decide) (hts (.fieldLink RX2 12 "OddNotice$State" "board" "LOddNotice$Board;") (List.mem_of_getElem? (i := 3) (by decide +kernel))) (fun _ h9 => h9) rfl dX2_outcome_22 ?_
      refine o_ri (va_runV (As := [.ref (q 1)]) (rest := []) ⟨hx, hb, hml, hown, hts⟩ (k_X1_wouldFail l D cI cR cS cL (fun k => q (k + 16)) (fun k => v (k + 14)) (fun k => q (k + 1)) v (by show (v 14 0) < 2 ^ 31; first | assumption | omega) (by show (v 14 1) < 2 ^ 31; first | assumption | omega) (by show (v 14 3) < 2 ^ 32; first | assumption | omega) (by show v 0 0 < 2 ^ 31; first | assumption | omega)) (cwV 1 hts gX2_outcome_X1_wouldFail rfl rfl rfl (by decide +kernel) ⟨Nat.le_of_ble_eq_true rfl, Nat.le_of_ble_eq_true rfl⟩) (o_v (o_pR hK hN (hP.sub (ws' := (wR (fun k => q (k + 16)) cI (fun k => v (k + 14)) ++ wB (fun k => q (k + 1)) cI v)) [16, 17, 18, 2, 3, 4, 5, 6] rfl)) (va_recv hK hP (ci := 1) (q0 := 16) rfl rfl)) rfl rfl hl.1 rfl (lv_room (Nat.le_of_ble_eq_true rfl)) dX2_outcome_25 ⟨Nat.zero_le _, Nat.zero_le _⟩) (fun r_23 e_22 => ?_)
      have e_22 : r_23 = nI (bn (¬ (v 14 0) = 0 ∧ (¬ (v 14 1) = 0 ∧ ¬ (v 14 3) = v 0 0 ∨ (v 14 1) = 0 ∧ v 0 0 % 2 = 1))) := e_22
      subst e_22
      refine o_ifz (tgt := 35) hx hb dX2_outcome_28 (by decide) (fun c_24 => ?_) (fun c_24 => ?_)
      · skip
        refine o_const (k := 1) hx hb dX2_outcome_35 (by decide) ?_
        exact W.iret (v := nI 1) hx hb hrt (fun t ht hW => ⟨_, rfl, (congrArg nI (Eq.symm (show s_out v 3 = _ from (Eq.trans (if_neg c_21) (if_neg c_24))))), ht⟩) (fun _ h => nomatch h) dX2_outcome_36
      · skip
        refine o_const (k := 0) hx hb dX2_outcome_31 (by decide) ?_
        refine lv_goto (tgt := 36) hx hb dX2_outcome_32 (by decide) ?_
        exact W.iret (v := nI 0) hx hb hrt (fun t ht hW => ⟨_, rfl, (congrArg nI (Eq.symm (show s_out v 3 = _ from (Eq.trans (if_neg c_21) (if_pos c_24))))), ht⟩) (fun _ h => nomatch h) dX2_outcome_36
    · skip
      refine o_const (k := 4294967295) hx hb dX2_outcome_18 (by decide) ?_
      exact W.iret (v := nI 4294967295) hx hb hrt (fun t ht hW => ⟨_, rfl, (congrArg nI (Eq.symm (show s_out v 3 = _ from (if_pos c_21)))), ht⟩) (fun _ h => nomatch h) dX2_outcome_19
theorem inX2_reading_X2 : ∀ w ∈ wsX20, w ∈ wsX2_reading := by decide +kernel
theorem inX2_reading_X1 : ∀ w ∈ wsX10, w ∈ wsX2_reading := by decide +kernel
set_option maxHeartbeats 4000000 in
set_option maxRecDepth 100000 in
theorem k_X2_reading (l : Launch) (D : va_G) (cI cR cS cL : ClassId) (q : Nat → Nat) (v : Nat → Nat → Nat) (b : Nat) (hSI : s_I b v) (hb : b < 2 ^ 28) : Met l yX2_reading wsX2_reading ({ frames := 0, cells := 0, slots := 0, locals := 0 }) (va_Pc [.ref (q 0)] (o_R D (o_T cI cR cS cL) (wS q cI cR v))) (vp_Si (fun rz => rz = nI (s_sum v 1))) 0 0 (fun _ => False) := by
  refine Met.ofW (cc := cX2_reading) (maxL := 3) (ret := (some .int)) (by decide) rfl ?_
  intro p e s m args below meth cd s₁ B hml hv
  obtain ⟨rfl, hP, hK, hN⟩ := hv
  have hx := B.exec
  have hb := B.bytes
  have hrt := B.returns
  have hts := atoms_spec (ws := wsX2_reading) B.pre
  have hown : s.vm.findClass RX2 = some m.cls := findClass_of_methodNamed B.named
  have hlocks := B.notSynchronized
  have hl := lv_entry ([.ref (q 0)]) (n := 3) (Nat.le_of_ble_eq_true rfl)
  rw [lg_entry_eq]
  generalize (lg_sl ([.ref (q 0)]) ++ List.replicate (3 - (lg_sl ([.ref (q 0)])).length) Slot.unset).toArray = ls at hl ⊢
  have hl : lv_has ls 3 [(0, .ref (q 0))] := hl
  obtain ⟨⟨i1, i2, i3, hpl⟩, i5⟩ := hSI
  have j0 := i5 0 (by omega)
  unfold s_IR at j0
  simp only [Nat.reduceMul, Nat.reduceAdd] at j0
  have j1 := i5 1 (by omega)
  unfold s_IR at j1
  simp only [Nat.reduceMul, Nat.reduceAdd] at j1
  have j2 := i5 2 (by omega)
  unfold s_IR at j2
  simp only [Nat.reduceMul, Nat.reduceAdd] at j2
  have j3 := i5 3 (by omega)
  unfold s_IR at j3
  simp only [Nat.reduceMul, Nat.reduceAdd] at j3
  refine o_const (k := 0) hx hb dX2_reading_0 (by decide) ?_
  refine lv_istore_n (lv' := [(1, .int (nI 0)), (0, .ref (q 0))]) hx hb dX2_reading_1 rfl hl (by decide) rfl (fun ls hl => ?_)
  refine o_const (k := 0) hx hb dX2_reading_2 (by decide) ?_
  refine lv_istore_n (lv' := [(2, .int (nI 0)), (1, .int (nI 0)), (0, .ref (q 0))]) hx hb dX2_reading_3 rfl hl (by decide) rfl (fun ls hl => ?_)
  refine lv_iload_n hx hb dX2_reading_4 rfl (lv_at hl 0 rfl) ?_
  refine o_const (k := 4) hx hb dX2_reading_5 (by decide) ?_
  refine o_icmp_ge (tgt := 35) hx hb dX2_reading_6 (by decide) (Nat.le_of_ble_eq_true rfl) (Nat.le_of_ble_eq_true rfl) (fun c0 => absurd c0 (by decide)) (fun _ => ?_)
  refine lv_iload_n hx hb dX2_reading_9 rfl (lv_at hl 1 rfl) ?_
  refine lv_aload_n hx hb dX2_reading_10 rfl (lv_at hl 2 rfl) ?_
  refine va_get (D := D) (ci := 2) (v := .ref (q 6)) (C := RX2) (T := TX2) (N := 4) hx hb hts inX2_reading_X2 hown hK hP 0 rfl rfl 1 (by decide) (hts (.fieldLink RX2 20 "OddNotice$State" "readers" "[LOddNotice$Reader;") (List.mem_of_getElem? (i := 1) (by decide +kernel))) (fun _ h9 => h9) rfl dX2_reading_11 ?_
  refine lv_iload_n hx hb dX2_reading_14 rfl (lv_at hl 0 rfl) ?_
  refine o_aldq (v := (q 7)) (C := "OddNotice$Reader") hx hb hK hP 1 1 rfl rfl (Nat.le_of_ble_eq_true rfl) (Nat.le_of_ble_eq_true rfl) rfl dX2_reading_15 ?_
  refine va_get (D := D) (ci := 1) (v := .int (nI (v 5 1))) (C := RX1) (T := TX1) (N := 10) hx hb hts inX2_reading_X1 hown hK hP 7 rfl rfl 1 (by decide) (hts (.fieldLink RX2 29 "OddNotice$Reader" "reads" "Z") (List.mem_of_getElem? (i := 2) (by decide +kernel))) (fun _ h9 => h9) rfl dX2_reading_16 ?_
  refine o_if_eq (tgt := 26) hx hb dX2_reading_19 (by decide) (by omega) (fun c_1 => ?_) (fun c_1 => ?_)
  · skip
    refine o_const (k := 0) hx hb dX2_reading_26 (by decide) ?_
    refine o_iadd (a := 0) (b := 0) (k := 0) hx hb dX2_reading_27 rfl ?_
    refine lv_istore_n (lv' := [(1, .int (nI 0)), (2, .int (nI 0)), (0, .ref (q 0))]) hx hb dX2_reading_28 rfl hl (by decide) rfl (fun ls hl => ?_)
    refine lv_iinc (v := nI 1) (lv' := [(2, .int (nI 1)), (1, .int (nI 0)), (0, .ref (q 0))]) hx hb dX2_reading_29 hl (k := 1) rfl (by decide) (by decide) rfl (fun ls hl => ?_)
    refine lv_goto (tgt := 4) hx hb dX2_reading_32 (by decide) ?_
    refine lv_iload_n hx hb dX2_reading_4 rfl (lv_at hl 0 rfl) ?_
    refine o_const (k := 4) hx hb dX2_reading_5 (by decide) ?_
    refine o_icmp_ge (tgt := 35) hx hb dX2_reading_6 (by decide) (Nat.le_of_ble_eq_true rfl) (Nat.le_of_ble_eq_true rfl) (fun c0 => absurd c0 (by decide)) (fun _ => ?_)
    refine lv_iload_n hx hb dX2_reading_9 rfl (lv_at hl 1 rfl) ?_
    refine lv_aload_n hx hb dX2_reading_10 rfl (lv_at hl 2 rfl) ?_
    refine va_get (D := D) (ci := 2) (v := .ref (q 6)) (C := RX2) (T := TX2) (N := 4) hx hb hts inX2_reading_X2 hown hK hP 0 rfl rfl 1 (by decide) (hts (.fieldLink RX2 20 "OddNotice$State" "readers" "[LOddNotice$Reader;") (List.mem_of_getElem? (i := 1) (by decide +kernel))) (fun _ h9 => h9) rfl dX2_reading_11 ?_
    refine lv_iload_n hx hb dX2_reading_14 rfl (lv_at hl 0 rfl) ?_
    refine o_aldq (v := (q 10)) (C := "OddNotice$Reader") hx hb hK hP 1 1 rfl rfl (Nat.le_of_ble_eq_true rfl) (Nat.le_of_ble_eq_true rfl) rfl dX2_reading_15 ?_
    refine va_get (D := D) (ci := 1) (v := .int (nI (v 8 1))) (C := RX1) (T := TX1) (N := 10) hx hb hts inX2_reading_X1 hown hK hP 10 rfl rfl 1 (by decide) (hts (.fieldLink RX2 29 "OddNotice$Reader" "reads" "Z") (List.mem_of_getElem? (i := 2) (by decide +kernel))) (fun _ h9 => h9) rfl dX2_reading_16 ?_
    refine o_if_eq (tgt := 26) hx hb dX2_reading_19 (by decide) (by omega) (fun c_2 => ?_) (fun c_2 => ?_)
    · skip
      refine o_const (k := 0) hx hb dX2_reading_26 (by decide) ?_
      refine o_iadd (a := 0) (b := 0) (k := 0) hx hb dX2_reading_27 rfl ?_
      refine lv_istore_n (lv' := [(1, .int (nI 0)), (2, .int (nI 1)), (0, .ref (q 0))]) hx hb dX2_reading_28 rfl hl (by decide) rfl (fun ls hl => ?_)
      refine lv_iinc (v := nI 2) (lv' := [(2, .int (nI 2)), (1, .int (nI 0)), (0, .ref (q 0))]) hx hb dX2_reading_29 hl (k := 1) rfl (by decide) (by decide) rfl (fun ls hl => ?_)
      refine lv_goto (tgt := 4) hx hb dX2_reading_32 (by decide) ?_
      refine lv_iload_n hx hb dX2_reading_4 rfl (lv_at hl 0 rfl) ?_
      refine o_const (k := 4) hx hb dX2_reading_5 (by decide) ?_
      refine o_icmp_ge (tgt := 35) hx hb dX2_reading_6 (by decide) (Nat.le_of_ble_eq_true rfl) (Nat.le_of_ble_eq_true rfl) (fun c0 => absurd c0 (by decide)) (fun _ => ?_)
      refine lv_iload_n hx hb dX2_reading_9 rfl (lv_at hl 1 rfl) ?_
      refine lv_aload_n hx hb dX2_reading_10 rfl (lv_at hl 2 rfl) ?_
      refine va_get (D := D) (ci := 2) (v := .ref (q 6)) (C := RX2) (T := TX2) (N := 4) hx hb hts inX2_reading_X2 hown hK hP 0 rfl rfl 1 (by decide) (hts (.fieldLink RX2 20 "OddNotice$State" "readers" "[LOddNotice$Reader;") (List.mem_of_getElem? (i := 1) (by decide +kernel))) (fun _ h9 => h9) rfl dX2_reading_11 ?_
      refine lv_iload_n hx hb dX2_reading_14 rfl (lv_at hl 0 rfl) ?_
      refine o_aldq (v := (q 13)) (C := "OddNotice$Reader") hx hb hK hP 1 1 rfl rfl (Nat.le_of_ble_eq_true rfl) (Nat.le_of_ble_eq_true rfl) rfl dX2_reading_15 ?_
      refine va_get (D := D) (ci := 1) (v := .int (nI (v 11 1))) (C := RX1) (T := TX1) (N := 10) hx hb hts inX2_reading_X1 hown hK hP 13 rfl rfl 1 (by decide) (hts (.fieldLink RX2 29 "OddNotice$Reader" "reads" "Z") (List.mem_of_getElem? (i := 2) (by decide +kernel))) (fun _ h9 => h9) rfl dX2_reading_16 ?_
      refine o_if_eq (tgt := 26) hx hb dX2_reading_19 (by decide) (by omega) (fun c_3 => ?_) (fun c_3 => ?_)
      · skip
        refine o_const (k := 0) hx hb dX2_reading_26 (by decide) ?_
        refine o_iadd (a := 0) (b := 0) (k := 0) hx hb dX2_reading_27 rfl ?_
        refine lv_istore_n (lv' := [(1, .int (nI 0)), (2, .int (nI 2)), (0, .ref (q 0))]) hx hb dX2_reading_28 rfl hl (by decide) rfl (fun ls hl => ?_)
        refine lv_iinc (v := nI 3) (lv' := [(2, .int (nI 3)), (1, .int (nI 0)), (0, .ref (q 0))]) hx hb dX2_reading_29 hl (k := 1) rfl (by decide) (by decide) rfl (fun ls hl => ?_)
        refine lv_goto (tgt := 4) hx hb dX2_reading_32 (by decide) ?_
        refine lv_iload_n hx hb dX2_reading_4 rfl (lv_at hl 0 rfl) ?_
        refine o_const (k := 4) hx hb dX2_reading_5 (by decide) ?_
        refine o_icmp_ge (tgt := 35) hx hb dX2_reading_6 (by decide) (Nat.le_of_ble_eq_true rfl) (Nat.le_of_ble_eq_true rfl) (fun c0 => absurd c0 (by decide)) (fun _ => ?_)
        refine lv_iload_n hx hb dX2_reading_9 rfl (lv_at hl 1 rfl) ?_
        refine lv_aload_n hx hb dX2_reading_10 rfl (lv_at hl 2 rfl) ?_
        refine va_get (D := D) (ci := 2) (v := .ref (q 6)) (C := RX2) (T := TX2) (N := 4) hx hb hts inX2_reading_X2 hown hK hP 0 rfl rfl 1 (by decide) (hts (.fieldLink RX2 20 "OddNotice$State" "readers" "[LOddNotice$Reader;") (List.mem_of_getElem? (i := 1) (by decide +kernel))) (fun _ h9 => h9) rfl dX2_reading_11 ?_
        refine lv_iload_n hx hb dX2_reading_14 rfl (lv_at hl 0 rfl) ?_
        refine o_aldq (v := (q 16)) (C := "OddNotice$Reader") hx hb hK hP 1 1 rfl rfl (Nat.le_of_ble_eq_true rfl) (Nat.le_of_ble_eq_true rfl) rfl dX2_reading_15 ?_
        refine va_get (D := D) (ci := 1) (v := .int (nI (v 14 1))) (C := RX1) (T := TX1) (N := 10) hx hb hts inX2_reading_X1 hown hK hP 16 rfl rfl 1 (by decide) (hts (.fieldLink RX2 29 "OddNotice$Reader" "reads" "Z") (List.mem_of_getElem? (i := 2) (by decide +kernel))) (fun _ h9 => h9) rfl dX2_reading_16 ?_
        refine o_if_eq (tgt := 26) hx hb dX2_reading_19 (by decide) (by omega) (fun c_4 => ?_) (fun c_4 => ?_)
        · skip
          refine o_const (k := 0) hx hb dX2_reading_26 (by decide) ?_
          refine o_iadd (a := 0) (b := 0) (k := 0) hx hb dX2_reading_27 rfl ?_
          refine lv_istore_n (lv' := [(1, .int (nI 0)), (2, .int (nI 3)), (0, .ref (q 0))]) hx hb dX2_reading_28 rfl hl (by decide) rfl (fun ls hl => ?_)
          refine lv_iinc (v := nI 4) (lv' := [(2, .int (nI 4)), (1, .int (nI 0)), (0, .ref (q 0))]) hx hb dX2_reading_29 hl (k := 1) rfl (by decide) (by decide) rfl (fun ls hl => ?_)
          refine lv_goto (tgt := 4) hx hb dX2_reading_32 (by decide) ?_
          refine lv_iload_n hx hb dX2_reading_4 rfl (lv_at hl 0 rfl) ?_
          refine o_const (k := 4) hx hb dX2_reading_5 (by decide) ?_
          refine o_icmp_ge (tgt := 35) hx hb dX2_reading_6 (by decide) (Nat.le_of_ble_eq_true rfl) (Nat.le_of_ble_eq_true rfl) (fun _ => ?_) (fun c0 => absurd c0 (by decide))
          refine lv_iload_n hx hb dX2_reading_35 rfl (lv_at hl 1 rfl) ?_
          exact W.iret (v := nI 0) hx hb hrt (fun t ht hW => ⟨_, rfl, (congrArg nI (by unfold s_sum; omega)), ht⟩) (fun _ h => nomatch h) dX2_reading_36
        · skip
          refine o_const (k := 1) hx hb dX2_reading_22 (by decide) ?_
          refine lv_goto (tgt := 27) hx hb dX2_reading_23 (by decide) ?_
          refine o_iadd (a := 0) (b := 1) (k := 1) hx hb dX2_reading_27 rfl ?_
          refine lv_istore_n (lv' := [(1, .int (nI 1)), (2, .int (nI 3)), (0, .ref (q 0))]) hx hb dX2_reading_28 rfl hl (by decide) rfl (fun ls hl => ?_)
          refine lv_iinc (v := nI 4) (lv' := [(2, .int (nI 4)), (1, .int (nI 1)), (0, .ref (q 0))]) hx hb dX2_reading_29 hl (k := 1) rfl (by decide) (by decide) rfl (fun ls hl => ?_)
          refine lv_goto (tgt := 4) hx hb dX2_reading_32 (by decide) ?_
          refine lv_iload_n hx hb dX2_reading_4 rfl (lv_at hl 0 rfl) ?_
          refine o_const (k := 4) hx hb dX2_reading_5 (by decide) ?_
          refine o_icmp_ge (tgt := 35) hx hb dX2_reading_6 (by decide) (Nat.le_of_ble_eq_true rfl) (Nat.le_of_ble_eq_true rfl) (fun _ => ?_) (fun c0 => absurd c0 (by decide))
          refine lv_iload_n hx hb dX2_reading_35 rfl (lv_at hl 1 rfl) ?_
          exact W.iret (v := nI 1) hx hb hrt (fun t ht hW => ⟨_, rfl, (congrArg nI (by unfold s_sum; omega)), ht⟩) (fun _ h => nomatch h) dX2_reading_36
      · skip
        refine o_const (k := 1) hx hb dX2_reading_22 (by decide) ?_
        refine lv_goto (tgt := 27) hx hb dX2_reading_23 (by decide) ?_
        refine o_iadd (a := 0) (b := 1) (k := 1) hx hb dX2_reading_27 rfl ?_
        refine lv_istore_n (lv' := [(1, .int (nI 1)), (2, .int (nI 2)), (0, .ref (q 0))]) hx hb dX2_reading_28 rfl hl (by decide) rfl (fun ls hl => ?_)
        refine lv_iinc (v := nI 3) (lv' := [(2, .int (nI 3)), (1, .int (nI 1)), (0, .ref (q 0))]) hx hb dX2_reading_29 hl (k := 1) rfl (by decide) (by decide) rfl (fun ls hl => ?_)
        refine lv_goto (tgt := 4) hx hb dX2_reading_32 (by decide) ?_
        refine lv_iload_n hx hb dX2_reading_4 rfl (lv_at hl 0 rfl) ?_
        refine o_const (k := 4) hx hb dX2_reading_5 (by decide) ?_
        refine o_icmp_ge (tgt := 35) hx hb dX2_reading_6 (by decide) (Nat.le_of_ble_eq_true rfl) (Nat.le_of_ble_eq_true rfl) (fun c0 => absurd c0 (by decide)) (fun _ => ?_)
        refine lv_iload_n hx hb dX2_reading_9 rfl (lv_at hl 1 rfl) ?_
        refine lv_aload_n hx hb dX2_reading_10 rfl (lv_at hl 2 rfl) ?_
        refine va_get (D := D) (ci := 2) (v := .ref (q 6)) (C := RX2) (T := TX2) (N := 4) hx hb hts inX2_reading_X2 hown hK hP 0 rfl rfl 1 (by decide) (hts (.fieldLink RX2 20 "OddNotice$State" "readers" "[LOddNotice$Reader;") (List.mem_of_getElem? (i := 1) (by decide +kernel))) (fun _ h9 => h9) rfl dX2_reading_11 ?_
        refine lv_iload_n hx hb dX2_reading_14 rfl (lv_at hl 0 rfl) ?_
        refine o_aldq (v := (q 16)) (C := "OddNotice$Reader") hx hb hK hP 1 1 rfl rfl (Nat.le_of_ble_eq_true rfl) (Nat.le_of_ble_eq_true rfl) rfl dX2_reading_15 ?_
        refine va_get (D := D) (ci := 1) (v := .int (nI (v 14 1))) (C := RX1) (T := TX1) (N := 10) hx hb hts inX2_reading_X1 hown hK hP 16 rfl rfl 1 (by decide) (hts (.fieldLink RX2 29 "OddNotice$Reader" "reads" "Z") (List.mem_of_getElem? (i := 2) (by decide +kernel))) (fun _ h9 => h9) rfl dX2_reading_16 ?_
        refine o_if_eq (tgt := 26) hx hb dX2_reading_19 (by decide) (by omega) (fun c_5 => ?_) (fun c_5 => ?_)
        · skip
          refine o_const (k := 0) hx hb dX2_reading_26 (by decide) ?_
          refine o_iadd (a := 1) (b := 0) (k := 1) hx hb dX2_reading_27 rfl ?_
          refine lv_istore_n (lv' := [(1, .int (nI 1)), (2, .int (nI 3)), (0, .ref (q 0))]) hx hb dX2_reading_28 rfl hl (by decide) rfl (fun ls hl => ?_)
          refine lv_iinc (v := nI 4) (lv' := [(2, .int (nI 4)), (1, .int (nI 1)), (0, .ref (q 0))]) hx hb dX2_reading_29 hl (k := 1) rfl (by decide) (by decide) rfl (fun ls hl => ?_)
          refine lv_goto (tgt := 4) hx hb dX2_reading_32 (by decide) ?_
          refine lv_iload_n hx hb dX2_reading_4 rfl (lv_at hl 0 rfl) ?_
          refine o_const (k := 4) hx hb dX2_reading_5 (by decide) ?_
          refine o_icmp_ge (tgt := 35) hx hb dX2_reading_6 (by decide) (Nat.le_of_ble_eq_true rfl) (Nat.le_of_ble_eq_true rfl) (fun _ => ?_) (fun c0 => absurd c0 (by decide))
          refine lv_iload_n hx hb dX2_reading_35 rfl (lv_at hl 1 rfl) ?_
          exact W.iret (v := nI 1) hx hb hrt (fun t ht hW => ⟨_, rfl, (congrArg nI (by unfold s_sum; omega)), ht⟩) (fun _ h => nomatch h) dX2_reading_36
        · skip
          refine o_const (k := 1) hx hb dX2_reading_22 (by decide) ?_
          refine lv_goto (tgt := 27) hx hb dX2_reading_23 (by decide) ?_
          refine o_iadd (a := 1) (b := 1) (k := 2) hx hb dX2_reading_27 rfl ?_
          refine lv_istore_n (lv' := [(1, .int (nI 2)), (2, .int (nI 3)), (0, .ref (q 0))]) hx hb dX2_reading_28 rfl hl (by decide) rfl (fun ls hl => ?_)
          refine lv_iinc (v := nI 4) (lv' := [(2, .int (nI 4)), (1, .int (nI 2)), (0, .ref (q 0))]) hx hb dX2_reading_29 hl (k := 1) rfl (by decide) (by decide) rfl (fun ls hl => ?_)
          refine lv_goto (tgt := 4) hx hb dX2_reading_32 (by decide) ?_
          refine lv_iload_n hx hb dX2_reading_4 rfl (lv_at hl 0 rfl) ?_
          refine o_const (k := 4) hx hb dX2_reading_5 (by decide) ?_
          refine o_icmp_ge (tgt := 35) hx hb dX2_reading_6 (by decide) (Nat.le_of_ble_eq_true rfl) (Nat.le_of_ble_eq_true rfl) (fun _ => ?_) (fun c0 => absurd c0 (by decide))
          refine lv_iload_n hx hb dX2_reading_35 rfl (lv_at hl 1 rfl) ?_
          exact W.iret (v := nI 2) hx hb hrt (fun t ht hW => ⟨_, rfl, (congrArg nI (by unfold s_sum; omega)), ht⟩) (fun _ h => nomatch h) dX2_reading_36
    · skip
      refine o_const (k := 1) hx hb dX2_reading_22 (by decide) ?_
      refine lv_goto (tgt := 27) hx hb dX2_reading_23 (by decide) ?_
      refine o_iadd (a := 0) (b := 1) (k := 1) hx hb dX2_reading_27 rfl ?_
      refine lv_istore_n (lv' := [(1, .int (nI 1)), (2, .int (nI 1)), (0, .ref (q 0))]) hx hb dX2_reading_28 rfl hl (by decide) rfl (fun ls hl => ?_)
      refine lv_iinc (v := nI 2) (lv' := [(2, .int (nI 2)), (1, .int (nI 1)), (0, .ref (q 0))]) hx hb dX2_reading_29 hl (k := 1) rfl (by decide) (by decide) rfl (fun ls hl => ?_)
      refine lv_goto (tgt := 4) hx hb dX2_reading_32 (by decide) ?_
      refine lv_iload_n hx hb dX2_reading_4 rfl (lv_at hl 0 rfl) ?_
      refine o_const (k := 4) hx hb dX2_reading_5 (by decide) ?_
      refine o_icmp_ge (tgt := 35) hx hb dX2_reading_6 (by decide) (Nat.le_of_ble_eq_true rfl) (Nat.le_of_ble_eq_true rfl) (fun c0 => absurd c0 (by decide)) (fun _ => ?_)
      refine lv_iload_n hx hb dX2_reading_9 rfl (lv_at hl 1 rfl) ?_
      refine lv_aload_n hx hb dX2_reading_10 rfl (lv_at hl 2 rfl) ?_
      refine va_get (D := D) (ci := 2) (v := .ref (q 6)) (C := RX2) (T := TX2) (N := 4) hx hb hts inX2_reading_X2 hown hK hP 0 rfl rfl 1 (by decide) (hts (.fieldLink RX2 20 "OddNotice$State" "readers" "[LOddNotice$Reader;") (List.mem_of_getElem? (i := 1) (by decide +kernel))) (fun _ h9 => h9) rfl dX2_reading_11 ?_
      refine lv_iload_n hx hb dX2_reading_14 rfl (lv_at hl 0 rfl) ?_
      refine o_aldq (v := (q 13)) (C := "OddNotice$Reader") hx hb hK hP 1 1 rfl rfl (Nat.le_of_ble_eq_true rfl) (Nat.le_of_ble_eq_true rfl) rfl dX2_reading_15 ?_
      refine va_get (D := D) (ci := 1) (v := .int (nI (v 11 1))) (C := RX1) (T := TX1) (N := 10) hx hb hts inX2_reading_X1 hown hK hP 13 rfl rfl 1 (by decide) (hts (.fieldLink RX2 29 "OddNotice$Reader" "reads" "Z") (List.mem_of_getElem? (i := 2) (by decide +kernel))) (fun _ h9 => h9) rfl dX2_reading_16 ?_
      refine o_if_eq (tgt := 26) hx hb dX2_reading_19 (by decide) (by omega) (fun c_6 => ?_) (fun c_6 => ?_)
      · skip
        refine o_const (k := 0) hx hb dX2_reading_26 (by decide) ?_
        refine o_iadd (a := 1) (b := 0) (k := 1) hx hb dX2_reading_27 rfl ?_
        refine lv_istore_n (lv' := [(1, .int (nI 1)), (2, .int (nI 2)), (0, .ref (q 0))]) hx hb dX2_reading_28 rfl hl (by decide) rfl (fun ls hl => ?_)
        refine lv_iinc (v := nI 3) (lv' := [(2, .int (nI 3)), (1, .int (nI 1)), (0, .ref (q 0))]) hx hb dX2_reading_29 hl (k := 1) rfl (by decide) (by decide) rfl (fun ls hl => ?_)
        refine lv_goto (tgt := 4) hx hb dX2_reading_32 (by decide) ?_
        refine lv_iload_n hx hb dX2_reading_4 rfl (lv_at hl 0 rfl) ?_
        refine o_const (k := 4) hx hb dX2_reading_5 (by decide) ?_
        refine o_icmp_ge (tgt := 35) hx hb dX2_reading_6 (by decide) (Nat.le_of_ble_eq_true rfl) (Nat.le_of_ble_eq_true rfl) (fun c0 => absurd c0 (by decide)) (fun _ => ?_)
        refine lv_iload_n hx hb dX2_reading_9 rfl (lv_at hl 1 rfl) ?_
        refine lv_aload_n hx hb dX2_reading_10 rfl (lv_at hl 2 rfl) ?_
        refine va_get (D := D) (ci := 2) (v := .ref (q 6)) (C := RX2) (T := TX2) (N := 4) hx hb hts inX2_reading_X2 hown hK hP 0 rfl rfl 1 (by decide) (hts (.fieldLink RX2 20 "OddNotice$State" "readers" "[LOddNotice$Reader;") (List.mem_of_getElem? (i := 1) (by decide +kernel))) (fun _ h9 => h9) rfl dX2_reading_11 ?_
        refine lv_iload_n hx hb dX2_reading_14 rfl (lv_at hl 0 rfl) ?_
        refine o_aldq (v := (q 16)) (C := "OddNotice$Reader") hx hb hK hP 1 1 rfl rfl (Nat.le_of_ble_eq_true rfl) (Nat.le_of_ble_eq_true rfl) rfl dX2_reading_15 ?_
        refine va_get (D := D) (ci := 1) (v := .int (nI (v 14 1))) (C := RX1) (T := TX1) (N := 10) hx hb hts inX2_reading_X1 hown hK hP 16 rfl rfl 1 (by decide) (hts (.fieldLink RX2 29 "OddNotice$Reader" "reads" "Z") (List.mem_of_getElem? (i := 2) (by decide +kernel))) (fun _ h9 => h9) rfl dX2_reading_16 ?_
        refine o_if_eq (tgt := 26) hx hb dX2_reading_19 (by decide) (by omega) (fun c_7 => ?_) (fun c_7 => ?_)
        · skip
          refine o_const (k := 0) hx hb dX2_reading_26 (by decide) ?_
          refine o_iadd (a := 1) (b := 0) (k := 1) hx hb dX2_reading_27 rfl ?_
          refine lv_istore_n (lv' := [(1, .int (nI 1)), (2, .int (nI 3)), (0, .ref (q 0))]) hx hb dX2_reading_28 rfl hl (by decide) rfl (fun ls hl => ?_)
          refine lv_iinc (v := nI 4) (lv' := [(2, .int (nI 4)), (1, .int (nI 1)), (0, .ref (q 0))]) hx hb dX2_reading_29 hl (k := 1) rfl (by decide) (by decide) rfl (fun ls hl => ?_)
          refine lv_goto (tgt := 4) hx hb dX2_reading_32 (by decide) ?_
          refine lv_iload_n hx hb dX2_reading_4 rfl (lv_at hl 0 rfl) ?_
          refine o_const (k := 4) hx hb dX2_reading_5 (by decide) ?_
          refine o_icmp_ge (tgt := 35) hx hb dX2_reading_6 (by decide) (Nat.le_of_ble_eq_true rfl) (Nat.le_of_ble_eq_true rfl) (fun _ => ?_) (fun c0 => absurd c0 (by decide))
          refine lv_iload_n hx hb dX2_reading_35 rfl (lv_at hl 1 rfl) ?_
          exact W.iret (v := nI 1) hx hb hrt (fun t ht hW => ⟨_, rfl, (congrArg nI (by unfold s_sum; omega)), ht⟩) (fun _ h => nomatch h) dX2_reading_36
        · skip
          refine o_const (k := 1) hx hb dX2_reading_22 (by decide) ?_
          refine lv_goto (tgt := 27) hx hb dX2_reading_23 (by decide) ?_
          refine o_iadd (a := 1) (b := 1) (k := 2) hx hb dX2_reading_27 rfl ?_
          refine lv_istore_n (lv' := [(1, .int (nI 2)), (2, .int (nI 3)), (0, .ref (q 0))]) hx hb dX2_reading_28 rfl hl (by decide) rfl (fun ls hl => ?_)
          refine lv_iinc (v := nI 4) (lv' := [(2, .int (nI 4)), (1, .int (nI 2)), (0, .ref (q 0))]) hx hb dX2_reading_29 hl (k := 1) rfl (by decide) (by decide) rfl (fun ls hl => ?_)
          refine lv_goto (tgt := 4) hx hb dX2_reading_32 (by decide) ?_
          refine lv_iload_n hx hb dX2_reading_4 rfl (lv_at hl 0 rfl) ?_
          refine o_const (k := 4) hx hb dX2_reading_5 (by decide) ?_
          refine o_icmp_ge (tgt := 35) hx hb dX2_reading_6 (by decide) (Nat.le_of_ble_eq_true rfl) (Nat.le_of_ble_eq_true rfl) (fun _ => ?_) (fun c0 => absurd c0 (by decide))
          refine lv_iload_n hx hb dX2_reading_35 rfl (lv_at hl 1 rfl) ?_
          exact W.iret (v := nI 2) hx hb hrt (fun t ht hW => ⟨_, rfl, (congrArg nI (by unfold s_sum; omega)), ht⟩) (fun _ h => nomatch h) dX2_reading_36
      · skip
        refine o_const (k := 1) hx hb dX2_reading_22 (by decide) ?_
        refine lv_goto (tgt := 27) hx hb dX2_reading_23 (by decide) ?_
        refine o_iadd (a := 1) (b := 1) (k := 2) hx hb dX2_reading_27 rfl ?_
        refine lv_istore_n (lv' := [(1, .int (nI 2)), (2, .int (nI 2)), (0, .ref (q 0))]) hx hb dX2_reading_28 rfl hl (by decide) rfl (fun ls hl => ?_)
        refine lv_iinc (v := nI 3) (lv' := [(2, .int (nI 3)), (1, .int (nI 2)), (0, .ref (q 0))]) hx hb dX2_reading_29 hl (k := 1) rfl (by decide) (by decide) rfl (fun ls hl => ?_)
        refine lv_goto (tgt := 4) hx hb dX2_reading_32 (by decide) ?_
        refine lv_iload_n hx hb dX2_reading_4 rfl (lv_at hl 0 rfl) ?_
        refine o_const (k := 4) hx hb dX2_reading_5 (by decide) ?_
        refine o_icmp_ge (tgt := 35) hx hb dX2_reading_6 (by decide) (Nat.le_of_ble_eq_true rfl) (Nat.le_of_ble_eq_true rfl) (fun c0 => absurd c0 (by decide)) (fun _ => ?_)
        refine lv_iload_n hx hb dX2_reading_9 rfl (lv_at hl 1 rfl) ?_
        refine lv_aload_n hx hb dX2_reading_10 rfl (lv_at hl 2 rfl) ?_
        refine va_get (D := D) (ci := 2) (v := .ref (q 6)) (C := RX2) (T := TX2) (N := 4) hx hb hts inX2_reading_X2 hown hK hP 0 rfl rfl 1 (by decide) (hts (.fieldLink RX2 20 "OddNotice$State" "readers" "[LOddNotice$Reader;") (List.mem_of_getElem? (i := 1) (by decide +kernel))) (fun _ h9 => h9) rfl dX2_reading_11 ?_
        refine lv_iload_n hx hb dX2_reading_14 rfl (lv_at hl 0 rfl) ?_
        refine o_aldq (v := (q 16)) (C := "OddNotice$Reader") hx hb hK hP 1 1 rfl rfl (Nat.le_of_ble_eq_true rfl) (Nat.le_of_ble_eq_true rfl) rfl dX2_reading_15 ?_
        refine va_get (D := D) (ci := 1) (v := .int (nI (v 14 1))) (C := RX1) (T := TX1) (N := 10) hx hb hts inX2_reading_X1 hown hK hP 16 rfl rfl 1 (by decide) (hts (.fieldLink RX2 29 "OddNotice$Reader" "reads" "Z") (List.mem_of_getElem? (i := 2) (by decide +kernel))) (fun _ h9 => h9) rfl dX2_reading_16 ?_
        refine o_if_eq (tgt := 26) hx hb dX2_reading_19 (by decide) (by omega) (fun c_8 => ?_) (fun c_8 => ?_)
        · skip
          refine o_const (k := 0) hx hb dX2_reading_26 (by decide) ?_
          refine o_iadd (a := 2) (b := 0) (k := 2) hx hb dX2_reading_27 rfl ?_
          refine lv_istore_n (lv' := [(1, .int (nI 2)), (2, .int (nI 3)), (0, .ref (q 0))]) hx hb dX2_reading_28 rfl hl (by decide) rfl (fun ls hl => ?_)
          refine lv_iinc (v := nI 4) (lv' := [(2, .int (nI 4)), (1, .int (nI 2)), (0, .ref (q 0))]) hx hb dX2_reading_29 hl (k := 1) rfl (by decide) (by decide) rfl (fun ls hl => ?_)
          refine lv_goto (tgt := 4) hx hb dX2_reading_32 (by decide) ?_
          refine lv_iload_n hx hb dX2_reading_4 rfl (lv_at hl 0 rfl) ?_
          refine o_const (k := 4) hx hb dX2_reading_5 (by decide) ?_
          refine o_icmp_ge (tgt := 35) hx hb dX2_reading_6 (by decide) (Nat.le_of_ble_eq_true rfl) (Nat.le_of_ble_eq_true rfl) (fun _ => ?_) (fun c0 => absurd c0 (by decide))
          refine lv_iload_n hx hb dX2_reading_35 rfl (lv_at hl 1 rfl) ?_
          exact W.iret (v := nI 2) hx hb hrt (fun t ht hW => ⟨_, rfl, (congrArg nI (by unfold s_sum; omega)), ht⟩) (fun _ h => nomatch h) dX2_reading_36
        · skip
          refine o_const (k := 1) hx hb dX2_reading_22 (by decide) ?_
          refine lv_goto (tgt := 27) hx hb dX2_reading_23 (by decide) ?_
          refine o_iadd (a := 2) (b := 1) (k := 3) hx hb dX2_reading_27 rfl ?_
          refine lv_istore_n (lv' := [(1, .int (nI 3)), (2, .int (nI 3)), (0, .ref (q 0))]) hx hb dX2_reading_28 rfl hl (by decide) rfl (fun ls hl => ?_)
          refine lv_iinc (v := nI 4) (lv' := [(2, .int (nI 4)), (1, .int (nI 3)), (0, .ref (q 0))]) hx hb dX2_reading_29 hl (k := 1) rfl (by decide) (by decide) rfl (fun ls hl => ?_)
          refine lv_goto (tgt := 4) hx hb dX2_reading_32 (by decide) ?_
          refine lv_iload_n hx hb dX2_reading_4 rfl (lv_at hl 0 rfl) ?_
          refine o_const (k := 4) hx hb dX2_reading_5 (by decide) ?_
          refine o_icmp_ge (tgt := 35) hx hb dX2_reading_6 (by decide) (Nat.le_of_ble_eq_true rfl) (Nat.le_of_ble_eq_true rfl) (fun _ => ?_) (fun c0 => absurd c0 (by decide))
          refine lv_iload_n hx hb dX2_reading_35 rfl (lv_at hl 1 rfl) ?_
          exact W.iret (v := nI 3) hx hb hrt (fun t ht hW => ⟨_, rfl, (congrArg nI (by unfold s_sum; omega)), ht⟩) (fun _ h => nomatch h) dX2_reading_36
  · skip
    refine o_const (k := 1) hx hb dX2_reading_22 (by decide) ?_
    refine lv_goto (tgt := 27) hx hb dX2_reading_23 (by decide) ?_
    refine o_iadd (a := 0) (b := 1) (k := 1) hx hb dX2_reading_27 rfl ?_
    refine lv_istore_n (lv' := [(1, .int (nI 1)), (2, .int (nI 0)), (0, .ref (q 0))]) hx hb dX2_reading_28 rfl hl (by decide) rfl (fun ls hl => ?_)
    refine lv_iinc (v := nI 1) (lv' := [(2, .int (nI 1)), (1, .int (nI 1)), (0, .ref (q 0))]) hx hb dX2_reading_29 hl (k := 1) rfl (by decide) (by decide) rfl (fun ls hl => ?_)
    refine lv_goto (tgt := 4) hx hb dX2_reading_32 (by decide) ?_
    refine lv_iload_n hx hb dX2_reading_4 rfl (lv_at hl 0 rfl) ?_
    refine o_const (k := 4) hx hb dX2_reading_5 (by decide) ?_
    refine o_icmp_ge (tgt := 35) hx hb dX2_reading_6 (by decide) (Nat.le_of_ble_eq_true rfl) (Nat.le_of_ble_eq_true rfl) (fun c0 => absurd c0 (by decide)) (fun _ => ?_)
    refine lv_iload_n hx hb dX2_reading_9 rfl (lv_at hl 1 rfl) ?_
    refine lv_aload_n hx hb dX2_reading_10 rfl (lv_at hl 2 rfl) ?_
    refine va_get (D := D) (ci := 2) (v := .ref (q 6)) (C := RX2) (T := TX2) (N := 4) hx hb hts inX2_reading_X2 hown hK hP 0 rfl rfl 1 (by decide) (hts (.fieldLink RX2 20 "OddNotice$State" "readers" "[LOddNotice$Reader;") (List.mem_of_getElem? (i := 1) (by decide +kernel))) (fun _ h9 => h9) rfl dX2_reading_11 ?_
    refine lv_iload_n hx hb dX2_reading_14 rfl (lv_at hl 0 rfl) ?_
    refine o_aldq (v := (q 10)) (C := "OddNotice$Reader") hx hb hK hP 1 1 rfl rfl (Nat.le_of_ble_eq_true rfl) (Nat.le_of_ble_eq_true rfl) rfl dX2_reading_15 ?_
    refine va_get (D := D) (ci := 1) (v := .int (nI (v 8 1))) (C := RX1) (T := TX1) (N := 10) hx hb hts inX2_reading_X1 hown hK hP 10 rfl rfl 1 (by decide) (hts (.fieldLink RX2 29 "OddNotice$Reader" "reads" "Z") (List.mem_of_getElem? (i := 2) (by decide +kernel))) (fun _ h9 => h9) rfl dX2_reading_16 ?_
    refine o_if_eq (tgt := 26) hx hb dX2_reading_19 (by decide) (by omega) (fun c_9 => ?_) (fun c_9 => ?_)
    · skip
      refine o_const (k := 0) hx hb dX2_reading_26 (by decide) ?_
      refine o_iadd (a := 1) (b := 0) (k := 1) hx hb dX2_reading_27 rfl ?_
      refine lv_istore_n (lv' := [(1, .int (nI 1)), (2, .int (nI 1)), (0, .ref (q 0))]) hx hb dX2_reading_28 rfl hl (by decide) rfl (fun ls hl => ?_)
      refine lv_iinc (v := nI 2) (lv' := [(2, .int (nI 2)), (1, .int (nI 1)), (0, .ref (q 0))]) hx hb dX2_reading_29 hl (k := 1) rfl (by decide) (by decide) rfl (fun ls hl => ?_)
      refine lv_goto (tgt := 4) hx hb dX2_reading_32 (by decide) ?_
      refine lv_iload_n hx hb dX2_reading_4 rfl (lv_at hl 0 rfl) ?_
      refine o_const (k := 4) hx hb dX2_reading_5 (by decide) ?_
      refine o_icmp_ge (tgt := 35) hx hb dX2_reading_6 (by decide) (Nat.le_of_ble_eq_true rfl) (Nat.le_of_ble_eq_true rfl) (fun c0 => absurd c0 (by decide)) (fun _ => ?_)
      refine lv_iload_n hx hb dX2_reading_9 rfl (lv_at hl 1 rfl) ?_
      refine lv_aload_n hx hb dX2_reading_10 rfl (lv_at hl 2 rfl) ?_
      refine va_get (D := D) (ci := 2) (v := .ref (q 6)) (C := RX2) (T := TX2) (N := 4) hx hb hts inX2_reading_X2 hown hK hP 0 rfl rfl 1 (by decide) (hts (.fieldLink RX2 20 "OddNotice$State" "readers" "[LOddNotice$Reader;") (List.mem_of_getElem? (i := 1) (by decide +kernel))) (fun _ h9 => h9) rfl dX2_reading_11 ?_
      refine lv_iload_n hx hb dX2_reading_14 rfl (lv_at hl 0 rfl) ?_
      refine o_aldq (v := (q 13)) (C := "OddNotice$Reader") hx hb hK hP 1 1 rfl rfl (Nat.le_of_ble_eq_true rfl) (Nat.le_of_ble_eq_true rfl) rfl dX2_reading_15 ?_
      refine va_get (D := D) (ci := 1) (v := .int (nI (v 11 1))) (C := RX1) (T := TX1) (N := 10) hx hb hts inX2_reading_X1 hown hK hP 13 rfl rfl 1 (by decide) (hts (.fieldLink RX2 29 "OddNotice$Reader" "reads" "Z") (List.mem_of_getElem? (i := 2) (by decide +kernel))) (fun _ h9 => h9) rfl dX2_reading_16 ?_
      refine o_if_eq (tgt := 26) hx hb dX2_reading_19 (by decide) (by omega) (fun c_10 => ?_) (fun c_10 => ?_)
      · skip
        refine o_const (k := 0) hx hb dX2_reading_26 (by decide) ?_
        refine o_iadd (a := 1) (b := 0) (k := 1) hx hb dX2_reading_27 rfl ?_
        refine lv_istore_n (lv' := [(1, .int (nI 1)), (2, .int (nI 2)), (0, .ref (q 0))]) hx hb dX2_reading_28 rfl hl (by decide) rfl (fun ls hl => ?_)
        refine lv_iinc (v := nI 3) (lv' := [(2, .int (nI 3)), (1, .int (nI 1)), (0, .ref (q 0))]) hx hb dX2_reading_29 hl (k := 1) rfl (by decide) (by decide) rfl (fun ls hl => ?_)
        refine lv_goto (tgt := 4) hx hb dX2_reading_32 (by decide) ?_
        refine lv_iload_n hx hb dX2_reading_4 rfl (lv_at hl 0 rfl) ?_
        refine o_const (k := 4) hx hb dX2_reading_5 (by decide) ?_
        refine o_icmp_ge (tgt := 35) hx hb dX2_reading_6 (by decide) (Nat.le_of_ble_eq_true rfl) (Nat.le_of_ble_eq_true rfl) (fun c0 => absurd c0 (by decide)) (fun _ => ?_)
        refine lv_iload_n hx hb dX2_reading_9 rfl (lv_at hl 1 rfl) ?_
        refine lv_aload_n hx hb dX2_reading_10 rfl (lv_at hl 2 rfl) ?_
        refine va_get (D := D) (ci := 2) (v := .ref (q 6)) (C := RX2) (T := TX2) (N := 4) hx hb hts inX2_reading_X2 hown hK hP 0 rfl rfl 1 (by decide) (hts (.fieldLink RX2 20 "OddNotice$State" "readers" "[LOddNotice$Reader;") (List.mem_of_getElem? (i := 1) (by decide +kernel))) (fun _ h9 => h9) rfl dX2_reading_11 ?_
        refine lv_iload_n hx hb dX2_reading_14 rfl (lv_at hl 0 rfl) ?_
        refine o_aldq (v := (q 16)) (C := "OddNotice$Reader") hx hb hK hP 1 1 rfl rfl (Nat.le_of_ble_eq_true rfl) (Nat.le_of_ble_eq_true rfl) rfl dX2_reading_15 ?_
        refine va_get (D := D) (ci := 1) (v := .int (nI (v 14 1))) (C := RX1) (T := TX1) (N := 10) hx hb hts inX2_reading_X1 hown hK hP 16 rfl rfl 1 (by decide) (hts (.fieldLink RX2 29 "OddNotice$Reader" "reads" "Z") (List.mem_of_getElem? (i := 2) (by decide +kernel))) (fun _ h9 => h9) rfl dX2_reading_16 ?_
        refine o_if_eq (tgt := 26) hx hb dX2_reading_19 (by decide) (by omega) (fun c_11 => ?_) (fun c_11 => ?_)
        · skip
          refine o_const (k := 0) hx hb dX2_reading_26 (by decide) ?_
          refine o_iadd (a := 1) (b := 0) (k := 1) hx hb dX2_reading_27 rfl ?_
          refine lv_istore_n (lv' := [(1, .int (nI 1)), (2, .int (nI 3)), (0, .ref (q 0))]) hx hb dX2_reading_28 rfl hl (by decide) rfl (fun ls hl => ?_)
          refine lv_iinc (v := nI 4) (lv' := [(2, .int (nI 4)), (1, .int (nI 1)), (0, .ref (q 0))]) hx hb dX2_reading_29 hl (k := 1) rfl (by decide) (by decide) rfl (fun ls hl => ?_)
          refine lv_goto (tgt := 4) hx hb dX2_reading_32 (by decide) ?_
          refine lv_iload_n hx hb dX2_reading_4 rfl (lv_at hl 0 rfl) ?_
          refine o_const (k := 4) hx hb dX2_reading_5 (by decide) ?_
          refine o_icmp_ge (tgt := 35) hx hb dX2_reading_6 (by decide) (Nat.le_of_ble_eq_true rfl) (Nat.le_of_ble_eq_true rfl) (fun _ => ?_) (fun c0 => absurd c0 (by decide))
          refine lv_iload_n hx hb dX2_reading_35 rfl (lv_at hl 1 rfl) ?_
          exact W.iret (v := nI 1) hx hb hrt (fun t ht hW => ⟨_, rfl, (congrArg nI (by unfold s_sum; omega)), ht⟩) (fun _ h => nomatch h) dX2_reading_36
        · skip
          refine o_const (k := 1) hx hb dX2_reading_22 (by decide) ?_
          refine lv_goto (tgt := 27) hx hb dX2_reading_23 (by decide) ?_
          refine o_iadd (a := 1) (b := 1) (k := 2) hx hb dX2_reading_27 rfl ?_
          refine lv_istore_n (lv' := [(1, .int (nI 2)), (2, .int (nI 3)), (0, .ref (q 0))]) hx hb dX2_reading_28 rfl hl (by decide) rfl (fun ls hl => ?_)
          refine lv_iinc (v := nI 4) (lv' := [(2, .int (nI 4)), (1, .int (nI 2)), (0, .ref (q 0))]) hx hb dX2_reading_29 hl (k := 1) rfl (by decide) (by decide) rfl (fun ls hl => ?_)
          refine lv_goto (tgt := 4) hx hb dX2_reading_32 (by decide) ?_
          refine lv_iload_n hx hb dX2_reading_4 rfl (lv_at hl 0 rfl) ?_
          refine o_const (k := 4) hx hb dX2_reading_5 (by decide) ?_
          refine o_icmp_ge (tgt := 35) hx hb dX2_reading_6 (by decide) (Nat.le_of_ble_eq_true rfl) (Nat.le_of_ble_eq_true rfl) (fun _ => ?_) (fun c0 => absurd c0 (by decide))
          refine lv_iload_n hx hb dX2_reading_35 rfl (lv_at hl 1 rfl) ?_
          exact W.iret (v := nI 2) hx hb hrt (fun t ht hW => ⟨_, rfl, (congrArg nI (by unfold s_sum; omega)), ht⟩) (fun _ h => nomatch h) dX2_reading_36
      · skip
        refine o_const (k := 1) hx hb dX2_reading_22 (by decide) ?_
        refine lv_goto (tgt := 27) hx hb dX2_reading_23 (by decide) ?_
        refine o_iadd (a := 1) (b := 1) (k := 2) hx hb dX2_reading_27 rfl ?_
        refine lv_istore_n (lv' := [(1, .int (nI 2)), (2, .int (nI 2)), (0, .ref (q 0))]) hx hb dX2_reading_28 rfl hl (by decide) rfl (fun ls hl => ?_)
        refine lv_iinc (v := nI 3) (lv' := [(2, .int (nI 3)), (1, .int (nI 2)), (0, .ref (q 0))]) hx hb dX2_reading_29 hl (k := 1) rfl (by decide) (by decide) rfl (fun ls hl => ?_)
        refine lv_goto (tgt := 4) hx hb dX2_reading_32 (by decide) ?_
        refine lv_iload_n hx hb dX2_reading_4 rfl (lv_at hl 0 rfl) ?_
        refine o_const (k := 4) hx hb dX2_reading_5 (by decide) ?_
        refine o_icmp_ge (tgt := 35) hx hb dX2_reading_6 (by decide) (Nat.le_of_ble_eq_true rfl) (Nat.le_of_ble_eq_true rfl) (fun c0 => absurd c0 (by decide)) (fun _ => ?_)
        refine lv_iload_n hx hb dX2_reading_9 rfl (lv_at hl 1 rfl) ?_
        refine lv_aload_n hx hb dX2_reading_10 rfl (lv_at hl 2 rfl) ?_
        refine va_get (D := D) (ci := 2) (v := .ref (q 6)) (C := RX2) (T := TX2) (N := 4) hx hb hts inX2_reading_X2 hown hK hP 0 rfl rfl 1 (by decide) (hts (.fieldLink RX2 20 "OddNotice$State" "readers" "[LOddNotice$Reader;") (List.mem_of_getElem? (i := 1) (by decide +kernel))) (fun _ h9 => h9) rfl dX2_reading_11 ?_
        refine lv_iload_n hx hb dX2_reading_14 rfl (lv_at hl 0 rfl) ?_
        refine o_aldq (v := (q 16)) (C := "OddNotice$Reader") hx hb hK hP 1 1 rfl rfl (Nat.le_of_ble_eq_true rfl) (Nat.le_of_ble_eq_true rfl) rfl dX2_reading_15 ?_
        refine va_get (D := D) (ci := 1) (v := .int (nI (v 14 1))) (C := RX1) (T := TX1) (N := 10) hx hb hts inX2_reading_X1 hown hK hP 16 rfl rfl 1 (by decide) (hts (.fieldLink RX2 29 "OddNotice$Reader" "reads" "Z") (List.mem_of_getElem? (i := 2) (by decide +kernel))) (fun _ h9 => h9) rfl dX2_reading_16 ?_
        refine o_if_eq (tgt := 26) hx hb dX2_reading_19 (by decide) (by omega) (fun c_12 => ?_) (fun c_12 => ?_)
        · skip
          refine o_const (k := 0) hx hb dX2_reading_26 (by decide) ?_
          refine o_iadd (a := 2) (b := 0) (k := 2) hx hb dX2_reading_27 rfl ?_
          refine lv_istore_n (lv' := [(1, .int (nI 2)), (2, .int (nI 3)), (0, .ref (q 0))]) hx hb dX2_reading_28 rfl hl (by decide) rfl (fun ls hl => ?_)
          refine lv_iinc (v := nI 4) (lv' := [(2, .int (nI 4)), (1, .int (nI 2)), (0, .ref (q 0))]) hx hb dX2_reading_29 hl (k := 1) rfl (by decide) (by decide) rfl (fun ls hl => ?_)
          refine lv_goto (tgt := 4) hx hb dX2_reading_32 (by decide) ?_
          refine lv_iload_n hx hb dX2_reading_4 rfl (lv_at hl 0 rfl) ?_
          refine o_const (k := 4) hx hb dX2_reading_5 (by decide) ?_
          refine o_icmp_ge (tgt := 35) hx hb dX2_reading_6 (by decide) (Nat.le_of_ble_eq_true rfl) (Nat.le_of_ble_eq_true rfl) (fun _ => ?_) (fun c0 => absurd c0 (by decide))
          refine lv_iload_n hx hb dX2_reading_35 rfl (lv_at hl 1 rfl) ?_
          exact W.iret (v := nI 2) hx hb hrt (fun t ht hW => ⟨_, rfl, (congrArg nI (by unfold s_sum; omega)), ht⟩) (fun _ h => nomatch h) dX2_reading_36
        · skip
          refine o_const (k := 1) hx hb dX2_reading_22 (by decide) ?_
          refine lv_goto (tgt := 27) hx hb dX2_reading_23 (by decide) ?_
          refine o_iadd (a := 2) (b := 1) (k := 3) hx hb dX2_reading_27 rfl ?_
          refine lv_istore_n (lv' := [(1, .int (nI 3)), (2, .int (nI 3)), (0, .ref (q 0))]) hx hb dX2_reading_28 rfl hl (by decide) rfl (fun ls hl => ?_)
          refine lv_iinc (v := nI 4) (lv' := [(2, .int (nI 4)), (1, .int (nI 3)), (0, .ref (q 0))]) hx hb dX2_reading_29 hl (k := 1) rfl (by decide) (by decide) rfl (fun ls hl => ?_)
          refine lv_goto (tgt := 4) hx hb dX2_reading_32 (by decide) ?_
          refine lv_iload_n hx hb dX2_reading_4 rfl (lv_at hl 0 rfl) ?_
          refine o_const (k := 4) hx hb dX2_reading_5 (by decide) ?_
          refine o_icmp_ge (tgt := 35) hx hb dX2_reading_6 (by decide) (Nat.le_of_ble_eq_true rfl) (Nat.le_of_ble_eq_true rfl) (fun _ => ?_) (fun c0 => absurd c0 (by decide))
          refine lv_iload_n hx hb dX2_reading_35 rfl (lv_at hl 1 rfl) ?_
          exact W.iret (v := nI 3) hx hb hrt (fun t ht hW => ⟨_, rfl, (congrArg nI (by unfold s_sum; omega)), ht⟩) (fun _ h => nomatch h) dX2_reading_36
    · skip
      refine o_const (k := 1) hx hb dX2_reading_22 (by decide) ?_
      refine lv_goto (tgt := 27) hx hb dX2_reading_23 (by decide) ?_
      refine o_iadd (a := 1) (b := 1) (k := 2) hx hb dX2_reading_27 rfl ?_
      refine lv_istore_n (lv' := [(1, .int (nI 2)), (2, .int (nI 1)), (0, .ref (q 0))]) hx hb dX2_reading_28 rfl hl (by decide) rfl (fun ls hl => ?_)
      refine lv_iinc (v := nI 2) (lv' := [(2, .int (nI 2)), (1, .int (nI 2)), (0, .ref (q 0))]) hx hb dX2_reading_29 hl (k := 1) rfl (by decide) (by decide) rfl (fun ls hl => ?_)
      refine lv_goto (tgt := 4) hx hb dX2_reading_32 (by decide) ?_
      refine lv_iload_n hx hb dX2_reading_4 rfl (lv_at hl 0 rfl) ?_
      refine o_const (k := 4) hx hb dX2_reading_5 (by decide) ?_
      refine o_icmp_ge (tgt := 35) hx hb dX2_reading_6 (by decide) (Nat.le_of_ble_eq_true rfl) (Nat.le_of_ble_eq_true rfl) (fun c0 => absurd c0 (by decide)) (fun _ => ?_)
      refine lv_iload_n hx hb dX2_reading_9 rfl (lv_at hl 1 rfl) ?_
      refine lv_aload_n hx hb dX2_reading_10 rfl (lv_at hl 2 rfl) ?_
      refine va_get (D := D) (ci := 2) (v := .ref (q 6)) (C := RX2) (T := TX2) (N := 4) hx hb hts inX2_reading_X2 hown hK hP 0 rfl rfl 1 (by decide) (hts (.fieldLink RX2 20 "OddNotice$State" "readers" "[LOddNotice$Reader;") (List.mem_of_getElem? (i := 1) (by decide +kernel))) (fun _ h9 => h9) rfl dX2_reading_11 ?_
      refine lv_iload_n hx hb dX2_reading_14 rfl (lv_at hl 0 rfl) ?_
      refine o_aldq (v := (q 13)) (C := "OddNotice$Reader") hx hb hK hP 1 1 rfl rfl (Nat.le_of_ble_eq_true rfl) (Nat.le_of_ble_eq_true rfl) rfl dX2_reading_15 ?_
      refine va_get (D := D) (ci := 1) (v := .int (nI (v 11 1))) (C := RX1) (T := TX1) (N := 10) hx hb hts inX2_reading_X1 hown hK hP 13 rfl rfl 1 (by decide) (hts (.fieldLink RX2 29 "OddNotice$Reader" "reads" "Z") (List.mem_of_getElem? (i := 2) (by decide +kernel))) (fun _ h9 => h9) rfl dX2_reading_16 ?_
      refine o_if_eq (tgt := 26) hx hb dX2_reading_19 (by decide) (by omega) (fun c_13 => ?_) (fun c_13 => ?_)
      · skip
        refine o_const (k := 0) hx hb dX2_reading_26 (by decide) ?_
        refine o_iadd (a := 2) (b := 0) (k := 2) hx hb dX2_reading_27 rfl ?_
        refine lv_istore_n (lv' := [(1, .int (nI 2)), (2, .int (nI 2)), (0, .ref (q 0))]) hx hb dX2_reading_28 rfl hl (by decide) rfl (fun ls hl => ?_)
        refine lv_iinc (v := nI 3) (lv' := [(2, .int (nI 3)), (1, .int (nI 2)), (0, .ref (q 0))]) hx hb dX2_reading_29 hl (k := 1) rfl (by decide) (by decide) rfl (fun ls hl => ?_)
        refine lv_goto (tgt := 4) hx hb dX2_reading_32 (by decide) ?_
        refine lv_iload_n hx hb dX2_reading_4 rfl (lv_at hl 0 rfl) ?_
        refine o_const (k := 4) hx hb dX2_reading_5 (by decide) ?_
        refine o_icmp_ge (tgt := 35) hx hb dX2_reading_6 (by decide) (Nat.le_of_ble_eq_true rfl) (Nat.le_of_ble_eq_true rfl) (fun c0 => absurd c0 (by decide)) (fun _ => ?_)
        refine lv_iload_n hx hb dX2_reading_9 rfl (lv_at hl 1 rfl) ?_
        refine lv_aload_n hx hb dX2_reading_10 rfl (lv_at hl 2 rfl) ?_
        refine va_get (D := D) (ci := 2) (v := .ref (q 6)) (C := RX2) (T := TX2) (N := 4) hx hb hts inX2_reading_X2 hown hK hP 0 rfl rfl 1 (by decide) (hts (.fieldLink RX2 20 "OddNotice$State" "readers" "[LOddNotice$Reader;") (List.mem_of_getElem? (i := 1) (by decide +kernel))) (fun _ h9 => h9) rfl dX2_reading_11 ?_
        refine lv_iload_n hx hb dX2_reading_14 rfl (lv_at hl 0 rfl) ?_
        refine o_aldq (v := (q 16)) (C := "OddNotice$Reader") hx hb hK hP 1 1 rfl rfl (Nat.le_of_ble_eq_true rfl) (Nat.le_of_ble_eq_true rfl) rfl dX2_reading_15 ?_
        refine va_get (D := D) (ci := 1) (v := .int (nI (v 14 1))) (C := RX1) (T := TX1) (N := 10) hx hb hts inX2_reading_X1 hown hK hP 16 rfl rfl 1 (by decide) (hts (.fieldLink RX2 29 "OddNotice$Reader" "reads" "Z") (List.mem_of_getElem? (i := 2) (by decide +kernel))) (fun _ h9 => h9) rfl dX2_reading_16 ?_
        refine o_if_eq (tgt := 26) hx hb dX2_reading_19 (by decide) (by omega) (fun c_14 => ?_) (fun c_14 => ?_)
        · skip
          refine o_const (k := 0) hx hb dX2_reading_26 (by decide) ?_
          refine o_iadd (a := 2) (b := 0) (k := 2) hx hb dX2_reading_27 rfl ?_
          refine lv_istore_n (lv' := [(1, .int (nI 2)), (2, .int (nI 3)), (0, .ref (q 0))]) hx hb dX2_reading_28 rfl hl (by decide) rfl (fun ls hl => ?_)
          refine lv_iinc (v := nI 4) (lv' := [(2, .int (nI 4)), (1, .int (nI 2)), (0, .ref (q 0))]) hx hb dX2_reading_29 hl (k := 1) rfl (by decide) (by decide) rfl (fun ls hl => ?_)
          refine lv_goto (tgt := 4) hx hb dX2_reading_32 (by decide) ?_
          refine lv_iload_n hx hb dX2_reading_4 rfl (lv_at hl 0 rfl) ?_
          refine o_const (k := 4) hx hb dX2_reading_5 (by decide) ?_
          refine o_icmp_ge (tgt := 35) hx hb dX2_reading_6 (by decide) (Nat.le_of_ble_eq_true rfl) (Nat.le_of_ble_eq_true rfl) (fun _ => ?_) (fun c0 => absurd c0 (by decide))
          refine lv_iload_n hx hb dX2_reading_35 rfl (lv_at hl 1 rfl) ?_
          exact W.iret (v := nI 2) hx hb hrt (fun t ht hW => ⟨_, rfl, (congrArg nI (by unfold s_sum; omega)), ht⟩) (fun _ h => nomatch h) dX2_reading_36
        · skip
          refine o_const (k := 1) hx hb dX2_reading_22 (by decide) ?_
          refine lv_goto (tgt := 27) hx hb dX2_reading_23 (by decide) ?_
          refine o_iadd (a := 2) (b := 1) (k := 3) hx hb dX2_reading_27 rfl ?_
          refine lv_istore_n (lv' := [(1, .int (nI 3)), (2, .int (nI 3)), (0, .ref (q 0))]) hx hb dX2_reading_28 rfl hl (by decide) rfl (fun ls hl => ?_)
          refine lv_iinc (v := nI 4) (lv' := [(2, .int (nI 4)), (1, .int (nI 3)), (0, .ref (q 0))]) hx hb dX2_reading_29 hl (k := 1) rfl (by decide) (by decide) rfl (fun ls hl => ?_)
          refine lv_goto (tgt := 4) hx hb dX2_reading_32 (by decide) ?_
          refine lv_iload_n hx hb dX2_reading_4 rfl (lv_at hl 0 rfl) ?_
          refine o_const (k := 4) hx hb dX2_reading_5 (by decide) ?_
          refine o_icmp_ge (tgt := 35) hx hb dX2_reading_6 (by decide) (Nat.le_of_ble_eq_true rfl) (Nat.le_of_ble_eq_true rfl) (fun _ => ?_) (fun c0 => absurd c0 (by decide))
          refine lv_iload_n hx hb dX2_reading_35 rfl (lv_at hl 1 rfl) ?_
          exact W.iret (v := nI 3) hx hb hrt (fun t ht hW => ⟨_, rfl, (congrArg nI (by unfold s_sum; omega)), ht⟩) (fun _ h => nomatch h) dX2_reading_36
      · skip
        refine o_const (k := 1) hx hb dX2_reading_22 (by decide) ?_
        refine lv_goto (tgt := 27) hx hb dX2_reading_23 (by decide) ?_
        refine o_iadd (a := 2) (b := 1) (k := 3) hx hb dX2_reading_27 rfl ?_
        refine lv_istore_n (lv' := [(1, .int (nI 3)), (2, .int (nI 2)), (0, .ref (q 0))]) hx hb dX2_reading_28 rfl hl (by decide) rfl (fun ls hl => ?_)
        refine lv_iinc (v := nI 3) (lv' := [(2, .int (nI 3)), (1, .int (nI 3)), (0, .ref (q 0))]) hx hb dX2_reading_29 hl (k := 1) rfl (by decide) (by decide) rfl (fun ls hl => ?_)
        refine lv_goto (tgt := 4) hx hb dX2_reading_32 (by decide) ?_
        refine lv_iload_n hx hb dX2_reading_4 rfl (lv_at hl 0 rfl) ?_
        refine o_const (k := 4) hx hb dX2_reading_5 (by decide) ?_
        refine o_icmp_ge (tgt := 35) hx hb dX2_reading_6 (by decide) (Nat.le_of_ble_eq_true rfl) (Nat.le_of_ble_eq_true rfl) (fun c0 => absurd c0 (by decide)) (fun _ => ?_)
        refine lv_iload_n hx hb dX2_reading_9 rfl (lv_at hl 1 rfl) ?_
        refine lv_aload_n hx hb dX2_reading_10 rfl (lv_at hl 2 rfl) ?_
        refine va_get (D := D) (ci := 2) (v := .ref (q 6)) (C := RX2) (T := TX2) (N := 4) hx hb hts inX2_reading_X2 hown hK hP 0 rfl rfl 1 (by decide) (hts (.fieldLink RX2 20 "OddNotice$State" "readers" "[LOddNotice$Reader;") (List.mem_of_getElem? (i := 1) (by decide +kernel))) (fun _ h9 => h9) rfl dX2_reading_11 ?_
        refine lv_iload_n hx hb dX2_reading_14 rfl (lv_at hl 0 rfl) ?_
        refine o_aldq (v := (q 16)) (C := "OddNotice$Reader") hx hb hK hP 1 1 rfl rfl (Nat.le_of_ble_eq_true rfl) (Nat.le_of_ble_eq_true rfl) rfl dX2_reading_15 ?_
        refine va_get (D := D) (ci := 1) (v := .int (nI (v 14 1))) (C := RX1) (T := TX1) (N := 10) hx hb hts inX2_reading_X1 hown hK hP 16 rfl rfl 1 (by decide) (hts (.fieldLink RX2 29 "OddNotice$Reader" "reads" "Z") (List.mem_of_getElem? (i := 2) (by decide +kernel))) (fun _ h9 => h9) rfl dX2_reading_16 ?_
        refine o_if_eq (tgt := 26) hx hb dX2_reading_19 (by decide) (by omega) (fun c_15 => ?_) (fun c_15 => ?_)
        · skip
          refine o_const (k := 0) hx hb dX2_reading_26 (by decide) ?_
          refine o_iadd (a := 3) (b := 0) (k := 3) hx hb dX2_reading_27 rfl ?_
          refine lv_istore_n (lv' := [(1, .int (nI 3)), (2, .int (nI 3)), (0, .ref (q 0))]) hx hb dX2_reading_28 rfl hl (by decide) rfl (fun ls hl => ?_)
          refine lv_iinc (v := nI 4) (lv' := [(2, .int (nI 4)), (1, .int (nI 3)), (0, .ref (q 0))]) hx hb dX2_reading_29 hl (k := 1) rfl (by decide) (by decide) rfl (fun ls hl => ?_)
          refine lv_goto (tgt := 4) hx hb dX2_reading_32 (by decide) ?_
          refine lv_iload_n hx hb dX2_reading_4 rfl (lv_at hl 0 rfl) ?_
          refine o_const (k := 4) hx hb dX2_reading_5 (by decide) ?_
          refine o_icmp_ge (tgt := 35) hx hb dX2_reading_6 (by decide) (Nat.le_of_ble_eq_true rfl) (Nat.le_of_ble_eq_true rfl) (fun _ => ?_) (fun c0 => absurd c0 (by decide))
          refine lv_iload_n hx hb dX2_reading_35 rfl (lv_at hl 1 rfl) ?_
          exact W.iret (v := nI 3) hx hb hrt (fun t ht hW => ⟨_, rfl, (congrArg nI (by unfold s_sum; omega)), ht⟩) (fun _ h => nomatch h) dX2_reading_36
        · skip
          refine o_const (k := 1) hx hb dX2_reading_22 (by decide) ?_
          refine lv_goto (tgt := 27) hx hb dX2_reading_23 (by decide) ?_
          refine o_iadd (a := 3) (b := 1) (k := 4) hx hb dX2_reading_27 rfl ?_
          refine lv_istore_n (lv' := [(1, .int (nI 4)), (2, .int (nI 3)), (0, .ref (q 0))]) hx hb dX2_reading_28 rfl hl (by decide) rfl (fun ls hl => ?_)
          refine lv_iinc (v := nI 4) (lv' := [(2, .int (nI 4)), (1, .int (nI 4)), (0, .ref (q 0))]) hx hb dX2_reading_29 hl (k := 1) rfl (by decide) (by decide) rfl (fun ls hl => ?_)
          refine lv_goto (tgt := 4) hx hb dX2_reading_32 (by decide) ?_
          refine lv_iload_n hx hb dX2_reading_4 rfl (lv_at hl 0 rfl) ?_
          refine o_const (k := 4) hx hb dX2_reading_5 (by decide) ?_
          refine o_icmp_ge (tgt := 35) hx hb dX2_reading_6 (by decide) (Nat.le_of_ble_eq_true rfl) (Nat.le_of_ble_eq_true rfl) (fun _ => ?_) (fun c0 => absurd c0 (by decide))
          refine lv_iload_n hx hb dX2_reading_35 rfl (lv_at hl 1 rfl) ?_
          exact W.iret (v := nI 4) hx hb hrt (fun t ht hW => ⟨_, rfl, (congrArg nI (by unfold s_sum; omega)), ht⟩) (fun _ h => nomatch h) dX2_reading_36
theorem inX2_failedOfAll_X2 : ∀ w ∈ wsX20, w ∈ wsX2_failedOfAll := by decide +kernel
theorem inX2_failedOfAll_X1 : ∀ w ∈ wsX10, w ∈ wsX2_failedOfAll := by decide +kernel
set_option maxHeartbeats 4000000 in
set_option maxRecDepth 100000 in
theorem k_X2_failedOfAll (l : Launch) (D : va_G) (cI cR cS cL : ClassId) (q : Nat → Nat) (v : Nat → Nat → Nat) (b : Nat) (hSI : s_I b v) (hb : b < 2 ^ 28) : Met l yX2_failedOfAll wsX2_failedOfAll ({ frames := 0, cells := 0, slots := 0, locals := 0 }) (va_Pc [.ref (q 0)] (o_R D (o_T cI cR cS cL) (wS q cI cR v))) (vp_Si (fun rz => rz = nI (s_sum v 6))) 0 0 (fun _ => False) := by
  refine Met.ofW (cc := cX2_failedOfAll) (maxL := 3) (ret := (some .int)) (by decide) rfl ?_
  intro p e s m args below meth cd s₁ B hml hv
  obtain ⟨rfl, hP, hK, hN⟩ := hv
  have hx := B.exec
  have hb := B.bytes
  have hrt := B.returns
  have hts := atoms_spec (ws := wsX2_failedOfAll) B.pre
  have hown : s.vm.findClass RX2 = some m.cls := findClass_of_methodNamed B.named
  have hlocks := B.notSynchronized
  have hl := lv_entry ([.ref (q 0)]) (n := 3) (Nat.le_of_ble_eq_true rfl)
  rw [lg_entry_eq]
  generalize (lg_sl ([.ref (q 0)]) ++ List.replicate (3 - (lg_sl ([.ref (q 0)])).length) Slot.unset).toArray = ls at hl ⊢
  have hl : lv_has ls 3 [(0, .ref (q 0))] := hl
  obtain ⟨⟨i1, i2, i3, hpl⟩, i5⟩ := hSI
  have j0 := i5 0 (by omega)
  unfold s_IR at j0
  simp only [Nat.reduceMul, Nat.reduceAdd] at j0
  have j1 := i5 1 (by omega)
  unfold s_IR at j1
  simp only [Nat.reduceMul, Nat.reduceAdd] at j1
  have j2 := i5 2 (by omega)
  unfold s_IR at j2
  simp only [Nat.reduceMul, Nat.reduceAdd] at j2
  have j3 := i5 3 (by omega)
  unfold s_IR at j3
  simp only [Nat.reduceMul, Nat.reduceAdd] at j3
  refine o_const (k := 0) hx hb dX2_failedOfAll_0 (by decide) ?_
  refine lv_istore_n (lv' := [(1, .int (nI 0)), (0, .ref (q 0))]) hx hb dX2_failedOfAll_1 rfl hl (by decide) rfl (fun ls hl => ?_)
  refine o_const (k := 0) hx hb dX2_failedOfAll_2 (by decide) ?_
  refine lv_istore_n (lv' := [(2, .int (nI 0)), (1, .int (nI 0)), (0, .ref (q 0))]) hx hb dX2_failedOfAll_3 rfl hl (by decide) rfl (fun ls hl => ?_)
  refine lv_iload_n hx hb dX2_failedOfAll_4 rfl (lv_at hl 0 rfl) ?_
  refine o_const (k := 4) hx hb dX2_failedOfAll_5 (by decide) ?_
  refine o_icmp_ge (tgt := 27) hx hb dX2_failedOfAll_6 (by decide) (Nat.le_of_ble_eq_true rfl) (Nat.le_of_ble_eq_true rfl) (fun c0 => absurd c0 (by decide)) (fun _ => ?_)
  refine lv_iload_n hx hb dX2_failedOfAll_9 rfl (lv_at hl 1 rfl) ?_
  refine lv_aload_n hx hb dX2_failedOfAll_10 rfl (lv_at hl 2 rfl) ?_
  refine va_get (D := D) (ci := 2) (v := .ref (q 6)) (C := RX2) (T := TX2) (N := 4) hx hb hts inX2_failedOfAll_X2 hown hK hP 0 rfl rfl 1 (by decide) (hts (.fieldLink RX2 20 "OddNotice$State" "readers" "[LOddNotice$Reader;") (List.mem_of_getElem? (i := 1) (by decide +kernel))) (fun _ h9 => h9) rfl dX2_failedOfAll_11 ?_
  refine lv_iload_n hx hb dX2_failedOfAll_14 rfl (lv_at hl 0 rfl) ?_
  refine o_aldq (v := (q 7)) (C := "OddNotice$Reader") hx hb hK hP 1 1 rfl rfl (Nat.le_of_ble_eq_true rfl) (Nat.le_of_ble_eq_true rfl) rfl dX2_failedOfAll_15 ?_
  refine va_get (D := D) (ci := 1) (v := .int (nI (v 5 6))) (C := RX1) (T := TX1) (N := 10) hx hb hts inX2_failedOfAll_X1 hown hK hP 7 rfl rfl 6 (by decide) (hts (.fieldLink RX2 78 "OddNotice$Reader" "failed" "I") (List.mem_of_getElem? (i := 2) (by decide +kernel))) (fun _ h9 => h9) rfl dX2_failedOfAll_16 ?_
  refine o_iadd (a := 0) (b := (v 5 6)) (k := (v 5 6)) hx hb dX2_failedOfAll_19 (Nat.zero_add _) ?_
  refine lv_istore_n (lv' := [(1, .int (nI (v 5 6))), (2, .int (nI 0)), (0, .ref (q 0))]) hx hb dX2_failedOfAll_20 rfl hl (by decide) rfl (fun ls hl => ?_)
  refine lv_iinc (v := nI 1) (lv' := [(2, .int (nI 1)), (1, .int (nI (v 5 6))), (0, .ref (q 0))]) hx hb dX2_failedOfAll_21 hl (k := 1) rfl (by decide) (by decide) rfl (fun ls hl => ?_)
  refine lv_goto (tgt := 4) hx hb dX2_failedOfAll_24 (by decide) ?_
  refine lv_iload_n hx hb dX2_failedOfAll_4 rfl (lv_at hl 0 rfl) ?_
  refine o_const (k := 4) hx hb dX2_failedOfAll_5 (by decide) ?_
  refine o_icmp_ge (tgt := 27) hx hb dX2_failedOfAll_6 (by decide) (Nat.le_of_ble_eq_true rfl) (Nat.le_of_ble_eq_true rfl) (fun c0 => absurd c0 (by decide)) (fun _ => ?_)
  refine lv_iload_n hx hb dX2_failedOfAll_9 rfl (lv_at hl 1 rfl) ?_
  refine lv_aload_n hx hb dX2_failedOfAll_10 rfl (lv_at hl 2 rfl) ?_
  refine va_get (D := D) (ci := 2) (v := .ref (q 6)) (C := RX2) (T := TX2) (N := 4) hx hb hts inX2_failedOfAll_X2 hown hK hP 0 rfl rfl 1 (by decide) (hts (.fieldLink RX2 20 "OddNotice$State" "readers" "[LOddNotice$Reader;") (List.mem_of_getElem? (i := 1) (by decide +kernel))) (fun _ h9 => h9) rfl dX2_failedOfAll_11 ?_
  refine lv_iload_n hx hb dX2_failedOfAll_14 rfl (lv_at hl 0 rfl) ?_
  refine o_aldq (v := (q 10)) (C := "OddNotice$Reader") hx hb hK hP 1 1 rfl rfl (Nat.le_of_ble_eq_true rfl) (Nat.le_of_ble_eq_true rfl) rfl dX2_failedOfAll_15 ?_
  refine va_get (D := D) (ci := 1) (v := .int (nI (v 8 6))) (C := RX1) (T := TX1) (N := 10) hx hb hts inX2_failedOfAll_X1 hown hK hP 10 rfl rfl 6 (by decide) (hts (.fieldLink RX2 78 "OddNotice$Reader" "failed" "I") (List.mem_of_getElem? (i := 2) (by decide +kernel))) (fun _ h9 => h9) rfl dX2_failedOfAll_16 ?_
  refine o_iadd (a := (v 5 6)) (b := (v 8 6)) (k := ((v 5 6) + (v 8 6))) hx hb dX2_failedOfAll_19 rfl ?_
  refine lv_istore_n (lv' := [(1, .int (nI ((v 5 6) + (v 8 6)))), (2, .int (nI 1)), (0, .ref (q 0))]) hx hb dX2_failedOfAll_20 rfl hl (by decide) rfl (fun ls hl => ?_)
  refine lv_iinc (v := nI 2) (lv' := [(2, .int (nI 2)), (1, .int (nI ((v 5 6) + (v 8 6)))), (0, .ref (q 0))]) hx hb dX2_failedOfAll_21 hl (k := 1) rfl (by decide) (by decide) rfl (fun ls hl => ?_)
  refine lv_goto (tgt := 4) hx hb dX2_failedOfAll_24 (by decide) ?_
  refine lv_iload_n hx hb dX2_failedOfAll_4 rfl (lv_at hl 0 rfl) ?_
  refine o_const (k := 4) hx hb dX2_failedOfAll_5 (by decide) ?_
  refine o_icmp_ge (tgt := 27) hx hb dX2_failedOfAll_6 (by decide) (Nat.le_of_ble_eq_true rfl) (Nat.le_of_ble_eq_true rfl) (fun c0 => absurd c0 (by decide)) (fun _ => ?_)
  refine lv_iload_n hx hb dX2_failedOfAll_9 rfl (lv_at hl 1 rfl) ?_
  refine lv_aload_n hx hb dX2_failedOfAll_10 rfl (lv_at hl 2 rfl) ?_
  refine va_get (D := D) (ci := 2) (v := .ref (q 6)) (C := RX2) (T := TX2) (N := 4) hx hb hts inX2_failedOfAll_X2 hown hK hP 0 rfl rfl 1 (by decide) (hts (.fieldLink RX2 20 "OddNotice$State" "readers" "[LOddNotice$Reader;") (List.mem_of_getElem? (i := 1) (by decide +kernel))) (fun _ h9 => h9) rfl dX2_failedOfAll_11 ?_
  refine lv_iload_n hx hb dX2_failedOfAll_14 rfl (lv_at hl 0 rfl) ?_
  refine o_aldq (v := (q 13)) (C := "OddNotice$Reader") hx hb hK hP 1 1 rfl rfl (Nat.le_of_ble_eq_true rfl) (Nat.le_of_ble_eq_true rfl) rfl dX2_failedOfAll_15 ?_
  refine va_get (D := D) (ci := 1) (v := .int (nI (v 11 6))) (C := RX1) (T := TX1) (N := 10) hx hb hts inX2_failedOfAll_X1 hown hK hP 13 rfl rfl 6 (by decide) (hts (.fieldLink RX2 78 "OddNotice$Reader" "failed" "I") (List.mem_of_getElem? (i := 2) (by decide +kernel))) (fun _ h9 => h9) rfl dX2_failedOfAll_16 ?_
  refine o_iadd (a := ((v 5 6) + (v 8 6))) (b := (v 11 6)) (k := ((v 5 6) + (v 8 6) + (v 11 6))) hx hb dX2_failedOfAll_19 rfl ?_
  refine lv_istore_n (lv' := [(1, .int (nI ((v 5 6) + (v 8 6) + (v 11 6)))), (2, .int (nI 2)), (0, .ref (q 0))]) hx hb dX2_failedOfAll_20 rfl hl (by decide) rfl (fun ls hl => ?_)
  refine lv_iinc (v := nI 3) (lv' := [(2, .int (nI 3)), (1, .int (nI ((v 5 6) + (v 8 6) + (v 11 6)))), (0, .ref (q 0))]) hx hb dX2_failedOfAll_21 hl (k := 1) rfl (by decide) (by decide) rfl (fun ls hl => ?_)
  refine lv_goto (tgt := 4) hx hb dX2_failedOfAll_24 (by decide) ?_
  refine lv_iload_n hx hb dX2_failedOfAll_4 rfl (lv_at hl 0 rfl) ?_
  refine o_const (k := 4) hx hb dX2_failedOfAll_5 (by decide) ?_
  refine o_icmp_ge (tgt := 27) hx hb dX2_failedOfAll_6 (by decide) (Nat.le_of_ble_eq_true rfl) (Nat.le_of_ble_eq_true rfl) (fun c0 => absurd c0 (by decide)) (fun _ => ?_)
  refine lv_iload_n hx hb dX2_failedOfAll_9 rfl (lv_at hl 1 rfl) ?_
  refine lv_aload_n hx hb dX2_failedOfAll_10 rfl (lv_at hl 2 rfl) ?_
  refine va_get (D := D) (ci := 2) (v := .ref (q 6)) (C := RX2) (T := TX2) (N := 4) hx hb hts inX2_failedOfAll_X2 hown hK hP 0 rfl rfl 1 (by decide) (hts (.fieldLink RX2 20 "OddNotice$State" "readers" "[LOddNotice$Reader;") (List.mem_of_getElem? (i := 1) (by decide +kernel))) (fun _ h9 => h9) rfl dX2_failedOfAll_11 ?_
  refine lv_iload_n hx hb dX2_failedOfAll_14 rfl (lv_at hl 0 rfl) ?_
  refine o_aldq (v := (q 16)) (C := "OddNotice$Reader") hx hb hK hP 1 1 rfl rfl (Nat.le_of_ble_eq_true rfl) (Nat.le_of_ble_eq_true rfl) rfl dX2_failedOfAll_15 ?_
  refine va_get (D := D) (ci := 1) (v := .int (nI (v 14 6))) (C := RX1) (T := TX1) (N := 10) hx hb hts inX2_failedOfAll_X1 hown hK hP 16 rfl rfl 6 (by decide) (hts (.fieldLink RX2 78 "OddNotice$Reader" "failed" "I") (List.mem_of_getElem? (i := 2) (by decide +kernel))) (fun _ h9 => h9) rfl dX2_failedOfAll_16 ?_
  refine o_iadd (a := ((v 5 6) + (v 8 6) + (v 11 6))) (b := (v 14 6)) (k := ((v 5 6) + (v 8 6) + (v 11 6) + (v 14 6))) hx hb dX2_failedOfAll_19 rfl ?_
  refine lv_istore_n (lv' := [(1, .int (nI ((v 5 6) + (v 8 6) + (v 11 6) + (v 14 6)))), (2, .int (nI 3)), (0, .ref (q 0))]) hx hb dX2_failedOfAll_20 rfl hl (by decide) rfl (fun ls hl => ?_)
  refine lv_iinc (v := nI 4) (lv' := [(2, .int (nI 4)), (1, .int (nI ((v 5 6) + (v 8 6) + (v 11 6) + (v 14 6)))), (0, .ref (q 0))]) hx hb dX2_failedOfAll_21 hl (k := 1) rfl (by decide) (by decide) rfl (fun ls hl => ?_)
  refine lv_goto (tgt := 4) hx hb dX2_failedOfAll_24 (by decide) ?_
  refine lv_iload_n hx hb dX2_failedOfAll_4 rfl (lv_at hl 0 rfl) ?_
  refine o_const (k := 4) hx hb dX2_failedOfAll_5 (by decide) ?_
  refine o_icmp_ge (tgt := 27) hx hb dX2_failedOfAll_6 (by decide) (Nat.le_of_ble_eq_true rfl) (Nat.le_of_ble_eq_true rfl) (fun _ => ?_) (fun c0 => absurd c0 (by decide))
  refine lv_iload_n hx hb dX2_failedOfAll_27 rfl (lv_at hl 1 rfl) ?_
  exact W.iret (v := nI ((v 5 6) + (v 8 6) + (v 11 6) + (v 14 6))) hx hb hrt (fun t ht hW => ⟨_, rfl, (congrArg nI (by unfold s_sum; omega)), ht⟩) (fun _ h => nomatch h) dX2_failedOfAll_28
theorem inX2_wellOfAll_X2 : ∀ w ∈ wsX20, w ∈ wsX2_wellOfAll := by decide +kernel
theorem inX2_wellOfAll_X1 : ∀ w ∈ wsX10, w ∈ wsX2_wellOfAll := by decide +kernel
set_option maxHeartbeats 4000000 in
set_option maxRecDepth 100000 in
theorem k_X2_wellOfAll (l : Launch) (D : va_G) (cI cR cS cL : ClassId) (q : Nat → Nat) (v : Nat → Nat → Nat) (b : Nat) (hSI : s_I b v) (hb : b < 2 ^ 28) : Met l yX2_wellOfAll wsX2_wellOfAll ({ frames := 0, cells := 0, slots := 0, locals := 0 }) (va_Pc [.ref (q 0)] (o_R D (o_T cI cR cS cL) (wS q cI cR v))) (vp_Si (fun rz => rz = nI (s_sum v 7))) 0 0 (fun _ => False) := by
  refine Met.ofW (cc := cX2_wellOfAll) (maxL := 3) (ret := (some .int)) (by decide) rfl ?_
  intro p e s m args below meth cd s₁ B hml hv
  obtain ⟨rfl, hP, hK, hN⟩ := hv
  have hx := B.exec
  have hb := B.bytes
  have hrt := B.returns
  have hts := atoms_spec (ws := wsX2_wellOfAll) B.pre
  have hown : s.vm.findClass RX2 = some m.cls := findClass_of_methodNamed B.named
  have hlocks := B.notSynchronized
  have hl := lv_entry ([.ref (q 0)]) (n := 3) (Nat.le_of_ble_eq_true rfl)
  rw [lg_entry_eq]
  generalize (lg_sl ([.ref (q 0)]) ++ List.replicate (3 - (lg_sl ([.ref (q 0)])).length) Slot.unset).toArray = ls at hl ⊢
  have hl : lv_has ls 3 [(0, .ref (q 0))] := hl
  obtain ⟨⟨i1, i2, i3, hpl⟩, i5⟩ := hSI
  have j0 := i5 0 (by omega)
  unfold s_IR at j0
  simp only [Nat.reduceMul, Nat.reduceAdd] at j0
  have j1 := i5 1 (by omega)
  unfold s_IR at j1
  simp only [Nat.reduceMul, Nat.reduceAdd] at j1
  have j2 := i5 2 (by omega)
  unfold s_IR at j2
  simp only [Nat.reduceMul, Nat.reduceAdd] at j2
  have j3 := i5 3 (by omega)
  unfold s_IR at j3
  simp only [Nat.reduceMul, Nat.reduceAdd] at j3
  refine o_const (k := 0) hx hb dX2_wellOfAll_0 (by decide) ?_
  refine lv_istore_n (lv' := [(1, .int (nI 0)), (0, .ref (q 0))]) hx hb dX2_wellOfAll_1 rfl hl (by decide) rfl (fun ls hl => ?_)
  refine o_const (k := 0) hx hb dX2_wellOfAll_2 (by decide) ?_
  refine lv_istore_n (lv' := [(2, .int (nI 0)), (1, .int (nI 0)), (0, .ref (q 0))]) hx hb dX2_wellOfAll_3 rfl hl (by decide) rfl (fun ls hl => ?_)
  refine lv_iload_n hx hb dX2_wellOfAll_4 rfl (lv_at hl 0 rfl) ?_
  refine o_const (k := 4) hx hb dX2_wellOfAll_5 (by decide) ?_
  refine o_icmp_ge (tgt := 27) hx hb dX2_wellOfAll_6 (by decide) (Nat.le_of_ble_eq_true rfl) (Nat.le_of_ble_eq_true rfl) (fun c0 => absurd c0 (by decide)) (fun _ => ?_)
  refine lv_iload_n hx hb dX2_wellOfAll_9 rfl (lv_at hl 1 rfl) ?_
  refine lv_aload_n hx hb dX2_wellOfAll_10 rfl (lv_at hl 2 rfl) ?_
  refine va_get (D := D) (ci := 2) (v := .ref (q 6)) (C := RX2) (T := TX2) (N := 4) hx hb hts inX2_wellOfAll_X2 hown hK hP 0 rfl rfl 1 (by decide) (hts (.fieldLink RX2 20 "OddNotice$State" "readers" "[LOddNotice$Reader;") (List.mem_of_getElem? (i := 1) (by decide +kernel))) (fun _ h9 => h9) rfl dX2_wellOfAll_11 ?_
  refine lv_iload_n hx hb dX2_wellOfAll_14 rfl (lv_at hl 0 rfl) ?_
  refine o_aldq (v := (q 7)) (C := "OddNotice$Reader") hx hb hK hP 1 1 rfl rfl (Nat.le_of_ble_eq_true rfl) (Nat.le_of_ble_eq_true rfl) rfl dX2_wellOfAll_15 ?_
  refine va_get (D := D) (ci := 1) (v := .int (nI (v 5 7))) (C := RX1) (T := TX1) (N := 10) hx hb hts inX2_wellOfAll_X1 hown hK hP 7 rfl rfl 7 (by decide) (hts (.fieldLink RX2 81 "OddNotice$Reader" "well" "I") (List.mem_of_getElem? (i := 2) (by decide +kernel))) (fun _ h9 => h9) rfl dX2_wellOfAll_16 ?_
  refine o_iadd (a := 0) (b := (v 5 7)) (k := (v 5 7)) hx hb dX2_wellOfAll_19 (Nat.zero_add _) ?_
  refine lv_istore_n (lv' := [(1, .int (nI (v 5 7))), (2, .int (nI 0)), (0, .ref (q 0))]) hx hb dX2_wellOfAll_20 rfl hl (by decide) rfl (fun ls hl => ?_)
  refine lv_iinc (v := nI 1) (lv' := [(2, .int (nI 1)), (1, .int (nI (v 5 7))), (0, .ref (q 0))]) hx hb dX2_wellOfAll_21 hl (k := 1) rfl (by decide) (by decide) rfl (fun ls hl => ?_)
  refine lv_goto (tgt := 4) hx hb dX2_wellOfAll_24 (by decide) ?_
  refine lv_iload_n hx hb dX2_wellOfAll_4 rfl (lv_at hl 0 rfl) ?_
  refine o_const (k := 4) hx hb dX2_wellOfAll_5 (by decide) ?_
  refine o_icmp_ge (tgt := 27) hx hb dX2_wellOfAll_6 (by decide) (Nat.le_of_ble_eq_true rfl) (Nat.le_of_ble_eq_true rfl) (fun c0 => absurd c0 (by decide)) (fun _ => ?_)
  refine lv_iload_n hx hb dX2_wellOfAll_9 rfl (lv_at hl 1 rfl) ?_
  refine lv_aload_n hx hb dX2_wellOfAll_10 rfl (lv_at hl 2 rfl) ?_
  refine va_get (D := D) (ci := 2) (v := .ref (q 6)) (C := RX2) (T := TX2) (N := 4) hx hb hts inX2_wellOfAll_X2 hown hK hP 0 rfl rfl 1 (by decide) (hts (.fieldLink RX2 20 "OddNotice$State" "readers" "[LOddNotice$Reader;") (List.mem_of_getElem? (i := 1) (by decide +kernel))) (fun _ h9 => h9) rfl dX2_wellOfAll_11 ?_
  refine lv_iload_n hx hb dX2_wellOfAll_14 rfl (lv_at hl 0 rfl) ?_
  refine o_aldq (v := (q 10)) (C := "OddNotice$Reader") hx hb hK hP 1 1 rfl rfl (Nat.le_of_ble_eq_true rfl) (Nat.le_of_ble_eq_true rfl) rfl dX2_wellOfAll_15 ?_
  refine va_get (D := D) (ci := 1) (v := .int (nI (v 8 7))) (C := RX1) (T := TX1) (N := 10) hx hb hts inX2_wellOfAll_X1 hown hK hP 10 rfl rfl 7 (by decide) (hts (.fieldLink RX2 81 "OddNotice$Reader" "well" "I") (List.mem_of_getElem? (i := 2) (by decide +kernel))) (fun _ h9 => h9) rfl dX2_wellOfAll_16 ?_
  refine o_iadd (a := (v 5 7)) (b := (v 8 7)) (k := ((v 5 7) + (v 8 7))) hx hb dX2_wellOfAll_19 rfl ?_
  refine lv_istore_n (lv' := [(1, .int (nI ((v 5 7) + (v 8 7)))), (2, .int (nI 1)), (0, .ref (q 0))]) hx hb dX2_wellOfAll_20 rfl hl (by decide) rfl (fun ls hl => ?_)
  refine lv_iinc (v := nI 2) (lv' := [(2, .int (nI 2)), (1, .int (nI ((v 5 7) + (v 8 7)))), (0, .ref (q 0))]) hx hb dX2_wellOfAll_21 hl (k := 1) rfl (by decide) (by decide) rfl (fun ls hl => ?_)
  refine lv_goto (tgt := 4) hx hb dX2_wellOfAll_24 (by decide) ?_
  refine lv_iload_n hx hb dX2_wellOfAll_4 rfl (lv_at hl 0 rfl) ?_
  refine o_const (k := 4) hx hb dX2_wellOfAll_5 (by decide) ?_
  refine o_icmp_ge (tgt := 27) hx hb dX2_wellOfAll_6 (by decide) (Nat.le_of_ble_eq_true rfl) (Nat.le_of_ble_eq_true rfl) (fun c0 => absurd c0 (by decide)) (fun _ => ?_)
  refine lv_iload_n hx hb dX2_wellOfAll_9 rfl (lv_at hl 1 rfl) ?_
  refine lv_aload_n hx hb dX2_wellOfAll_10 rfl (lv_at hl 2 rfl) ?_
  refine va_get (D := D) (ci := 2) (v := .ref (q 6)) (C := RX2) (T := TX2) (N := 4) hx hb hts inX2_wellOfAll_X2 hown hK hP 0 rfl rfl 1 (by decide) (hts (.fieldLink RX2 20 "OddNotice$State" "readers" "[LOddNotice$Reader;") (List.mem_of_getElem? (i := 1) (by decide +kernel))) (fun _ h9 => h9) rfl dX2_wellOfAll_11 ?_
  refine lv_iload_n hx hb dX2_wellOfAll_14 rfl (lv_at hl 0 rfl) ?_
  refine o_aldq (v := (q 13)) (C := "OddNotice$Reader") hx hb hK hP 1 1 rfl rfl (Nat.le_of_ble_eq_true rfl) (Nat.le_of_ble_eq_true rfl) rfl dX2_wellOfAll_15 ?_
  refine va_get (D := D) (ci := 1) (v := .int (nI (v 11 7))) (C := RX1) (T := TX1) (N := 10) hx hb hts inX2_wellOfAll_X1 hown hK hP 13 rfl rfl 7 (by decide) (hts (.fieldLink RX2 81 "OddNotice$Reader" "well" "I") (List.mem_of_getElem? (i := 2) (by decide +kernel))) (fun _ h9 => h9) rfl dX2_wellOfAll_16 ?_
  refine o_iadd (a := ((v 5 7) + (v 8 7))) (b := (v 11 7)) (k := ((v 5 7) + (v 8 7) + (v 11 7))) hx hb dX2_wellOfAll_19 rfl ?_
  refine lv_istore_n (lv' := [(1, .int (nI ((v 5 7) + (v 8 7) + (v 11 7)))), (2, .int (nI 2)), (0, .ref (q 0))]) hx hb dX2_wellOfAll_20 rfl hl (by decide) rfl (fun ls hl => ?_)
  refine lv_iinc (v := nI 3) (lv' := [(2, .int (nI 3)), (1, .int (nI ((v 5 7) + (v 8 7) + (v 11 7)))), (0, .ref (q 0))]) hx hb dX2_wellOfAll_21 hl (k := 1) rfl (by decide) (by decide) rfl (fun ls hl => ?_)
  refine lv_goto (tgt := 4) hx hb dX2_wellOfAll_24 (by decide) ?_
  refine lv_iload_n hx hb dX2_wellOfAll_4 rfl (lv_at hl 0 rfl) ?_
  refine o_const (k := 4) hx hb dX2_wellOfAll_5 (by decide) ?_
  refine o_icmp_ge (tgt := 27) hx hb dX2_wellOfAll_6 (by decide) (Nat.le_of_ble_eq_true rfl) (Nat.le_of_ble_eq_true rfl) (fun c0 => absurd c0 (by decide)) (fun _ => ?_)
  refine lv_iload_n hx hb dX2_wellOfAll_9 rfl (lv_at hl 1 rfl) ?_
  refine lv_aload_n hx hb dX2_wellOfAll_10 rfl (lv_at hl 2 rfl) ?_
  refine va_get (D := D) (ci := 2) (v := .ref (q 6)) (C := RX2) (T := TX2) (N := 4) hx hb hts inX2_wellOfAll_X2 hown hK hP 0 rfl rfl 1 (by decide) (hts (.fieldLink RX2 20 "OddNotice$State" "readers" "[LOddNotice$Reader;") (List.mem_of_getElem? (i := 1) (by decide +kernel))) (fun _ h9 => h9) rfl dX2_wellOfAll_11 ?_
  refine lv_iload_n hx hb dX2_wellOfAll_14 rfl (lv_at hl 0 rfl) ?_
  refine o_aldq (v := (q 16)) (C := "OddNotice$Reader") hx hb hK hP 1 1 rfl rfl (Nat.le_of_ble_eq_true rfl) (Nat.le_of_ble_eq_true rfl) rfl dX2_wellOfAll_15 ?_
  refine va_get (D := D) (ci := 1) (v := .int (nI (v 14 7))) (C := RX1) (T := TX1) (N := 10) hx hb hts inX2_wellOfAll_X1 hown hK hP 16 rfl rfl 7 (by decide) (hts (.fieldLink RX2 81 "OddNotice$Reader" "well" "I") (List.mem_of_getElem? (i := 2) (by decide +kernel))) (fun _ h9 => h9) rfl dX2_wellOfAll_16 ?_
  refine o_iadd (a := ((v 5 7) + (v 8 7) + (v 11 7))) (b := (v 14 7)) (k := ((v 5 7) + (v 8 7) + (v 11 7) + (v 14 7))) hx hb dX2_wellOfAll_19 rfl ?_
  refine lv_istore_n (lv' := [(1, .int (nI ((v 5 7) + (v 8 7) + (v 11 7) + (v 14 7)))), (2, .int (nI 3)), (0, .ref (q 0))]) hx hb dX2_wellOfAll_20 rfl hl (by decide) rfl (fun ls hl => ?_)
  refine lv_iinc (v := nI 4) (lv' := [(2, .int (nI 4)), (1, .int (nI ((v 5 7) + (v 8 7) + (v 11 7) + (v 14 7)))), (0, .ref (q 0))]) hx hb dX2_wellOfAll_21 hl (k := 1) rfl (by decide) (by decide) rfl (fun ls hl => ?_)
  refine lv_goto (tgt := 4) hx hb dX2_wellOfAll_24 (by decide) ?_
  refine lv_iload_n hx hb dX2_wellOfAll_4 rfl (lv_at hl 0 rfl) ?_
  refine o_const (k := 4) hx hb dX2_wellOfAll_5 (by decide) ?_
  refine o_icmp_ge (tgt := 27) hx hb dX2_wellOfAll_6 (by decide) (Nat.le_of_ble_eq_true rfl) (Nat.le_of_ble_eq_true rfl) (fun _ => ?_) (fun c0 => absurd c0 (by decide))
  refine lv_iload_n hx hb dX2_wellOfAll_27 rfl (lv_at hl 1 rfl) ?_
  exact W.iret (v := nI ((v 5 7) + (v 8 7) + (v 11 7) + (v 14 7))) hx hb hrt (fun t ht hW => ⟨_, rfl, (congrArg nI (by unfold s_sum; omega)), ht⟩) (fun _ h => nomatch h) dX2_wellOfAll_28
