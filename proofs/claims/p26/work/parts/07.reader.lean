theorem inX1_startAnew_X1 : ∀ w ∈ wsX10, w ∈ wsX1_startAnew := by decide +kernel
set_option maxHeartbeats 4000000 in
set_option maxRecDepth 100000 in
theorem k_X1_startAnew (l : Launch) (D : va_G) (cI cR cS cL : ClassId) (sz : Nat) (q : Nat → Nat) (u : Nat → Nat → Nat) (h : Nat) (hh : h ≤ 1) : Met l yX1_startAnew wsX1_startAnew ({ frames := 0, cells := 0, slots := 0, locals := 0 }) (va_Pc [.ref (q 0), .int (nI h)] (o_B D (o_T cI cR cS cL) (wR q cI u) sz)) (va_Qv (fun (_ : Unit) => True) (fun (_ : Unit) t => va_P D vwCl (wR q cI (r_anew u h)) t.heap) (va_A (wR q cI u) sz)) 0 0 (va_A (wR q cI u) sz) := by
  refine Met.ofW (cc := cX1_startAnew) (maxL := 2) (ret := none) (by decide) rfl ?_
  intro p e s m args below meth cd s₁ B hml hv
  obtain ⟨rfl, hsz, hP, hK, hD0, hN⟩ := hv
  have hx := B.exec
  have hb := B.bytes
  have hrt := B.returns
  have hts := atoms_spec (ws := wsX1_startAnew) B.pre
  have hown : s.vm.findClass RX1 = some m.cls := findClass_of_methodNamed B.named
  have hlocks := B.notSynchronized
  subst hsz
  have hD := hD0.self (sz := s.heap.size)
  generalize hAe : va_A (wR q cI u) s.heap.size = A at hD ⊢
  have hA : ∀ q : Nat, s.heap.size ≤ q → A q := fun q h => by rw [← hAe]; exact Or.inr h
  have hS : va_S A s.heap s.heap [] := va_S.rf
  have hl := lv_entry ([.ref (q 0), .int (nI h)]) (n := 2) (Nat.le_of_ble_eq_true rfl)
  rw [lg_entry_eq]
  generalize (lg_sl ([.ref (q 0), .int (nI h)]) ++ List.replicate (2 - (lg_sl ([.ref (q 0), .int (nI h)])).length) Slot.unset).toArray = ls at hl ⊢
  have hl : lv_has ls 2 [(0, .ref (q 0)), (1, .int (nI h))] := hl
  refine lv_aload_n hx hb dX1_startAnew_0 rfl (lv_at hl 0 rfl) ?_
  refine lv_iload_n hx hb dX1_startAnew_1 rfl (lv_at hl 1 rfl) ?_
  refine va_put (D := D) (ci := 1) (v := .int (nI h)) (ty := .boolean) (C := RX1) (T := TX1) (N := 10) hx hb hts inX1_startAnew_X1 tyX1 tyX1_ok nmX1 hown hK hP hD hS 0 rfl rfl 0 (by decide) (hts (.fieldLink RX1 9 "OddNotice$Reader" "heeds" "Z") (List.mem_of_getElem? (i := 1) (by decide +kernel))) (fun _ h9 => h9) rfl (by decide +kernel) (o_nz (by omega)) (o_fz (by omega)) (Nat.le_of_ble_eq_true rfl) dX1_startAnew_2 (fun H locs hP hD hS => ?_)
  have hP : va_P D vwCl (wR q cI (va_up u 0 (va_up (u 0) 0 h))) H := hP
  have hD : va_D A (wR q cI (va_up u 0 (va_up (u 0) 0 h))) := hD
  refine lv_aload_n hx hb dX1_startAnew_5 rfl (lv_at hl 0 rfl) ?_
  refine o_const (k := 0) hx hb dX1_startAnew_6 (by decide) ?_
  refine va_put (D := D) (ci := 1) (v := .int (nI 0)) (ty := .boolean) (C := RX1) (T := TX1) (N := 10) hx hb hts inX1_startAnew_X1 tyX1 tyX1_ok nmX1 hown hK hP hD hS 0 rfl rfl 1 (by decide) (hts (.fieldLink RX1 22 "OddNotice$Reader" "reads" "Z") (List.mem_of_getElem? (i := 2) (by decide +kernel))) (fun _ h9 => h9) rfl (by decide +kernel) rfl rfl (Nat.le_of_ble_eq_true rfl) dX1_startAnew_7 (fun H locs hP hD hS => ?_)
  have hP : va_P D vwCl (wR q cI (va_up u 0 (va_up (va_up (u 0) 0 h) 1 0))) H := hP
  have hD : va_D A (wR q cI (va_up u 0 (va_up (va_up (u 0) 0 h) 1 0))) := hD
  refine lv_aload_n hx hb dX1_startAnew_10 rfl (lv_at hl 0 rfl) ?_
  refine o_const (k := 0) hx hb dX1_startAnew_11 (by decide) ?_
  refine va_put (D := D) (ci := 1) (v := .int (nI 0)) (ty := .boolean) (C := RX1) (T := TX1) (N := 10) hx hb hts inX1_startAnew_X1 tyX1 tyX1_ok nmX1 hown hK hP hD hS 0 rfl rfl 2 (by decide) (hts (.fieldLink RX1 25 "OddNotice$Reader" "holds" "Z") (List.mem_of_getElem? (i := 3) (by decide +kernel))) (fun _ h9 => h9) rfl (by decide +kernel) rfl rfl (Nat.le_of_ble_eq_true rfl) dX1_startAnew_12 (fun H locs hP hD hS => ?_)
  have hP : va_P D vwCl (wR q cI (va_up u 0 (va_up (va_up (va_up (u 0) 0 h) 1 0) 2 0))) H := hP
  have hD : va_D A (wR q cI (va_up u 0 (va_up (va_up (va_up (u 0) 0 h) 1 0) 2 0))) := hD
  refine lv_aload_n hx hb dX1_startAnew_15 rfl (lv_at hl 0 rfl) ?_
  refine o_const (k := 0) hx hb dX1_startAnew_16 (by decide) ?_
  refine va_put (D := D) (ci := 1) (v := .int (nI 0)) (ty := .int) (C := RX1) (T := TX1) (N := 10) hx hb hts inX1_startAnew_X1 tyX1 tyX1_ok nmX1 hown hK hP hD hS 0 rfl rfl 5 (by decide) (hts (.fieldLink RX1 28 "OddNotice$Reader" "failedInRow" "I") (List.mem_of_getElem? (i := 4) (by decide +kernel))) (fun _ h9 => h9) rfl (by decide +kernel) rfl rfl (Nat.le_of_ble_eq_true rfl) dX1_startAnew_17 (fun H locs hP hD hS => ?_)
  have hP : va_P D vwCl (wR q cI (va_up u 0 (va_up (va_up (va_up (va_up (u 0) 0 h) 1 0) 2 0) 5 0))) H := hP
  have hD : va_D A (wR q cI (va_up u 0 (va_up (va_up (va_up (va_up (u 0) 0 h) 1 0) 2 0) 5 0))) := hD
  have w_1 : (wR q cI (r_anew u h)) = (wR q cI (va_up u 0 (va_up (va_up (va_up (va_up (u 0) 0 h) 1 0) 2 0) 5 0))) := (by unfold r_anew; rfl)
  rw [← w_1] at hP
  exact W.vret hx hb hrt (fun t ht hW => ⟨⟨(), rfl, trivial, by show va_P D vwCl _ t.heap; rw [ht]; exact hP⟩, hS.F ht⟩) hS.2.2 dX1_startAnew_20
theorem inX1_hasGivenUp_X1 : ∀ w ∈ wsX10, w ∈ wsX1_hasGivenUp := by decide +kernel
set_option maxHeartbeats 4000000 in
set_option maxRecDepth 100000 in
theorem k_X1_hasGivenUp (l : Launch) (D : va_G) (cI cR cS cL : ClassId) (q : Nat → Nat) (u : Nat → Nat → Nat) (st : Nat) (h0 : u 0 0 < 2 ^ 31) (h1 : u 0 1 < 2 ^ 31) (h5 : u 0 5 < 2 ^ 31) (hs : st < 2 ^ 31) : Met l yX1_hasGivenUp wsX1_hasGivenUp ({ frames := 0, cells := 0, slots := 0, locals := 0 }) (va_Pc [.ref (q 0), .int (nI st)] (o_R D (o_T cI cR cS cL) (wR q cI u))) (vp_Si (fun rz => rz = nI (bn (¬ u 0 0 = 0 ∧ u 0 1 = 0 ∧ st ≤ u 0 5)))) 0 0 (fun _ => False) := by
  refine Met.ofW (cc := cX1_hasGivenUp) (maxL := 2) (ret := (some .boolean)) (by decide) rfl ?_
  intro p e s m args below meth cd s₁ B hml hv
  obtain ⟨rfl, hP, hK, hN⟩ := hv
  have hx := B.exec
  have hb := B.bytes
  have hrt := B.returns
  have hts := atoms_spec (ws := wsX1_hasGivenUp) B.pre
  have hown : s.vm.findClass RX1 = some m.cls := findClass_of_methodNamed B.named
  have hlocks := B.notSynchronized
  have hl := lv_entry ([.ref (q 0), .int (nI st)]) (n := 2) (Nat.le_of_ble_eq_true rfl)
  rw [lg_entry_eq]
  generalize (lg_sl ([.ref (q 0), .int (nI st)]) ++ List.replicate (2 - (lg_sl ([.ref (q 0), .int (nI st)])).length) Slot.unset).toArray = ls at hl ⊢
  have hl : lv_has ls 2 [(0, .ref (q 0)), (1, .int (nI st))] := hl
  refine lv_aload_n hx hb dX1_hasGivenUp_0 rfl (lv_at hl 0 rfl) ?_
  refine va_get (D := D) (ci := 1) (v := .int (nI (u 0 0))) (C := RX1) (T := TX1) (N := 10) hx hb hts inX1_hasGivenUp_X1 hown hK hP 0 rfl rfl 0 (by decide) (hts (.fieldLink RX1 9 "OddNotice$Reader" "heeds" "Z") (List.mem_of_getElem? (i := 1) (by decide +kernel))) (fun _ h9 => h9) rfl dX1_hasGivenUp_1 ?_
  refine o_if_eq (tgt := 26) hx hb dX1_hasGivenUp_4 (by decide) (by omega) (fun c_1 => ?_) (fun c_1 => ?_)
  · skip
    refine o_const (k := 0) hx hb dX1_hasGivenUp_26 (by decide) ?_
    exact W.zret (v := nI 0) hx hb hrt rfl (fun t ht hW => ⟨_, rfl, (congrArg nI (Eq.symm (bn_f (by omega)))), ht⟩) (fun _ h => nomatch h) dX1_hasGivenUp_27
  · skip
    refine lv_aload_n hx hb dX1_hasGivenUp_7 rfl (lv_at hl 0 rfl) ?_
    refine va_get (D := D) (ci := 1) (v := .int (nI (u 0 1))) (C := RX1) (T := TX1) (N := 10) hx hb hts inX1_hasGivenUp_X1 hown hK hP 0 rfl rfl 1 (by decide) (hts (.fieldLink RX1 22 "OddNotice$Reader" "reads" "Z") (List.mem_of_getElem? (i := 2) (by decide +kernel))) (fun _ h9 => h9) rfl dX1_hasGivenUp_8 ?_
    refine o_if_ne (tgt := 26) hx hb dX1_hasGivenUp_11 (by decide) (by omega) (fun c_2 => ?_) (fun c_2 => ?_)
    · skip
      refine o_const (k := 0) hx hb dX1_hasGivenUp_26 (by decide) ?_
      exact W.zret (v := nI 0) hx hb hrt rfl (fun t ht hW => ⟨_, rfl, (congrArg nI (Eq.symm (bn_f (by omega)))), ht⟩) (fun _ h => nomatch h) dX1_hasGivenUp_27
    · skip
      refine lv_aload_n hx hb dX1_hasGivenUp_14 rfl (lv_at hl 0 rfl) ?_
      refine va_get (D := D) (ci := 1) (v := .int (nI (u 0 5))) (C := RX1) (T := TX1) (N := 10) hx hb hts inX1_hasGivenUp_X1 hown hK hP 0 rfl rfl 5 (by decide) (hts (.fieldLink RX1 28 "OddNotice$Reader" "failedInRow" "I") (List.mem_of_getElem? (i := 3) (by decide +kernel))) (fun _ h9 => h9) rfl dX1_hasGivenUp_15 ?_
      refine lv_iload_n hx hb dX1_hasGivenUp_18 rfl (lv_at hl 1 rfl) ?_
      refine o_icmp_lt (tgt := 26) hx hb dX1_hasGivenUp_19 (by decide) (by omega) (by omega) (fun c_3 => ?_) (fun c_3 => ?_)
      · skip
        refine o_const (k := 0) hx hb dX1_hasGivenUp_26 (by decide) ?_
        exact W.zret (v := nI 0) hx hb hrt rfl (fun t ht hW => ⟨_, rfl, (congrArg nI (Eq.symm (bn_f (by omega)))), ht⟩) (fun _ h => nomatch h) dX1_hasGivenUp_27
      · skip
        refine o_const (k := 1) hx hb dX1_hasGivenUp_22 (by decide) ?_
        refine lv_goto (tgt := 27) hx hb dX1_hasGivenUp_23 (by decide) ?_
        exact W.zret (v := nI 1) hx hb hrt rfl (fun t ht hW => ⟨_, rfl, (congrArg nI (Eq.symm (bn_t (by omega)))), ht⟩) (fun _ h => nomatch h) dX1_hasGivenUp_27
theorem inX1_doing_X1 : ∀ w ∈ wsX10, w ∈ wsX1_doing := by decide +kernel
set_option maxHeartbeats 4000000 in
set_option maxRecDepth 100000 in
theorem k_X1_doing (l : Launch) (D : va_G) (cI cR cS cL : ClassId) (q : Nat → Nat) (u : Nat → Nat → Nat) (st : Nat) (h0 : u 0 0 < 2 ^ 31) (h1 : u 0 1 < 2 ^ 31) (h5 : u 0 5 < 2 ^ 31) (hs : st < 2 ^ 31) : Met l yX1_doing wsX1_doing ({ frames := 1, cells := 0, slots := 0, locals := 21 }) (va_Pc [.ref (q 0), .int (nI st)] (o_R D (o_T cI cR cS cL) (wR q cI u))) (vp_Si (fun rz => rz = nI (r_doing u st))) 0 0 (fun _ => False) := by
  refine Met.ofW (cc := cX1_doing) (maxL := 2) (ret := (some .int)) (by decide) rfl ?_
  intro p e s m args below meth cd s₁ B hml hv
  obtain ⟨rfl, hP, hK, hN⟩ := hv
  have hx := B.exec
  have hb := B.bytes
  have hrt := B.returns
  have hts := atoms_spec (ws := wsX1_doing) B.pre
  have hown : s.vm.findClass RX1 = some m.cls := findClass_of_methodNamed B.named
  have hlocks := B.notSynchronized
  have hl := lv_entry ([.ref (q 0), .int (nI st)]) (n := 2) (Nat.le_of_ble_eq_true rfl)
  rw [lg_entry_eq]
  generalize (lg_sl ([.ref (q 0), .int (nI st)]) ++ List.replicate (2 - (lg_sl ([.ref (q 0), .int (nI st)])).length) Slot.unset).toArray = ls at hl ⊢
  have hl : lv_has ls 2 [(0, .ref (q 0)), (1, .int (nI st))] := hl
  refine lv_aload_n hx hb dX1_doing_0 rfl (lv_at hl 0 rfl) ?_
  refine va_get (D := D) (ci := 1) (v := .int (nI (u 0 1))) (C := RX1) (T := TX1) (N := 10) hx hb hts inX1_doing_X1 hown hK hP 0 rfl rfl 1 (by decide) (hts (.fieldLink RX1 22 "OddNotice$Reader" "reads" "Z") (List.mem_of_getElem? (i := 1) (by decide +kernel))) (fun _ h9 => h9) rfl dX1_doing_1 ?_
  refine o_if_eq (tgt := 11) hx hb dX1_doing_4 (by decide) (by omega) (fun c_1 => ?_) (fun c_1 => ?_)
  · skip
    refine lv_aload_n hx hb dX1_doing_11 rfl (lv_at hl 0 rfl) ?_
    refine lv_iload_n hx hb dX1_doing_12 rfl (lv_at hl 1 rfl) ?_
    refine o_ri (va_runV (As := [.int (nI st)]) (rest := []) ⟨hx, hb, hml, hown, hts⟩ (k_X1_hasGivenUp l D cI cR cS cL q u st (by show u 0 0 < 2 ^ 31; first | assumption | omega) (by show u 0 1 < 2 ^ 31; first | assumption | omega) (by show u 0 5 < 2 ^ 31; first | assumption | omega) (by show st < 2 ^ 31; first | assumption | omega)) (cwV 1 hts gX1_doing_X1_hasGivenUp rfl rfl rfl (by decide +kernel) ⟨Nat.le_of_ble_eq_true rfl, Nat.le_of_ble_eq_true rfl⟩) (o_v (o_pR hK hN hP) (va_recv hK hP (ci := 1) (q0 := 0) rfl rfl)) rfl rfl hl.1 rfl (lv_room (Nat.le_of_ble_eq_true rfl)) dX1_doing_13 ⟨Nat.zero_le _, Nat.zero_le _⟩) (fun r_3 e_2 => ?_)
    have e_2 : r_3 = nI (bn (¬ u 0 0 = 0 ∧ u 0 1 = 0 ∧ st ≤ u 0 5)) := e_2
    subst e_2
    refine o_ifz (tgt := 23) hx hb dX1_doing_16 (by decide) (fun c_4 => ?_) (fun c_4 => ?_)
    · skip
      refine o_const (k := 0) hx hb dX1_doing_23 (by decide) ?_
      exact W.iret (v := nI 0) hx hb hrt (fun t ht hW => ⟨_, rfl, (by simp only [r_doing, if_pos c_1, if_neg c_4]), ht⟩) (fun _ h => nomatch h) dX1_doing_24
    · skip
      refine o_const (k := 2) hx hb dX1_doing_19 (by decide) ?_
      refine lv_goto (tgt := 24) hx hb dX1_doing_20 (by decide) ?_
      exact W.iret (v := nI 2) hx hb hrt (fun t ht hW => ⟨_, rfl, (by simp only [r_doing, if_pos c_1, if_pos c_4]), ht⟩) (fun _ h => nomatch h) dX1_doing_24
  · skip
    refine o_const (k := 1) hx hb dX1_doing_7 (by decide) ?_
    refine lv_goto (tgt := 24) hx hb dX1_doing_8 (by decide) ?_
    exact W.iret (v := nI 1) hx hb hrt (fun t ht hW => ⟨_, rfl, (by simp only [r_doing, if_neg c_1]), ht⟩) (fun _ h => nomatch h) dX1_doing_24
theorem inX1_wouldFail_X1 : ∀ w ∈ wsX10, w ∈ wsX1_wouldFail := by decide +kernel
theorem inX1_wouldFail_X0 : ∀ w ∈ wsX00, w ∈ wsX1_wouldFail := by decide +kernel
set_option maxHeartbeats 4000000 in
set_option maxRecDepth 100000 in
theorem k_X1_wouldFail (l : Launch) (D : va_G) (cI cR cS cL : ClassId) (q : Nat → Nat) (u : Nat → Nat → Nat) (qb : Nat → Nat) (v : Nat → Nat → Nat) (h0 : u 0 0 < 2 ^ 31) (h1 : u 0 1 < 2 ^ 31) (h3 : u 0 3 < 2 ^ 32) (hn : v 0 0 < 2 ^ 31) : Met l yX1_wouldFail wsX1_wouldFail ({ frames := 1, cells := 0, slots := 0, locals := 20 }) (va_Pc [.ref (q 0), .ref (qb 0)] (o_R D (o_T cI cR cS cL) (wR q cI u ++ wB qb cI v))) (vp_Si (fun rz => rz = nI (bn (¬ u 0 0 = 0 ∧ (¬ u 0 1 = 0 ∧ ¬ u 0 3 = v 0 0 ∨ u 0 1 = 0 ∧ v 0 0 % 2 = 1))))) 0 0 (fun _ => False) := by
  refine Met.ofW (cc := cX1_wouldFail) (maxL := 2) (ret := (some .boolean)) (by decide) rfl ?_
  intro p e s m args below meth cd s₁ B hml hv
  obtain ⟨rfl, hP, hK, hN⟩ := hv
  have hx := B.exec
  have hb := B.bytes
  have hrt := B.returns
  have hts := atoms_spec (ws := wsX1_wouldFail) B.pre
  have hown : s.vm.findClass RX1 = some m.cls := findClass_of_methodNamed B.named
  have hlocks := B.notSynchronized
  have hl := lv_entry ([.ref (q 0), .ref (qb 0)]) (n := 2) (Nat.le_of_ble_eq_true rfl)
  rw [lg_entry_eq]
  generalize (lg_sl ([.ref (q 0), .ref (qb 0)]) ++ List.replicate (2 - (lg_sl ([.ref (q 0), .ref (qb 0)])).length) Slot.unset).toArray = ls at hl ⊢
  have hl : lv_has ls 2 [(0, .ref (q 0)), (1, .ref (qb 0))] := hl
  refine lv_aload_n hx hb dX1_wouldFail_0 rfl (lv_at hl 0 rfl) ?_
  refine va_get (D := D) (ci := 1) (v := .int (nI (u 0 0))) (C := RX1) (T := TX1) (N := 10) hx hb hts inX1_wouldFail_X1 hown hK hP 0 rfl rfl 0 (by decide) (hts (.fieldLink RX1 9 "OddNotice$Reader" "heeds" "Z") (List.mem_of_getElem? (i := 1) (by decide +kernel))) (fun _ h9 => h9) rfl dX1_wouldFail_1 ?_
  refine o_if_eq (tgt := 39) hx hb dX1_wouldFail_4 (by decide) (by omega) (fun c_1 => ?_) (fun c_1 => ?_)
  · skip
    refine o_const (k := 0) hx hb dX1_wouldFail_39 (by decide) ?_
    exact W.zret (v := nI 0) hx hb hrt rfl (fun t ht hW => ⟨_, rfl, (congrArg nI (Eq.symm (bn_f (by omega)))), ht⟩) (fun _ h => nomatch h) dX1_wouldFail_40
  · skip
    refine lv_aload_n hx hb dX1_wouldFail_7 rfl (lv_at hl 0 rfl) ?_
    refine va_get (D := D) (ci := 1) (v := .int (nI (u 0 1))) (C := RX1) (T := TX1) (N := 10) hx hb hts inX1_wouldFail_X1 hown hK hP 0 rfl rfl 1 (by decide) (hts (.fieldLink RX1 22 "OddNotice$Reader" "reads" "Z") (List.mem_of_getElem? (i := 2) (by decide +kernel))) (fun _ h9 => h9) rfl dX1_wouldFail_8 ?_
    refine o_if_eq (tgt := 28) hx hb dX1_wouldFail_11 (by decide) (by omega) (fun c_2 => ?_) (fun c_2 => ?_)
    · skip
      refine lv_aload_n hx hb dX1_wouldFail_28 rfl (lv_at hl 1 rfl) ?_
      refine o_ri (va_runV (As := []) (rest := []) ⟨hx, hb, hml, hown, hts⟩ (k_X0_isOdd l D cI cR cS cL qb v (by show v 0 0 < 2 ^ 31; first | assumption | omega)) (cwV 0 hts gX1_wouldFail_X0_isOdd rfl rfl rfl (by decide +kernel) ⟨Nat.le_of_ble_eq_true rfl, Nat.le_of_ble_eq_true rfl⟩) (o_v (o_pR hK hN (hP.sub (ws' := (wB qb cI v)) [3, 4, 5, 6, 7] rfl)) (va_recv hK hP (ci := 0) (q0 := 3) rfl rfl)) rfl rfl hl.1 rfl (lv_room (Nat.le_of_ble_eq_true rfl)) dX1_wouldFail_29 ⟨Nat.zero_le _, Nat.zero_le _⟩) (fun r_4 e_3 => ?_)
      have e_3 : r_4 = nI (bn (v 0 0 % 2 = 1)) := e_3
      subst e_3
      refine o_ifz (tgt := 39) hx hb dX1_wouldFail_32 (by decide) (fun c_5 => ?_) (fun c_5 => ?_)
      · skip
        refine o_const (k := 0) hx hb dX1_wouldFail_39 (by decide) ?_
        exact W.zret (v := nI 0) hx hb hrt rfl (fun t ht hW => ⟨_, rfl, (congrArg nI (Eq.symm (bn_f (by omega)))), ht⟩) (fun _ h => nomatch h) dX1_wouldFail_40
      · skip
        refine o_const (k := 1) hx hb dX1_wouldFail_35 (by decide) ?_
        refine lv_goto (tgt := 40) hx hb dX1_wouldFail_36 (by decide) ?_
        exact W.zret (v := nI 1) hx hb hrt rfl (fun t ht hW => ⟨_, rfl, (congrArg nI (Eq.symm (bn_t (by omega)))), ht⟩) (fun _ h => nomatch h) dX1_wouldFail_40
    · skip
      refine lv_aload_n hx hb dX1_wouldFail_14 rfl (lv_at hl 0 rfl) ?_
      refine va_get (D := D) (ci := 1) (v := .int (nI (u 0 3))) (C := RX1) (T := TX1) (N := 10) hx hb hts inX1_wouldFail_X1 hown hK hP 0 rfl rfl 3 (by decide) (hts (.fieldLink RX1 48 "OddNotice$Reader" "noted" "I") (List.mem_of_getElem? (i := 3) (by decide +kernel))) (fun _ h9 => h9) rfl dX1_wouldFail_15 ?_
      refine lv_aload_n hx hb dX1_wouldFail_18 rfl (lv_at hl 1 rfl) ?_
      refine va_get (D := D) (ci := 0) (v := .int (nI (v 0 0))) (C := RX0) (T := TX0) (N := 5) hx hb hts inX1_wouldFail_X0 hown hK hP 3 rfl rfl 0 (by decide) (hts (.fieldLink RX1 43 "OddNotice$Board" "number" "I") (List.mem_of_getElem? (i := 4) (by decide +kernel))) (fun _ h9 => h9) rfl dX1_wouldFail_19 ?_
      refine o_icmp_eq (tgt := 39) hx hb dX1_wouldFail_22 (by decide) (by omega) (by omega) (fun c_6 => ?_) (fun c_6 => ?_)
      · skip
        refine o_const (k := 0) hx hb dX1_wouldFail_39 (by decide) ?_
        exact W.zret (v := nI 0) hx hb hrt rfl (fun t ht hW => ⟨_, rfl, (congrArg nI (Eq.symm (bn_f (by omega)))), ht⟩) (fun _ h => nomatch h) dX1_wouldFail_40
      · skip
        refine lv_goto (tgt := 35) hx hb dX1_wouldFail_25 (by decide) ?_
        refine o_const (k := 1) hx hb dX1_wouldFail_35 (by decide) ?_
        refine lv_goto (tgt := 40) hx hb dX1_wouldFail_36 (by decide) ?_
        exact W.zret (v := nI 1) hx hb hrt rfl (fun t ht hW => ⟨_, rfl, (congrArg nI (Eq.symm (bn_t (by omega)))), ht⟩) (fun _ h => nomatch h) dX1_wouldFail_40
theorem inX1_fail_X1 : ∀ w ∈ wsX10, w ∈ wsX1_fail := by decide +kernel
set_option maxHeartbeats 4000000 in
set_option maxRecDepth 100000 in
theorem k_X1_fail (l : Launch) (D : va_G) (cI cR cS cL : ClassId) (sz : Nat) (q : Nat → Nat) (u : Nat → Nat → Nat) : Met l yX1_fail wsX1_fail ({ frames := 0, cells := 0, slots := 0, locals := 0 }) (va_Pc [.ref (q 0)] (o_B D (o_T cI cR cS cL) (wR q cI u) sz)) (va_Qv (fun (_ : Unit) => True) (fun (_ : Unit) t => va_P D vwCl (wR q cI (r_fail u)) t.heap) (va_A (wR q cI u) sz)) 0 0 (va_A (wR q cI u) sz) := by
  refine Met.ofW (cc := cX1_fail) (maxL := 1) (ret := none) (by decide) rfl ?_
  intro p e s m args below meth cd s₁ B hml hv
  obtain ⟨rfl, hsz, hP, hK, hD0, hN⟩ := hv
  have hx := B.exec
  have hb := B.bytes
  have hrt := B.returns
  have hts := atoms_spec (ws := wsX1_fail) B.pre
  have hown : s.vm.findClass RX1 = some m.cls := findClass_of_methodNamed B.named
  have hlocks := B.notSynchronized
  subst hsz
  have hD := hD0.self (sz := s.heap.size)
  generalize hAe : va_A (wR q cI u) s.heap.size = A at hD ⊢
  have hA : ∀ q : Nat, s.heap.size ≤ q → A q := fun q h => by rw [← hAe]; exact Or.inr h
  have hS : va_S A s.heap s.heap [] := va_S.rf
  have hl := lv_entry ([.ref (q 0)]) (n := 1) (Nat.le_of_ble_eq_true rfl)
  rw [lg_entry_eq]
  generalize (lg_sl ([.ref (q 0)]) ++ List.replicate (1 - (lg_sl ([.ref (q 0)])).length) Slot.unset).toArray = ls at hl ⊢
  have hl : lv_has ls 1 [(0, .ref (q 0))] := hl
  refine lv_aload_n hx hb dX1_fail_0 rfl (lv_at hl 0 rfl) ?_
  refine o_const (k := 0) hx hb dX1_fail_1 (by decide) ?_
  refine va_put (D := D) (ci := 1) (v := .int (nI 0)) (ty := .boolean) (C := RX1) (T := TX1) (N := 10) hx hb hts inX1_fail_X1 tyX1 tyX1_ok nmX1 hown hK hP hD hS 0 rfl rfl 1 (by decide) (hts (.fieldLink RX1 22 "OddNotice$Reader" "reads" "Z") (List.mem_of_getElem? (i := 1) (by decide +kernel))) (fun _ h9 => h9) rfl (by decide +kernel) rfl rfl (Nat.le_of_ble_eq_true rfl) dX1_fail_2 (fun H locs hP hD hS => ?_)
  have hP : va_P D vwCl (wR q cI (va_up u 0 (va_up (u 0) 1 0))) H := hP
  have hD : va_D A (wR q cI (va_up u 0 (va_up (u 0) 1 0))) := hD
  refine lv_aload_n hx hb dX1_fail_5 rfl (lv_at hl 0 rfl) ?_
  refine lv_dup hx hb dX1_fail_6 rfl ?_
  refine va_get (D := D) (ci := 1) (v := .int (nI (u 0 5))) (C := RX1) (T := TX1) (N := 10) hx hb hts inX1_fail_X1 hown hK hP 0 rfl rfl 5 (by decide) (hts (.fieldLink RX1 28 "OddNotice$Reader" "failedInRow" "I") (List.mem_of_getElem? (i := 2) (by decide +kernel))) (fun _ h9 => h9) rfl dX1_fail_7 ?_
  refine o_const (k := 1) hx hb dX1_fail_10 (by decide) ?_
  refine o_iadd (a := (u 0 5)) (b := 1) (k := ((u 0 5) + 1)) hx hb dX1_fail_11 rfl ?_
  refine va_put (D := D) (ci := 1) (v := .int (nI ((u 0 5) + 1))) (ty := .int) (C := RX1) (T := TX1) (N := 10) hx hb hts inX1_fail_X1 tyX1 tyX1_ok nmX1 hown hK hP hD hS 0 rfl rfl 5 (by decide) (hts (.fieldLink RX1 28 "OddNotice$Reader" "failedInRow" "I") (List.mem_of_getElem? (i := 2) (by decide +kernel))) (fun _ h9 => h9) rfl (by decide +kernel) rfl rfl (Nat.le_of_ble_eq_true rfl) dX1_fail_12 (fun H locs hP hD hS => ?_)
  have hP : va_P D vwCl (wR q cI (va_up u 0 (va_up (va_up (u 0) 1 0) 5 ((u 0 5) + 1)))) H := hP
  have hD : va_D A (wR q cI (va_up u 0 (va_up (va_up (u 0) 1 0) 5 ((u 0 5) + 1)))) := hD
  refine lv_aload_n hx hb dX1_fail_15 rfl (lv_at hl 0 rfl) ?_
  refine lv_dup hx hb dX1_fail_16 rfl ?_
  refine va_get (D := D) (ci := 1) (v := .int (nI (u 0 6))) (C := RX1) (T := TX1) (N := 10) hx hb hts inX1_fail_X1 hown hK hP 0 rfl rfl 6 (by decide) (hts (.fieldLink RX1 61 "OddNotice$Reader" "failed" "I") (List.mem_of_getElem? (i := 3) (by decide +kernel))) (fun _ h9 => h9) rfl dX1_fail_17 ?_
  refine o_const (k := 1) hx hb dX1_fail_20 (by decide) ?_
  refine o_iadd (a := (u 0 6)) (b := 1) (k := ((u 0 6) + 1)) hx hb dX1_fail_21 rfl ?_
  refine va_put (D := D) (ci := 1) (v := .int (nI ((u 0 6) + 1))) (ty := .int) (C := RX1) (T := TX1) (N := 10) hx hb hts inX1_fail_X1 tyX1 tyX1_ok nmX1 hown hK hP hD hS 0 rfl rfl 6 (by decide) (hts (.fieldLink RX1 61 "OddNotice$Reader" "failed" "I") (List.mem_of_getElem? (i := 3) (by decide +kernel))) (fun _ h9 => h9) rfl (by decide +kernel) rfl rfl (Nat.le_of_ble_eq_true rfl) dX1_fail_22 (fun H locs hP hD hS => ?_)
  have hP : va_P D vwCl (wR q cI (va_up u 0 (va_up (va_up (va_up (u 0) 1 0) 5 ((u 0 5) + 1)) 6 ((u 0 6) + 1)))) H := hP
  have hD : va_D A (wR q cI (va_up u 0 (va_up (va_up (va_up (u 0) 1 0) 5 ((u 0 5) + 1)) 6 ((u 0 6) + 1)))) := hD
  have w_1 : (wR q cI (r_fail u)) = (wR q cI (va_up u 0 (va_up (va_up (va_up (u 0) 1 0) 5 ((u 0 5) + 1)) 6 ((u 0 6) + 1)))) := (by unfold r_fail; rfl)
  rw [← w_1] at hP
  exact W.vret hx hb hrt (fun t ht hW => ⟨⟨(), rfl, trivial, by show va_P D vwCl _ t.heap; rw [ht]; exact hP⟩, hS.F ht⟩) hS.2.2 dX1_fail_25
theorem inX1_open_X1 : ∀ w ∈ wsX10, w ∈ wsX1_open := by decide +kernel
theorem inX1_open_X0 : ∀ w ∈ wsX00, w ∈ wsX1_open := by decide +kernel
set_option maxHeartbeats 4000000 in
set_option maxRecDepth 100000 in
theorem k_X1_open (l : Launch) (D : va_G) (cI cR cS cL : ClassId) (sz : Nat) (q : Nat → Nat) (u : Nat → Nat → Nat) (qb : Nat → Nat) (v : Nat → Nat → Nat) (h0 : u 0 0 < 2 ^ 31) (h1 : u 0 1 < 2 ^ 31) (h3 : u 0 3 < 2 ^ 32) (hn : v 0 0 < 2 ^ 31) : Met l yX1_open wsX1_open ({ frames := 2, cells := 0, slots := 0, locals := 41 }) (va_Pc [.ref (q 0), .ref (qb 0)] (o_B D (o_T cI cR cS cL) (wR q cI u ++ wB qb cI v) sz)) (va_Qi (fun rz (_ : Unit) => rz = nI (bn (¬ (¬ u 0 0 = 0 ∧ (¬ u 0 1 = 0 ∧ ¬ u 0 3 = v 0 0 ∨ u 0 1 = 0 ∧ v 0 0 % 2 = 1))))) (fun (_ : Unit) t => va_P D vwCl (wR q cI (r_open u v) ++ wB qb cI v) t.heap) (va_A (wR q cI u ++ wB qb cI v) sz)) 0 0 (va_A (wR q cI u ++ wB qb cI v) sz) := by
  refine Met.ofW (cc := cX1_open) (maxL := 2) (ret := (some .boolean)) (by decide) rfl ?_
  intro p e s m args below meth cd s₁ B hml hv
  obtain ⟨rfl, hsz, hP, hK, hD0, hN⟩ := hv
  have hx := B.exec
  have hb := B.bytes
  have hrt := B.returns
  have hts := atoms_spec (ws := wsX1_open) B.pre
  have hown : s.vm.findClass RX1 = some m.cls := findClass_of_methodNamed B.named
  have hlocks := B.notSynchronized
  subst hsz
  have hD := hD0.self (sz := s.heap.size)
  generalize hAe : va_A (wR q cI u ++ wB qb cI v) s.heap.size = A at hD ⊢
  have hA : ∀ q : Nat, s.heap.size ≤ q → A q := fun q h => by rw [← hAe]; exact Or.inr h
  have hS : va_S A s.heap s.heap [] := va_S.rf
  have hl := lv_entry ([.ref (q 0), .ref (qb 0)]) (n := 2) (Nat.le_of_ble_eq_true rfl)
  rw [lg_entry_eq]
  generalize (lg_sl ([.ref (q 0), .ref (qb 0)]) ++ List.replicate (2 - (lg_sl ([.ref (q 0), .ref (qb 0)])).length) Slot.unset).toArray = ls at hl ⊢
  have hl : lv_has ls 2 [(0, .ref (q 0)), (1, .ref (qb 0))] := hl
  refine lv_aload_n hx hb dX1_open_0 rfl (lv_at hl 0 rfl) ?_
  refine lv_aload_n hx hb dX1_open_1 rfl (lv_at hl 1 rfl) ?_
  refine o_ri (va_runV (As := [.ref (qb 0)]) (rest := []) ⟨hx, hb, hml, hown, hts⟩ (k_X1_wouldFail l D cI cR cS cL q u qb v (by show u 0 0 < 2 ^ 31; first | assumption | omega) (by show u 0 1 < 2 ^ 31; first | assumption | omega) (by show u 0 3 < 2 ^ 32; first | assumption | omega) (by show v 0 0 < 2 ^ 31; first | assumption | omega)) (cwV 1 hts gX1_open_X1_wouldFail rfl rfl rfl (by decide +kernel) ⟨Nat.le_of_ble_eq_true rfl, Nat.le_of_ble_eq_true rfl⟩) (o_v (o_pR hK hN hP) (va_recv hK hP (ci := 1) (q0 := 0) rfl rfl)) rfl rfl hl.1 rfl (lv_room (Nat.le_of_ble_eq_true rfl)) dX1_open_2 ⟨Nat.zero_le _, Nat.zero_le _⟩) (fun r_2 e_1 => ?_)
  have e_1 : r_2 = nI (bn (¬ u 0 0 = 0 ∧ (¬ u 0 1 = 0 ∧ ¬ u 0 3 = v 0 0 ∨ u 0 1 = 0 ∧ v 0 0 % 2 = 1))) := e_1
  subst e_1
  refine o_ifz (tgt := 14) hx hb dX1_open_5 (by decide) (fun c_3 => ?_) (fun c_3 => ?_)
  · skip
    refine lv_aload_n hx hb dX1_open_14 rfl (lv_at hl 0 rfl) ?_
    refine o_const (k := 1) hx hb dX1_open_15 (by decide) ?_
    refine va_put (D := D) (ci := 1) (v := .int (nI 1)) (ty := .boolean) (C := RX1) (T := TX1) (N := 10) hx hb hts inX1_open_X1 tyX1 tyX1_ok nmX1 hown hK hP hD hS 0 rfl rfl 1 (by decide) (hts (.fieldLink RX1 22 "OddNotice$Reader" "reads" "Z") (List.mem_of_getElem? (i := 1) (by decide +kernel))) (fun _ h9 => h9) rfl (by decide +kernel) rfl rfl (Nat.le_of_ble_eq_true rfl) dX1_open_16 (fun H locs hP hD hS => ?_)
    have hP : va_P D vwCl (wR q cI (va_up u 0 (va_up (u 0) 1 1)) ++ wB qb cI v) H := hP
    have hD : va_D A (wR q cI (va_up u 0 (va_up (u 0) 1 1)) ++ wB qb cI v) := hD
    refine lv_aload_n hx hb dX1_open_19 rfl (lv_at hl 0 rfl) ?_
    refine lv_aload_n hx hb dX1_open_20 rfl (lv_at hl 1 rfl) ?_
    refine va_get (D := D) (ci := 0) (v := .int (nI (v 0 0))) (C := RX0) (T := TX0) (N := 5) hx hb hts inX1_open_X0 hown hK hP 3 rfl rfl 0 (by decide) (hts (.fieldLink RX1 43 "OddNotice$Board" "number" "I") (List.mem_of_getElem? (i := 2) (by decide +kernel))) (fun _ h9 => h9) rfl dX1_open_21 ?_
    refine va_put (D := D) (ci := 1) (v := .int (nI (v 0 0))) (ty := .int) (C := RX1) (T := TX1) (N := 10) hx hb hts inX1_open_X1 tyX1 tyX1_ok nmX1 hown hK hP hD hS 0 rfl rfl 3 (by decide) (hts (.fieldLink RX1 48 "OddNotice$Reader" "noted" "I") (List.mem_of_getElem? (i := 3) (by decide +kernel))) (fun _ h9 => h9) rfl (by decide +kernel) rfl rfl (Nat.le_of_ble_eq_true rfl) dX1_open_24 (fun H locs hP hD hS => ?_)
    have hP : va_P D vwCl (wR q cI (va_up u 0 (va_up (va_up (u 0) 1 1) 3 (v 0 0))) ++ wB qb cI v) H := hP
    have hD : va_D A (wR q cI (va_up u 0 (va_up (va_up (u 0) 1 1) 3 (v 0 0))) ++ wB qb cI v) := hD
    refine lv_aload_n hx hb dX1_open_27 rfl (lv_at hl 0 rfl) ?_
    refine o_const (k := 0) hx hb dX1_open_28 (by decide) ?_
    refine va_put (D := D) (ci := 1) (v := .int (nI 0)) (ty := .int) (C := RX1) (T := TX1) (N := 10) hx hb hts inX1_open_X1 tyX1 tyX1_ok nmX1 hown hK hP hD hS 0 rfl rfl 4 (by decide) (hts (.fieldLink RX1 51 "OddNotice$Reader" "taken" "I") (List.mem_of_getElem? (i := 4) (by decide +kernel))) (fun _ h9 => h9) rfl (by decide +kernel) rfl rfl (Nat.le_of_ble_eq_true rfl) dX1_open_29 (fun H locs hP hD hS => ?_)
    have hP : va_P D vwCl (wR q cI (va_up u 0 (va_up (va_up (va_up (u 0) 1 1) 3 (v 0 0)) 4 0)) ++ wB qb cI v) H := hP
    have hD : va_D A (wR q cI (va_up u 0 (va_up (va_up (va_up (u 0) 1 1) 3 (v 0 0)) 4 0)) ++ wB qb cI v) := hD
    refine o_const (k := 1) hx hb dX1_open_32 (by decide) ?_
    have w_4 : (wR q cI (r_open u v) ++ wB qb cI v) = (wR q cI (va_up u 0 (va_up (va_up (va_up (u 0) 1 1) 3 (v 0 0)) 4 0)) ++ wB qb cI v) := (by unfold r_open; rw [if_neg c_3]; first | done | rfl)
    rw [← w_4] at hP
    exact W.zret (v := nI 1) hx hb hrt rfl (fun t ht hW => ⟨⟨_, (), rfl, (congrArg nI (Eq.symm (bn_t c_3))), by show va_P D vwCl _ t.heap; rw [ht]; exact hP⟩, hS.F ht⟩) hS.2.2 dX1_open_33
  · skip
    refine lv_aload_n hx hb dX1_open_8 rfl (lv_at hl 0 rfl) ?_
    refine o_wv (va_runV (As := []) (rest := []) ⟨hx, hb, hml, hown, hts⟩ (k_X1_fail l D cI cR cS cL s.heap.size q u ) (cwV 0 hts gX1_open_X1_fail rfl rfl rfl (by decide +kernel) ⟨Nat.le_of_ble_eq_true rfl, Nat.le_of_ble_eq_true rfl⟩) (o_v (o_pB hK hN (hP.sub (ws' := (wR q cI u)) [0, 1, 2] rfl) (hD.sub (ws' := (wR q cI u)) [0, 1, 2] (by decide) rfl)) (va_recv hK hP (ci := 1) (q0 := 0) rfl rfl)) rfl rfl hl.1 rfl (lv_room (Nat.le_of_ble_eq_true rfl)) dX1_open_9 ⟨Nat.zero_le _, Nat.zero_le _⟩) hP hD hS hA [0, 1, 2] (by decide) rfl (fun _ => rfl) (fun _ H locs e_5 hP hD hS => ?_)
    have hP : va_P D vwCl (wR q cI (va_up u 0 (va_up (va_up (va_up (u 0) 1 0) 5 (u 0 5 + 1)) 6 (u 0 6 + 1))) ++ wB qb cI v) H := hP
    have hD : va_D A (wR q cI (va_up u 0 (va_up (va_up (va_up (u 0) 1 0) 5 (u 0 5 + 1)) 6 (u 0 6 + 1))) ++ wB qb cI v) := hD
    refine o_const (k := 0) hx hb dX1_open_12 (by decide) ?_
    have w_6 : (wR q cI (r_open u v) ++ wB qb cI v) = (wR q cI (va_up u 0 (va_up (va_up (va_up (u 0) 1 0) 5 (u 0 5 + 1)) 6 (u 0 6 + 1))) ++ wB qb cI v) := (by unfold r_open; rw [if_pos c_3]; first | done | rfl)
    rw [← w_6] at hP
    exact W.zret (v := nI 0) hx hb hrt rfl (fun t ht hW => ⟨⟨_, (), rfl, (congrArg nI (Eq.symm (bn_f (fun z => z c_3)))), by show va_P D vwCl _ t.heap; rw [ht]; exact hP⟩, hS.F ht⟩) hS.2.2 dX1_open_13
theorem inX1_take_X0 : ∀ w ∈ wsX00, w ∈ wsX1_take := by decide +kernel
theorem inX1_take_X1 : ∀ w ∈ wsX10, w ∈ wsX1_take := by decide +kernel
set_option maxHeartbeats 4000000 in
set_option maxRecDepth 100000 in
theorem k_X1_take (l : Launch) (D : va_G) (cI cR cS cL : ClassId) (sz : Nat) (q : Nat → Nat) (u : Nat → Nat → Nat) (qb : Nat → Nat) (v : Nat → Nat → Nat) (ht : u 0 4 < 5) : Met l yX1_take wsX1_take ({ frames := 0, cells := 0, slots := 0, locals := 0 }) (va_Pc [.ref (q 0), .ref (qb 0)] (o_B D (o_T cI cR cS cL) (wR q cI u ++ wB qb cI v) sz)) (va_Qi (fun rz (_ : Unit) => rz = nI (v 1 (u 0 4))) (fun (_ : Unit) t => va_P D vwCl (wR q cI (r_take u v) ++ wB qb cI v) t.heap) (va_A (wR q cI u ++ wB qb cI v) sz)) 0 0 (va_A (wR q cI u ++ wB qb cI v) sz) := by
  refine Met.ofW (cc := cX1_take) (maxL := 3) (ret := (some .int)) (by decide) rfl ?_
  intro p e s m args below meth cd s₁ B hml hv
  obtain ⟨rfl, hsz, hP, hK, hD0, hN⟩ := hv
  have hx := B.exec
  have hb := B.bytes
  have hrt := B.returns
  have hts := atoms_spec (ws := wsX1_take) B.pre
  have hown : s.vm.findClass RX1 = some m.cls := findClass_of_methodNamed B.named
  have hlocks := B.notSynchronized
  subst hsz
  have hD := hD0.self (sz := s.heap.size)
  generalize hAe : va_A (wR q cI u ++ wB qb cI v) s.heap.size = A at hD ⊢
  have hA : ∀ q : Nat, s.heap.size ≤ q → A q := fun q h => by rw [← hAe]; exact Or.inr h
  have hS : va_S A s.heap s.heap [] := va_S.rf
  have hl := lv_entry ([.ref (q 0), .ref (qb 0)]) (n := 3) (Nat.le_of_ble_eq_true rfl)
  rw [lg_entry_eq]
  generalize (lg_sl ([.ref (q 0), .ref (qb 0)]) ++ List.replicate (3 - (lg_sl ([.ref (q 0), .ref (qb 0)])).length) Slot.unset).toArray = ls at hl ⊢
  have hl : lv_has ls 3 [(0, .ref (q 0)), (1, .ref (qb 0))] := hl
  refine lv_aload_n hx hb dX1_take_0 rfl (lv_at hl 1 rfl) ?_
  refine va_get (D := D) (ci := 0) (v := .ref (qb 1)) (C := RX0) (T := TX0) (N := 5) hx hb hts inX1_take_X0 hown hK hP 3 rfl rfl 1 (by decide) (hts (.fieldLink RX1 58 "OddNotice$Board" "fields" "[I") (List.mem_of_getElem? (i := 1) (by decide +kernel))) (fun _ h9 => h9) rfl dX1_take_1 ?_
  refine lv_aload_n hx hb dX1_take_4 rfl (lv_at hl 0 rfl) ?_
  refine va_get (D := D) (ci := 1) (v := .int (nI (u 0 4))) (C := RX1) (T := TX1) (N := 10) hx hb hts inX1_take_X1 hown hK hP 0 rfl rfl 4 (by decide) (hts (.fieldLink RX1 51 "OddNotice$Reader" "taken" "I") (List.mem_of_getElem? (i := 2) (by decide +kernel))) (fun _ h9 => h9) rfl dX1_take_5 ?_
  refine o_iald (v := nI (v 1 (u 0 4))) hx hb hK hP 4 0 rfl rfl (by omega) (Nat.le_of_ble_eq_true rfl) rfl dX1_take_8 ?_
  refine lv_istore_n (lv' := [(2, .int (nI (v 1 (u 0 4)))), (0, .ref (q 0)), (1, .ref (qb 0))]) hx hb dX1_take_9 rfl hl (by decide) rfl (fun ls hl => ?_)
  refine lv_aload_n hx hb dX1_take_10 rfl (lv_at hl 1 rfl) ?_
  refine va_get (D := D) (ci := 1) (v := .ref (q 2)) (C := RX1) (T := TX1) (N := 10) hx hb hts inX1_take_X1 hown hK hP 0 rfl rfl 9 (by decide) (hts (.fieldLink RX1 19 "OddNotice$Reader" "values" "[I") (List.mem_of_getElem? (i := 3) (by decide +kernel))) (fun _ h9 => h9) rfl dX1_take_11 ?_
  refine lv_aload_n hx hb dX1_take_14 rfl (lv_at hl 1 rfl) ?_
  refine va_get (D := D) (ci := 1) (v := .int (nI (u 0 4))) (C := RX1) (T := TX1) (N := 10) hx hb hts inX1_take_X1 hown hK hP 0 rfl rfl 4 (by decide) (hts (.fieldLink RX1 51 "OddNotice$Reader" "taken" "I") (List.mem_of_getElem? (i := 2) (by decide +kernel))) (fun _ h9 => h9) rfl dX1_take_15 ?_
  refine lv_iload_n hx hb dX1_take_18 rfl (lv_at hl 0 rfl) ?_
  refine o_iast (g := (u 2)) hx hb hK hP hD hS 2 0 rfl rfl (by omega) (Nat.le_of_ble_eq_true rfl) dX1_take_19 (fun H locs hP hD hS => ?_)
  have hP : va_P D vwCl (wR q cI (va_up u 2 (va_up (u 2) (u 0 4) (v 1 (u 0 4)))) ++ wB qb cI v) H := hP
  have hD : va_D A (wR q cI (va_up u 2 (va_up (u 2) (u 0 4) (v 1 (u 0 4)))) ++ wB qb cI v) := hD
  refine lv_aload_n hx hb dX1_take_20 rfl (lv_at hl 1 rfl) ?_
  refine lv_dup hx hb dX1_take_21 rfl ?_
  refine va_get (D := D) (ci := 1) (v := .int (nI (u 0 4))) (C := RX1) (T := TX1) (N := 10) hx hb hts inX1_take_X1 hown hK hP 0 rfl rfl 4 (by decide) (hts (.fieldLink RX1 51 "OddNotice$Reader" "taken" "I") (List.mem_of_getElem? (i := 2) (by decide +kernel))) (fun _ h9 => h9) rfl dX1_take_22 ?_
  refine o_const (k := 1) hx hb dX1_take_25 (by decide) ?_
  refine o_iadd (a := (u 0 4)) (b := 1) (k := ((u 0 4) + 1)) hx hb dX1_take_26 rfl ?_
  refine va_put (D := D) (ci := 1) (v := .int (nI ((u 0 4) + 1))) (ty := .int) (C := RX1) (T := TX1) (N := 10) hx hb hts inX1_take_X1 tyX1 tyX1_ok nmX1 hown hK hP hD hS 0 rfl rfl 4 (by decide) (hts (.fieldLink RX1 51 "OddNotice$Reader" "taken" "I") (List.mem_of_getElem? (i := 2) (by decide +kernel))) (fun _ h9 => h9) rfl (by decide +kernel) rfl rfl (Nat.le_of_ble_eq_true rfl) dX1_take_27 (fun H locs hP hD hS => ?_)
  have hP : va_P D vwCl (wR q cI (va_up (va_up u 0 (va_up (u 0) 4 ((u 0 4) + 1))) 2 (va_up (u 2) (u 0 4) (v 1 (u 0 4)))) ++ wB qb cI v) H := hP
  have hD : va_D A (wR q cI (va_up (va_up u 0 (va_up (u 0) 4 ((u 0 4) + 1))) 2 (va_up (u 2) (u 0 4) (v 1 (u 0 4)))) ++ wB qb cI v) := hD
  refine lv_iload_n hx hb dX1_take_30 rfl (lv_at hl 0 rfl) ?_
  have w_1 : (wR q cI (r_take u v) ++ wB qb cI v) = (wR q cI (va_up (va_up u 0 (va_up (u 0) 4 ((u 0 4) + 1))) 2 (va_up (u 2) (u 0 4) (v 1 (u 0 4)))) ++ wB qb cI v) := (by unfold r_take; rfl)
  rw [← w_1] at hP
  exact W.iret (v := nI (v 1 (u 0 4))) hx hb hrt (fun t ht hW => ⟨⟨_, (), rfl, rfl, by show va_P D vwCl _ t.heap; rw [ht]; exact hP⟩, hS.F ht⟩) hS.2.2 dX1_take_31
theorem inX1_doWell_X1 : ∀ w ∈ wsX10, w ∈ wsX1_doWell := by decide +kernel
set_option maxHeartbeats 4000000 in
set_option maxRecDepth 100000 in
theorem k_X1_doWell (l : Launch) (D : va_G) (cI cR cS cL : ClassId) (sz : Nat) (q : Nat → Nat) (u : Nat → Nat → Nat) : Met l yX1_doWell wsX1_doWell ({ frames := 1, cells := 0, slots := 0, locals := 18 }) (va_Pc [.ref (q 0)] (o_B D (o_T cI cR cS cL) (wR q cI u) sz)) (va_Qv (fun (_ : Unit) => True) (fun (_ : Unit) t => va_P D vwCl (wR q cI (r_well u)) t.heap) (va_A (wR q cI u) sz)) 0 0 (va_A (wR q cI u) sz) := by
  refine Met.ofW (cc := cX1_doWell) (maxL := 1) (ret := none) (by decide) rfl ?_
  intro p e s m args below meth cd s₁ B hml hv
  obtain ⟨rfl, hsz, hP, hK, hD0, hN⟩ := hv
  have hx := B.exec
  have hb := B.bytes
  have hrt := B.returns
  have hts := atoms_spec (ws := wsX1_doWell) B.pre
  have hown : s.vm.findClass RX1 = some m.cls := findClass_of_methodNamed B.named
  have hlocks := B.notSynchronized
  subst hsz
  have hD := hD0.self (sz := s.heap.size)
  generalize hAe : va_A (wR q cI u) s.heap.size = A at hD ⊢
  have hA : ∀ q : Nat, s.heap.size ≤ q → A q := fun q h => by rw [← hAe]; exact Or.inr h
  have hS : va_S A s.heap s.heap [] := va_S.rf
  have hl := lv_entry ([.ref (q 0)]) (n := 1) (Nat.le_of_ble_eq_true rfl)
  rw [lg_entry_eq]
  generalize (lg_sl ([.ref (q 0)]) ++ List.replicate (1 - (lg_sl ([.ref (q 0)])).length) Slot.unset).toArray = ls at hl ⊢
  have hl : lv_has ls 1 [(0, .ref (q 0))] := hl
  refine lv_aload_n hx hb dX1_doWell_0 rfl (lv_at hl 0 rfl) ?_
  refine o_const (k := 0) hx hb dX1_doWell_1 (by decide) ?_
  refine va_put (D := D) (ci := 1) (v := .int (nI 0)) (ty := .boolean) (C := RX1) (T := TX1) (N := 10) hx hb hts inX1_doWell_X1 tyX1 tyX1_ok nmX1 hown hK hP hD hS 0 rfl rfl 1 (by decide) (hts (.fieldLink RX1 22 "OddNotice$Reader" "reads" "Z") (List.mem_of_getElem? (i := 1) (by decide +kernel))) (fun _ h9 => h9) rfl (by decide +kernel) rfl rfl (Nat.le_of_ble_eq_true rfl) dX1_doWell_2 (fun H locs hP hD hS => ?_)
  have hP : va_P D vwCl (wR q cI (va_up u 0 (va_up (u 0) 1 0))) H := hP
  have hD : va_D A (wR q cI (va_up u 0 (va_up (u 0) 1 0))) := hD
  refine lv_aload_n hx hb dX1_doWell_5 rfl (lv_at hl 0 rfl) ?_
  refine o_const (k := 1) hx hb dX1_doWell_6 (by decide) ?_
  refine va_put (D := D) (ci := 1) (v := .int (nI 1)) (ty := .boolean) (C := RX1) (T := TX1) (N := 10) hx hb hts inX1_doWell_X1 tyX1 tyX1_ok nmX1 hown hK hP hD hS 0 rfl rfl 2 (by decide) (hts (.fieldLink RX1 25 "OddNotice$Reader" "holds" "Z") (List.mem_of_getElem? (i := 2) (by decide +kernel))) (fun _ h9 => h9) rfl (by decide +kernel) rfl rfl (Nat.le_of_ble_eq_true rfl) dX1_doWell_7 (fun H locs hP hD hS => ?_)
  have hP : va_P D vwCl (wR q cI (va_up u 0 (va_up (va_up (u 0) 1 0) 2 1))) H := hP
  have hD : va_D A (wR q cI (va_up u 0 (va_up (va_up (u 0) 1 0) 2 1))) := hD
  refine lv_aload_n hx hb dX1_doWell_10 rfl (lv_at hl 0 rfl) ?_
  refine va_get (D := D) (ci := 1) (v := .ref (q 2)) (C := RX1) (T := TX1) (N := 10) hx hb hts inX1_doWell_X1 hown hK hP 0 rfl rfl 9 (by decide) (hts (.fieldLink RX1 19 "OddNotice$Reader" "values" "[I") (List.mem_of_getElem? (i := 3) (by decide +kernel))) (fun _ h9 => h9) rfl dX1_doWell_11 ?_
  refine o_const (k := 0) hx hb dX1_doWell_14 (by decide) ?_
  refine lv_aload_n hx hb dX1_doWell_15 rfl (lv_at hl 0 rfl) ?_
  refine va_get (D := D) (ci := 1) (v := .ref (q 1)) (C := RX1) (T := TX1) (N := 10) hx hb hts inX1_doWell_X1 hown hK hP 0 rfl rfl 8 (by decide) (hts (.fieldLink RX1 15 "OddNotice$Reader" "held" "[I") (List.mem_of_getElem? (i := 4) (by decide +kernel))) (fun _ h9 => h9) rfl dX1_doWell_16 ?_
  refine o_const (k := 0) hx hb dX1_doWell_19 (by decide) ?_
  refine o_const (k := 5) hx hb dX1_doWell_20 (by decide) ?_
  refine o_copy (f := (u 2)) (g := (u 1)) hx hb (hml.trans hl.1.symm) hown (hts (.methodLink RX1 64 arraycopyName) (List.mem_of_getElem? (i := 5) (by decide +kernel))) (hts (.native arraycopyName) (List.mem_of_getElem? (i := 6) (by decide +kernel))) (hts (.static arraycopyName) (List.mem_of_getElem? (i := 7) (by decide +kernel))) (hts (.initialized "java/lang/System") (List.mem_of_getElem? (i := 8) (by decide +kernel))) hK hP hD hS 2 1 0 rfl rfl rfl (Nat.le_of_ble_eq_true rfl) (Nat.le_of_ble_eq_true rfl) (Nat.le_of_ble_eq_true rfl) (Nat.le_of_ble_eq_true rfl) (Nat.le_of_ble_eq_true rfl) (Nat.le_of_ble_eq_true rfl) dX1_doWell_21 (fun H locs hP hD hS => ?_)
  have hP := o_P_eq (g := (u 2)) hP 1 rfl (fun k hk => if_pos ⟨Nat.zero_le _, by omega⟩ |>.trans (by simp))
  have hD := o_D_eq (e := (oa cI (q 1) 5 (u 2)).2) hD (k := 1) rfl
  have hP : va_P D vwCl (wR q cI (va_up (va_up u 0 (va_up (va_up (u 0) 1 0) 2 1)) 1 (u 2))) H := hP
  have hD : va_D A (wR q cI (va_up (va_up u 0 (va_up (va_up (u 0) 1 0) 2 1)) 1 (u 2))) := hD
  refine lv_aload_n hx hb dX1_doWell_24 rfl (lv_at hl 0 rfl) ?_
  refine o_const (k := 0) hx hb dX1_doWell_25 (by decide) ?_
  refine va_put (D := D) (ci := 1) (v := .int (nI 0)) (ty := .int) (C := RX1) (T := TX1) (N := 10) hx hb hts inX1_doWell_X1 tyX1 tyX1_ok nmX1 hown hK hP hD hS 0 rfl rfl 5 (by decide) (hts (.fieldLink RX1 28 "OddNotice$Reader" "failedInRow" "I") (List.mem_of_getElem? (i := 9) (by decide +kernel))) (fun _ h9 => h9) rfl (by decide +kernel) rfl rfl (Nat.le_of_ble_eq_true rfl) dX1_doWell_26 (fun H locs hP hD hS => ?_)
  have hP : va_P D vwCl (wR q cI (va_up (va_up u 0 (va_up (va_up (va_up (u 0) 1 0) 2 1) 5 0)) 1 (u 2))) H := hP
  have hD : va_D A (wR q cI (va_up (va_up u 0 (va_up (va_up (va_up (u 0) 1 0) 2 1) 5 0)) 1 (u 2))) := hD
  refine lv_aload_n hx hb dX1_doWell_29 rfl (lv_at hl 0 rfl) ?_
  refine lv_dup hx hb dX1_doWell_30 rfl ?_
  refine va_get (D := D) (ci := 1) (v := .int (nI (u 0 7))) (C := RX1) (T := TX1) (N := 10) hx hb hts inX1_doWell_X1 hown hK hP 0 rfl rfl 7 (by decide) (hts (.fieldLink RX1 70 "OddNotice$Reader" "well" "I") (List.mem_of_getElem? (i := 10) (by decide +kernel))) (fun _ h9 => h9) rfl dX1_doWell_31 ?_
  refine o_const (k := 1) hx hb dX1_doWell_34 (by decide) ?_
  refine o_iadd (a := (u 0 7)) (b := 1) (k := ((u 0 7) + 1)) hx hb dX1_doWell_35 rfl ?_
  refine va_put (D := D) (ci := 1) (v := .int (nI ((u 0 7) + 1))) (ty := .int) (C := RX1) (T := TX1) (N := 10) hx hb hts inX1_doWell_X1 tyX1 tyX1_ok nmX1 hown hK hP hD hS 0 rfl rfl 7 (by decide) (hts (.fieldLink RX1 70 "OddNotice$Reader" "well" "I") (List.mem_of_getElem? (i := 10) (by decide +kernel))) (fun _ h9 => h9) rfl (by decide +kernel) rfl rfl (Nat.le_of_ble_eq_true rfl) dX1_doWell_36 (fun H locs hP hD hS => ?_)
  have hP : va_P D vwCl (wR q cI (va_up (va_up u 0 (va_up (va_up (va_up (va_up (u 0) 1 0) 2 1) 5 0) 7 ((u 0 7) + 1))) 1 (u 2))) H := hP
  have hD : va_D A (wR q cI (va_up (va_up u 0 (va_up (va_up (va_up (va_up (u 0) 1 0) 2 1) 5 0) 7 ((u 0 7) + 1))) 1 (u 2))) := hD
  have w_1 : (wR q cI (r_well u)) = (wR q cI (va_up (va_up u 0 (va_up (va_up (va_up (va_up (u 0) 1 0) 2 1) 5 0) 7 ((u 0 7) + 1))) 1 (u 2))) := (by unfold r_well; rfl)
  rw [← w_1] at hP
  exact W.vret hx hb hrt (fun t ht hW => ⟨⟨(), rfl, trivial, by show va_P D vwCl _ t.heap; rw [ht]; exact hP⟩, hS.F ht⟩) hS.2.2 dX1_doWell_39
theorem inX1_copyFrom_X1 : ∀ w ∈ wsX10, w ∈ wsX1_copyFrom := by decide +kernel
set_option maxHeartbeats 4000000 in
set_option maxRecDepth 100000 in
theorem k_X1_copyFrom (l : Launch) (D : va_G) (cI cR cS cL : ClassId) (sz : Nat) (q : Nat → Nat) (u : Nat → Nat → Nat) (qb : Nat → Nat) (v : Nat → Nat → Nat) (hz : v 0 0 ≤ 1 ∧ v 0 1 ≤ 1 ∧ v 0 2 ≤ 1) : Met l yX1_copyFrom wsX1_copyFrom ({ frames := 1, cells := 0, slots := 0, locals := 18 }) (va_Pc [.ref (q 0), .ref (qb 0)] (o_B D (o_T cI cR cS cL) (wR q cI u ++ wR qb cI v) sz)) (va_Qv (fun (_ : Unit) => True) (fun (_ : Unit) t => va_P D vwCl (wR q cI v ++ wR qb cI v) t.heap) (va_A (wR q cI u ++ wR qb cI v) sz)) 0 0 (va_A (wR q cI u ++ wR qb cI v) sz) := by
  refine Met.ofW (cc := cX1_copyFrom) (maxL := 2) (ret := none) (by decide) rfl ?_
  intro p e s m args below meth cd s₁ B hml hv
  obtain ⟨rfl, hsz, hP, hK, hD0, hN⟩ := hv
  have hx := B.exec
  have hb := B.bytes
  have hrt := B.returns
  have hts := atoms_spec (ws := wsX1_copyFrom) B.pre
  have hown : s.vm.findClass RX1 = some m.cls := findClass_of_methodNamed B.named
  have hlocks := B.notSynchronized
  subst hsz
  have hD := hD0.self (sz := s.heap.size)
  generalize hAe : va_A (wR q cI u ++ wR qb cI v) s.heap.size = A at hD ⊢
  have hA : ∀ q : Nat, s.heap.size ≤ q → A q := fun q h => by rw [← hAe]; exact Or.inr h
  have hS : va_S A s.heap s.heap [] := va_S.rf
  have hl := lv_entry ([.ref (q 0), .ref (qb 0)]) (n := 2) (Nat.le_of_ble_eq_true rfl)
  rw [lg_entry_eq]
  generalize (lg_sl ([.ref (q 0), .ref (qb 0)]) ++ List.replicate (2 - (lg_sl ([.ref (q 0), .ref (qb 0)])).length) Slot.unset).toArray = ls at hl ⊢
  have hl : lv_has ls 2 [(0, .ref (q 0)), (1, .ref (qb 0))] := hl
  refine lv_aload_n hx hb dX1_copyFrom_0 rfl (lv_at hl 0 rfl) ?_
  refine lv_aload_n hx hb dX1_copyFrom_1 rfl (lv_at hl 1 rfl) ?_
  refine va_get (D := D) (ci := 1) (v := .int (nI (v 0 0))) (C := RX1) (T := TX1) (N := 10) hx hb hts inX1_copyFrom_X1 hown hK hP 3 rfl rfl 0 (by decide) (hts (.fieldLink RX1 9 "OddNotice$Reader" "heeds" "Z") (List.mem_of_getElem? (i := 1) (by decide +kernel))) (fun _ h9 => h9) rfl dX1_copyFrom_2 ?_
  refine va_put (D := D) (ci := 1) (v := .int (nI (v 0 0))) (ty := .boolean) (C := RX1) (T := TX1) (N := 10) hx hb hts inX1_copyFrom_X1 tyX1 tyX1_ok nmX1 hown hK hP hD hS 0 rfl rfl 0 (by decide) (hts (.fieldLink RX1 9 "OddNotice$Reader" "heeds" "Z") (List.mem_of_getElem? (i := 1) (by decide +kernel))) (fun _ h9 => h9) rfl (by decide +kernel) (o_nz (by omega)) (o_fz (by omega)) (Nat.le_of_ble_eq_true rfl) dX1_copyFrom_5 (fun H locs hP hD hS => ?_)
  have hP : va_P D vwCl (wR q cI (va_up u 0 (va_up (u 0) 0 (v 0 0))) ++ wR qb cI v) H := hP
  have hD : va_D A (wR q cI (va_up u 0 (va_up (u 0) 0 (v 0 0))) ++ wR qb cI v) := hD
  refine lv_aload_n hx hb dX1_copyFrom_8 rfl (lv_at hl 0 rfl) ?_
  refine lv_aload_n hx hb dX1_copyFrom_9 rfl (lv_at hl 1 rfl) ?_
  refine va_get (D := D) (ci := 1) (v := .int (nI (v 0 1))) (C := RX1) (T := TX1) (N := 10) hx hb hts inX1_copyFrom_X1 hown hK hP 3 rfl rfl 1 (by decide) (hts (.fieldLink RX1 22 "OddNotice$Reader" "reads" "Z") (List.mem_of_getElem? (i := 2) (by decide +kernel))) (fun _ h9 => h9) rfl dX1_copyFrom_10 ?_
  refine va_put (D := D) (ci := 1) (v := .int (nI (v 0 1))) (ty := .boolean) (C := RX1) (T := TX1) (N := 10) hx hb hts inX1_copyFrom_X1 tyX1 tyX1_ok nmX1 hown hK hP hD hS 0 rfl rfl 1 (by decide) (hts (.fieldLink RX1 22 "OddNotice$Reader" "reads" "Z") (List.mem_of_getElem? (i := 2) (by decide +kernel))) (fun _ h9 => h9) rfl (by decide +kernel) (o_nz (by omega)) (o_fz (by omega)) (Nat.le_of_ble_eq_true rfl) dX1_copyFrom_13 (fun H locs hP hD hS => ?_)
  have hP : va_P D vwCl (wR q cI (va_up u 0 (va_up (va_up (u 0) 0 (v 0 0)) 1 (v 0 1))) ++ wR qb cI v) H := hP
  have hD : va_D A (wR q cI (va_up u 0 (va_up (va_up (u 0) 0 (v 0 0)) 1 (v 0 1))) ++ wR qb cI v) := hD
  refine lv_aload_n hx hb dX1_copyFrom_16 rfl (lv_at hl 0 rfl) ?_
  refine lv_aload_n hx hb dX1_copyFrom_17 rfl (lv_at hl 1 rfl) ?_
  refine va_get (D := D) (ci := 1) (v := .int (nI (v 0 2))) (C := RX1) (T := TX1) (N := 10) hx hb hts inX1_copyFrom_X1 hown hK hP 3 rfl rfl 2 (by decide) (hts (.fieldLink RX1 25 "OddNotice$Reader" "holds" "Z") (List.mem_of_getElem? (i := 3) (by decide +kernel))) (fun _ h9 => h9) rfl dX1_copyFrom_18 ?_
  refine va_put (D := D) (ci := 1) (v := .int (nI (v 0 2))) (ty := .boolean) (C := RX1) (T := TX1) (N := 10) hx hb hts inX1_copyFrom_X1 tyX1 tyX1_ok nmX1 hown hK hP hD hS 0 rfl rfl 2 (by decide) (hts (.fieldLink RX1 25 "OddNotice$Reader" "holds" "Z") (List.mem_of_getElem? (i := 3) (by decide +kernel))) (fun _ h9 => h9) rfl (by decide +kernel) (o_nz (by omega)) (o_fz (by omega)) (Nat.le_of_ble_eq_true rfl) dX1_copyFrom_21 (fun H locs hP hD hS => ?_)
  have hP : va_P D vwCl (wR q cI (va_up u 0 (va_up (va_up (va_up (u 0) 0 (v 0 0)) 1 (v 0 1)) 2 (v 0 2))) ++ wR qb cI v) H := hP
  have hD : va_D A (wR q cI (va_up u 0 (va_up (va_up (va_up (u 0) 0 (v 0 0)) 1 (v 0 1)) 2 (v 0 2))) ++ wR qb cI v) := hD
  refine lv_aload_n hx hb dX1_copyFrom_24 rfl (lv_at hl 0 rfl) ?_
  refine lv_aload_n hx hb dX1_copyFrom_25 rfl (lv_at hl 1 rfl) ?_
  refine va_get (D := D) (ci := 1) (v := .int (nI (v 0 3))) (C := RX1) (T := TX1) (N := 10) hx hb hts inX1_copyFrom_X1 hown hK hP 3 rfl rfl 3 (by decide) (hts (.fieldLink RX1 48 "OddNotice$Reader" "noted" "I") (List.mem_of_getElem? (i := 4) (by decide +kernel))) (fun _ h9 => h9) rfl dX1_copyFrom_26 ?_
  refine va_put (D := D) (ci := 1) (v := .int (nI (v 0 3))) (ty := .int) (C := RX1) (T := TX1) (N := 10) hx hb hts inX1_copyFrom_X1 tyX1 tyX1_ok nmX1 hown hK hP hD hS 0 rfl rfl 3 (by decide) (hts (.fieldLink RX1 48 "OddNotice$Reader" "noted" "I") (List.mem_of_getElem? (i := 4) (by decide +kernel))) (fun _ h9 => h9) rfl (by decide +kernel) rfl rfl (Nat.le_of_ble_eq_true rfl) dX1_copyFrom_29 (fun H locs hP hD hS => ?_)
  have hP : va_P D vwCl (wR q cI (va_up u 0 (va_up (va_up (va_up (va_up (u 0) 0 (v 0 0)) 1 (v 0 1)) 2 (v 0 2)) 3 (v 0 3))) ++ wR qb cI v) H := hP
  have hD : va_D A (wR q cI (va_up u 0 (va_up (va_up (va_up (va_up (u 0) 0 (v 0 0)) 1 (v 0 1)) 2 (v 0 2)) 3 (v 0 3))) ++ wR qb cI v) := hD
  refine lv_aload_n hx hb dX1_copyFrom_32 rfl (lv_at hl 0 rfl) ?_
  refine lv_aload_n hx hb dX1_copyFrom_33 rfl (lv_at hl 1 rfl) ?_
  refine va_get (D := D) (ci := 1) (v := .int (nI (v 0 4))) (C := RX1) (T := TX1) (N := 10) hx hb hts inX1_copyFrom_X1 hown hK hP 3 rfl rfl 4 (by decide) (hts (.fieldLink RX1 51 "OddNotice$Reader" "taken" "I") (List.mem_of_getElem? (i := 5) (by decide +kernel))) (fun _ h9 => h9) rfl dX1_copyFrom_34 ?_
  refine va_put (D := D) (ci := 1) (v := .int (nI (v 0 4))) (ty := .int) (C := RX1) (T := TX1) (N := 10) hx hb hts inX1_copyFrom_X1 tyX1 tyX1_ok nmX1 hown hK hP hD hS 0 rfl rfl 4 (by decide) (hts (.fieldLink RX1 51 "OddNotice$Reader" "taken" "I") (List.mem_of_getElem? (i := 5) (by decide +kernel))) (fun _ h9 => h9) rfl (by decide +kernel) rfl rfl (Nat.le_of_ble_eq_true rfl) dX1_copyFrom_37 (fun H locs hP hD hS => ?_)
  have hP : va_P D vwCl (wR q cI (va_up u 0 (va_up (va_up (va_up (va_up (va_up (u 0) 0 (v 0 0)) 1 (v 0 1)) 2 (v 0 2)) 3 (v 0 3)) 4 (v 0 4))) ++ wR qb cI v) H := hP
  have hD : va_D A (wR q cI (va_up u 0 (va_up (va_up (va_up (va_up (va_up (u 0) 0 (v 0 0)) 1 (v 0 1)) 2 (v 0 2)) 3 (v 0 3)) 4 (v 0 4))) ++ wR qb cI v) := hD
  refine lv_aload_n hx hb dX1_copyFrom_40 rfl (lv_at hl 0 rfl) ?_
  refine lv_aload_n hx hb dX1_copyFrom_41 rfl (lv_at hl 1 rfl) ?_
  refine va_get (D := D) (ci := 1) (v := .int (nI (v 0 5))) (C := RX1) (T := TX1) (N := 10) hx hb hts inX1_copyFrom_X1 hown hK hP 3 rfl rfl 5 (by decide) (hts (.fieldLink RX1 28 "OddNotice$Reader" "failedInRow" "I") (List.mem_of_getElem? (i := 6) (by decide +kernel))) (fun _ h9 => h9) rfl dX1_copyFrom_42 ?_
  refine va_put (D := D) (ci := 1) (v := .int (nI (v 0 5))) (ty := .int) (C := RX1) (T := TX1) (N := 10) hx hb hts inX1_copyFrom_X1 tyX1 tyX1_ok nmX1 hown hK hP hD hS 0 rfl rfl 5 (by decide) (hts (.fieldLink RX1 28 "OddNotice$Reader" "failedInRow" "I") (List.mem_of_getElem? (i := 6) (by decide +kernel))) (fun _ h9 => h9) rfl (by decide +kernel) rfl rfl (Nat.le_of_ble_eq_true rfl) dX1_copyFrom_45 (fun H locs hP hD hS => ?_)
  have hP : va_P D vwCl (wR q cI (va_up u 0 (va_up (va_up (va_up (va_up (va_up (va_up (u 0) 0 (v 0 0)) 1 (v 0 1)) 2 (v 0 2)) 3 (v 0 3)) 4 (v 0 4)) 5 (v 0 5))) ++ wR qb cI v) H := hP
  have hD : va_D A (wR q cI (va_up u 0 (va_up (va_up (va_up (va_up (va_up (va_up (u 0) 0 (v 0 0)) 1 (v 0 1)) 2 (v 0 2)) 3 (v 0 3)) 4 (v 0 4)) 5 (v 0 5))) ++ wR qb cI v) := hD
  refine lv_aload_n hx hb dX1_copyFrom_48 rfl (lv_at hl 0 rfl) ?_
  refine lv_aload_n hx hb dX1_copyFrom_49 rfl (lv_at hl 1 rfl) ?_
  refine va_get (D := D) (ci := 1) (v := .int (nI (v 0 6))) (C := RX1) (T := TX1) (N := 10) hx hb hts inX1_copyFrom_X1 hown hK hP 3 rfl rfl 6 (by decide) (hts (.fieldLink RX1 61 "OddNotice$Reader" "failed" "I") (List.mem_of_getElem? (i := 7) (by decide +kernel))) (fun _ h9 => h9) rfl dX1_copyFrom_50 ?_
  refine va_put (D := D) (ci := 1) (v := .int (nI (v 0 6))) (ty := .int) (C := RX1) (T := TX1) (N := 10) hx hb hts inX1_copyFrom_X1 tyX1 tyX1_ok nmX1 hown hK hP hD hS 0 rfl rfl 6 (by decide) (hts (.fieldLink RX1 61 "OddNotice$Reader" "failed" "I") (List.mem_of_getElem? (i := 7) (by decide +kernel))) (fun _ h9 => h9) rfl (by decide +kernel) rfl rfl (Nat.le_of_ble_eq_true rfl) dX1_copyFrom_53 (fun H locs hP hD hS => ?_)
  have hP : va_P D vwCl (wR q cI (va_up u 0 (va_up (va_up (va_up (va_up (va_up (va_up (va_up (u 0) 0 (v 0 0)) 1 (v 0 1)) 2 (v 0 2)) 3 (v 0 3)) 4 (v 0 4)) 5 (v 0 5)) 6 (v 0 6))) ++ wR qb cI v) H := hP
  have hD : va_D A (wR q cI (va_up u 0 (va_up (va_up (va_up (va_up (va_up (va_up (va_up (u 0) 0 (v 0 0)) 1 (v 0 1)) 2 (v 0 2)) 3 (v 0 3)) 4 (v 0 4)) 5 (v 0 5)) 6 (v 0 6))) ++ wR qb cI v) := hD
  refine lv_aload_n hx hb dX1_copyFrom_56 rfl (lv_at hl 0 rfl) ?_
  refine lv_aload_n hx hb dX1_copyFrom_57 rfl (lv_at hl 1 rfl) ?_
  refine va_get (D := D) (ci := 1) (v := .int (nI (v 0 7))) (C := RX1) (T := TX1) (N := 10) hx hb hts inX1_copyFrom_X1 hown hK hP 3 rfl rfl 7 (by decide) (hts (.fieldLink RX1 70 "OddNotice$Reader" "well" "I") (List.mem_of_getElem? (i := 8) (by decide +kernel))) (fun _ h9 => h9) rfl dX1_copyFrom_58 ?_
  refine va_put (D := D) (ci := 1) (v := .int (nI (v 0 7))) (ty := .int) (C := RX1) (T := TX1) (N := 10) hx hb hts inX1_copyFrom_X1 tyX1 tyX1_ok nmX1 hown hK hP hD hS 0 rfl rfl 7 (by decide) (hts (.fieldLink RX1 70 "OddNotice$Reader" "well" "I") (List.mem_of_getElem? (i := 8) (by decide +kernel))) (fun _ h9 => h9) rfl (by decide +kernel) rfl rfl (Nat.le_of_ble_eq_true rfl) dX1_copyFrom_61 (fun H locs hP hD hS => ?_)
  have hP : va_P D vwCl (wR q cI (va_up u 0 (va_up (va_up (va_up (va_up (va_up (va_up (va_up (va_up (u 0) 0 (v 0 0)) 1 (v 0 1)) 2 (v 0 2)) 3 (v 0 3)) 4 (v 0 4)) 5 (v 0 5)) 6 (v 0 6)) 7 (v 0 7))) ++ wR qb cI v) H := hP
  have hD : va_D A (wR q cI (va_up u 0 (va_up (va_up (va_up (va_up (va_up (va_up (va_up (va_up (u 0) 0 (v 0 0)) 1 (v 0 1)) 2 (v 0 2)) 3 (v 0 3)) 4 (v 0 4)) 5 (v 0 5)) 6 (v 0 6)) 7 (v 0 7))) ++ wR qb cI v) := hD
  refine lv_aload_n hx hb dX1_copyFrom_64 rfl (lv_at hl 1 rfl) ?_
  refine va_get (D := D) (ci := 1) (v := .ref (qb 1)) (C := RX1) (T := TX1) (N := 10) hx hb hts inX1_copyFrom_X1 hown hK hP 3 rfl rfl 8 (by decide) (hts (.fieldLink RX1 15 "OddNotice$Reader" "held" "[I") (List.mem_of_getElem? (i := 9) (by decide +kernel))) (fun _ h9 => h9) rfl dX1_copyFrom_65 ?_
  refine o_const (k := 0) hx hb dX1_copyFrom_68 (by decide) ?_
  refine lv_aload_n hx hb dX1_copyFrom_69 rfl (lv_at hl 0 rfl) ?_
  refine va_get (D := D) (ci := 1) (v := .ref (q 1)) (C := RX1) (T := TX1) (N := 10) hx hb hts inX1_copyFrom_X1 hown hK hP 0 rfl rfl 8 (by decide) (hts (.fieldLink RX1 15 "OddNotice$Reader" "held" "[I") (List.mem_of_getElem? (i := 9) (by decide +kernel))) (fun _ h9 => h9) rfl dX1_copyFrom_70 ?_
  refine o_const (k := 0) hx hb dX1_copyFrom_73 (by decide) ?_
  refine o_const (k := 5) hx hb dX1_copyFrom_74 (by decide) ?_
  refine o_copy (f := (v 1)) (g := (u 1)) hx hb (hml.trans hl.1.symm) hown (hts (.methodLink RX1 64 arraycopyName) (List.mem_of_getElem? (i := 10) (by decide +kernel))) (hts (.native arraycopyName) (List.mem_of_getElem? (i := 11) (by decide +kernel))) (hts (.static arraycopyName) (List.mem_of_getElem? (i := 12) (by decide +kernel))) (hts (.initialized "java/lang/System") (List.mem_of_getElem? (i := 13) (by decide +kernel))) hK hP hD hS 4 1 0 rfl rfl rfl (Nat.le_of_ble_eq_true rfl) (Nat.le_of_ble_eq_true rfl) (Nat.le_of_ble_eq_true rfl) (Nat.le_of_ble_eq_true rfl) (Nat.le_of_ble_eq_true rfl) (Nat.le_of_ble_eq_true rfl) dX1_copyFrom_75 (fun H locs hP hD hS => ?_)
  have hP := o_P_eq (g := (v 1)) hP 1 rfl (fun k hk => if_pos ⟨Nat.zero_le _, by omega⟩ |>.trans (by simp))
  have hD := o_D_eq (e := (oa cI (q 1) 5 (v 1)).2) hD (k := 1) rfl
  have hP : va_P D vwCl (wR q cI (va_up (va_up u 0 (va_up (va_up (va_up (va_up (va_up (va_up (va_up (va_up (u 0) 0 (v 0 0)) 1 (v 0 1)) 2 (v 0 2)) 3 (v 0 3)) 4 (v 0 4)) 5 (v 0 5)) 6 (v 0 6)) 7 (v 0 7))) 1 (v 1)) ++ wR qb cI v) H := hP
  have hD : va_D A (wR q cI (va_up (va_up u 0 (va_up (va_up (va_up (va_up (va_up (va_up (va_up (va_up (u 0) 0 (v 0 0)) 1 (v 0 1)) 2 (v 0 2)) 3 (v 0 3)) 4 (v 0 4)) 5 (v 0 5)) 6 (v 0 6)) 7 (v 0 7))) 1 (v 1)) ++ wR qb cI v) := hD
  refine lv_aload_n hx hb dX1_copyFrom_78 rfl (lv_at hl 1 rfl) ?_
  refine va_get (D := D) (ci := 1) (v := .ref (qb 2)) (C := RX1) (T := TX1) (N := 10) hx hb hts inX1_copyFrom_X1 hown hK hP 3 rfl rfl 9 (by decide) (hts (.fieldLink RX1 19 "OddNotice$Reader" "values" "[I") (List.mem_of_getElem? (i := 14) (by decide +kernel))) (fun _ h9 => h9) rfl dX1_copyFrom_79 ?_
  refine o_const (k := 0) hx hb dX1_copyFrom_82 (by decide) ?_
  refine lv_aload_n hx hb dX1_copyFrom_83 rfl (lv_at hl 0 rfl) ?_
  refine va_get (D := D) (ci := 1) (v := .ref (q 2)) (C := RX1) (T := TX1) (N := 10) hx hb hts inX1_copyFrom_X1 hown hK hP 0 rfl rfl 9 (by decide) (hts (.fieldLink RX1 19 "OddNotice$Reader" "values" "[I") (List.mem_of_getElem? (i := 14) (by decide +kernel))) (fun _ h9 => h9) rfl dX1_copyFrom_84 ?_
  refine o_const (k := 0) hx hb dX1_copyFrom_87 (by decide) ?_
  refine o_const (k := 5) hx hb dX1_copyFrom_88 (by decide) ?_
  refine o_copy (f := (v 2)) (g := (u 2)) hx hb (hml.trans hl.1.symm) hown (hts (.methodLink RX1 64 arraycopyName) (List.mem_of_getElem? (i := 10) (by decide +kernel))) (hts (.native arraycopyName) (List.mem_of_getElem? (i := 11) (by decide +kernel))) (hts (.static arraycopyName) (List.mem_of_getElem? (i := 12) (by decide +kernel))) (hts (.initialized "java/lang/System") (List.mem_of_getElem? (i := 13) (by decide +kernel))) hK hP hD hS 5 2 0 rfl rfl rfl (Nat.le_of_ble_eq_true rfl) (Nat.le_of_ble_eq_true rfl) (Nat.le_of_ble_eq_true rfl) (Nat.le_of_ble_eq_true rfl) (Nat.le_of_ble_eq_true rfl) (Nat.le_of_ble_eq_true rfl) dX1_copyFrom_89 (fun H locs hP hD hS => ?_)
  have hP := o_P_eq (g := (v 2)) hP 2 rfl (fun k hk => if_pos ⟨Nat.zero_le _, by omega⟩ |>.trans (by simp))
  have hD := o_D_eq (e := (oa cI (q 2) 5 (v 2)).2) hD (k := 2) rfl
  have hP : va_P D vwCl (wR q cI (va_up (va_up (va_up u 0 (va_up (va_up (va_up (va_up (va_up (va_up (va_up (va_up (u 0) 0 (v 0 0)) 1 (v 0 1)) 2 (v 0 2)) 3 (v 0 3)) 4 (v 0 4)) 5 (v 0 5)) 6 (v 0 6)) 7 (v 0 7))) 1 (v 1)) 2 (v 2)) ++ wR qb cI v) H := hP
  have hD : va_D A (wR q cI (va_up (va_up (va_up u 0 (va_up (va_up (va_up (va_up (va_up (va_up (va_up (va_up (u 0) 0 (v 0 0)) 1 (v 0 1)) 2 (v 0 2)) 3 (v 0 3)) 4 (v 0 4)) 5 (v 0 5)) 6 (v 0 6)) 7 (v 0 7))) 1 (v 1)) 2 (v 2)) ++ wR qb cI v) := hD
  have w_1 : (wR q cI v ++ wR qb cI v) = (wR q cI (va_up (va_up (va_up u 0 (va_up (va_up (va_up (va_up (va_up (va_up (va_up (va_up (u 0) 0 (v 0 0)) 1 (v 0 1)) 2 (v 0 2)) 3 (v 0 3)) 4 (v 0 4)) 5 (v 0 5)) 6 (v 0 6)) 7 (v 0 7))) 1 (v 1)) 2 (v 2)) ++ wR qb cI v) := rfl
  rw [← w_1] at hP
  exact W.vret hx hb hrt (fun t ht hW => ⟨⟨(), rfl, trivial, by show va_P D vwCl _ t.heap; rw [ht]; exact hP⟩, hS.F ht⟩) hS.2.2 dX1_copyFrom_92
theorem inX1_fillWouldTake_X1 : ∀ w ∈ wsX10, w ∈ wsX1_fillWouldTake := by decide +kernel
theorem inX1_fillWouldTake_X0 : ∀ w ∈ wsX00, w ∈ wsX1_fillWouldTake := by decide +kernel
set_option maxHeartbeats 4000000 in
set_option maxRecDepth 100000 in
theorem k_X1_fillWouldTake (l : Launch) (D : va_G) (cI cR cS cL : ClassId) (sz : Nat) (q : Nat → Nat) (u : Nat → Nat → Nat) (qb : Nat → Nat) (v : Nat → Nat → Nat) (a : Nat) (w : Nat → Nat) (h1 : u 0 1 < 2 ^ 31) (h4 : u 0 4 < 2 ^ 31) : Met l yX1_fillWouldTake wsX1_fillWouldTake ({ frames := 0, cells := 0, slots := 0, locals := 0 }) (va_Pc [.ref (q 0), .ref a, .ref (qb 0)] (o_B D (o_T cI cR cS cL) (wR q cI u ++ (wB qb cI v ++ [oa cI a 5 w])) sz)) (va_Qv (fun (_ : Unit) => True) (fun (_ : Unit) t => va_P D vwCl (wR q cI u ++ (wB qb cI v ++ [oa cI a 5 (r_fill u v w 5)])) t.heap) (va_A (wR q cI u ++ (wB qb cI v ++ [oa cI a 5 w])) sz)) 0 0 (va_A (wR q cI u ++ (wB qb cI v ++ [oa cI a 5 w])) sz) := by
  refine Met.ofW (cc := cX1_fillWouldTake) (maxL := 4) (ret := none) (by decide) rfl ?_
  intro p e s m args below meth cd s₁ B hml hv
  obtain ⟨rfl, hsz, hP, hK, hD0, hN⟩ := hv
  have hx := B.exec
  have hb := B.bytes
  have hrt := B.returns
  have hts := atoms_spec (ws := wsX1_fillWouldTake) B.pre
  have hown : s.vm.findClass RX1 = some m.cls := findClass_of_methodNamed B.named
  have hlocks := B.notSynchronized
  subst hsz
  have hD := hD0.self (sz := s.heap.size)
  generalize hAe : va_A (wR q cI u ++ (wB qb cI v ++ [oa cI a 5 w])) s.heap.size = A at hD ⊢
  have hA : ∀ q : Nat, s.heap.size ≤ q → A q := fun q h => by rw [← hAe]; exact Or.inr h
  have hS : va_S A s.heap s.heap [] := va_S.rf
  have hl := lv_entry ([.ref (q 0), .ref a, .ref (qb 0)]) (n := 4) (Nat.le_of_ble_eq_true rfl)
  rw [lg_entry_eq]
  generalize (lg_sl ([.ref (q 0), .ref a, .ref (qb 0)]) ++ List.replicate (4 - (lg_sl ([.ref (q 0), .ref a, .ref (qb 0)])).length) Slot.unset).toArray = ls at hl ⊢
  have hl : lv_has ls 4 [(0, .ref (q 0)), (1, .ref a), (2, .ref (qb 0))] := hl
  refine o_const (k := 0) hx hb dX1_fillWouldTake_0 (by decide) ?_
  refine lv_istore_n (lv' := [(3, .int (nI 0)), (0, .ref (q 0)), (1, .ref a), (2, .ref (qb 0))]) hx hb dX1_fillWouldTake_1 rfl hl (by decide) rfl (fun ls hl => ?_)
  have lp_1 : ∀ (fu : Nat) (i : Nat), i ≤ 5 → 5 - i < fu → ∀ (H : Heap) (locs : List Loc) (hP : va_P D vwCl (wR q cI u ++ (wB qb cI v ++ [oa cI a 5 (r_fill u v w i)])) H) (hD : va_D A (wR q cI u ++ (wB qb cI v ++ [oa cI a 5 (r_fill u v w i)]))) (hS : va_S A s.heap H locs) (ls : Array Slot) (hl : lv_has ls 4 [(3, .int (nI i)), (0, .ref (q 0)), (1, .ref a), (2, .ref (qb 0))]), W p l e (headSpec wsX1_fillWouldTake ({ frames := 0, cells := 0, slots := 0, locals := 0 })).room s m ([.ref (q 0), .ref a, .ref (qb 0)] : List Value).toArray below meth cd H locs 0 0 (MQ below (va_Qv (fun (_ : Unit) => True) (fun (_ : Unit) t => va_P D vwCl (wR q cI u ++ (wB qb cI v ++ [oa cI a 5 (r_fill u v w 5)])) t.heap) A) ([.ref (q 0), .ref a, .ref (qb 0)] : List Value).toArray s 0 0 A) (F0 m 2 ls []) := by
    intro fu
    induction fu with
    | zero => intro i hi hm; exact absurd hm (Nat.not_lt_zero _)
    | succ fu ih_1 =>
      intro i hi hm_1 H locs hP hD hS ls hl
      refine lv_iload_n hx hb dX1_fillWouldTake_2 rfl (lv_at hl 0 rfl) ?_
      refine o_const (k := 5) hx hb dX1_fillWouldTake_3 (by decide) ?_
      refine o_icmp_ge (tgt := 46) hx hb dX1_fillWouldTake_4 (by decide) (by omega) (Nat.le_of_ble_eq_true rfl) (fun c_1 => ?_) (fun c_1 => ?_)
      · skip
        have w_2 : (wR q cI u ++ (wB qb cI v ++ [oa cI a 5 (r_fill u v w 5)])) = (wR q cI u ++ (wB qb cI v ++ [oa cI a 5 (r_fill u v w i)])) := (by rw [show i = 5 by omega])
        rw [← w_2] at hP
        exact W.vret hx hb hrt (fun t ht hW => ⟨⟨(), rfl, trivial, by show va_P D vwCl _ t.heap; rw [ht]; exact hP⟩, hS.F ht⟩) hS.2.2 dX1_fillWouldTake_46
      · skip
        refine lv_aload_n hx hb dX1_fillWouldTake_7 rfl (lv_at hl 2 rfl) ?_
        refine lv_iload_n hx hb dX1_fillWouldTake_8 rfl (lv_at hl 0 rfl) ?_
        refine lv_aload_n hx hb dX1_fillWouldTake_9 rfl (lv_at hl 1 rfl) ?_
        refine va_get (D := D) (ci := 1) (v := .int (nI (u 0 1))) (C := RX1) (T := TX1) (N := 10) hx hb hts inX1_fillWouldTake_X1 hown hK hP 0 rfl rfl 1 (by decide) (hts (.fieldLink RX1 22 "OddNotice$Reader" "reads" "Z") (List.mem_of_getElem? (i := 1) (by decide +kernel))) (fun _ h9 => h9) rfl dX1_fillWouldTake_10 ?_
        refine o_if_eq (tgt := 33) hx hb dX1_fillWouldTake_13 (by decide) (by omega) (fun c_3 => ?_) (fun c_3 => ?_)
        · skip
          refine lv_aload_n hx hb dX1_fillWouldTake_33 rfl (lv_at hl 3 rfl) ?_
          refine va_get (D := D) (ci := 0) (v := .ref (qb 1)) (C := RX0) (T := TX0) (N := 5) hx hb hts inX1_fillWouldTake_X0 hown hK hP 3 rfl rfl 1 (by decide) (hts (.fieldLink RX1 58 "OddNotice$Board" "fields" "[I") (List.mem_of_getElem? (i := 4) (by decide +kernel))) (fun _ h9 => h9) rfl dX1_fillWouldTake_34 ?_
          refine lv_iload_n hx hb dX1_fillWouldTake_37 rfl (lv_at hl 0 rfl) ?_
          refine o_iald (v := nI (v 1 i)) hx hb hK hP 4 0 rfl rfl (by omega) (Nat.le_of_ble_eq_true rfl) rfl dX1_fillWouldTake_38 ?_
          refine o_iast (g := (r_fill u v w i)) hx hb hK hP hD hS 8 0 rfl rfl (by omega) (Nat.le_of_ble_eq_true rfl) dX1_fillWouldTake_39 (fun H locs hP hD hS => ?_)
          have hP : va_P D vwCl (wR q cI u ++ (wB qb cI v ++ [oa cI a 5 (va_up (r_fill u v w i) i (v 1 i))])) H := hP
          have hD : va_D A (wR q cI u ++ (wB qb cI v ++ [oa cI a 5 (va_up (r_fill u v w i) i (v 1 i))])) := hD
          refine lv_iinc (v := nI (i + 1)) (lv' := [(3, .int (nI (i + 1))), (0, .ref (q 0)), (1, .ref a), (2, .ref (qb 0))]) hx hb dX1_fillWouldTake_40 hl (k := 0) rfl (o_inc1 _) (by decide) rfl (fun ls hl => ?_)
          refine lv_goto (tgt := 2) hx hb dX1_fillWouldTake_43 (by decide) ?_
          have w_4 : (wR q cI u ++ (wB qb cI v ++ [oa cI a 5 (va_up (r_fill u v w i) i (v 1 i))])) = (wR q cI u ++ (wB qb cI v ++ [oa cI a 5 (r_fill u v w (i + 1))])) := by rw [r_fill_s u v w i _ (by unfold r_would; rw [if_neg (by omega)])]
          rw [w_4] at hP hD
          exact ih_1  (i + 1) (by omega) (by omega) _ _ hP hD hS ls (lv_sub hl [0, 1, 2, 3] rfl)
        · skip
          refine lv_iload_n hx hb dX1_fillWouldTake_16 rfl (lv_at hl 0 rfl) ?_
          refine lv_aload_n hx hb dX1_fillWouldTake_17 rfl (lv_at hl 1 rfl) ?_
          refine va_get (D := D) (ci := 1) (v := .int (nI (u 0 4))) (C := RX1) (T := TX1) (N := 10) hx hb hts inX1_fillWouldTake_X1 hown hK hP 0 rfl rfl 4 (by decide) (hts (.fieldLink RX1 51 "OddNotice$Reader" "taken" "I") (List.mem_of_getElem? (i := 2) (by decide +kernel))) (fun _ h9 => h9) rfl dX1_fillWouldTake_18 ?_
          refine o_icmp_ge (tgt := 33) hx hb dX1_fillWouldTake_21 (by decide) (by omega) (by omega) (fun c_5 => ?_) (fun c_5 => ?_)
          · skip
            refine lv_aload_n hx hb dX1_fillWouldTake_33 rfl (lv_at hl 3 rfl) ?_
            refine va_get (D := D) (ci := 0) (v := .ref (qb 1)) (C := RX0) (T := TX0) (N := 5) hx hb hts inX1_fillWouldTake_X0 hown hK hP 3 rfl rfl 1 (by decide) (hts (.fieldLink RX1 58 "OddNotice$Board" "fields" "[I") (List.mem_of_getElem? (i := 4) (by decide +kernel))) (fun _ h9 => h9) rfl dX1_fillWouldTake_34 ?_
            refine lv_iload_n hx hb dX1_fillWouldTake_37 rfl (lv_at hl 0 rfl) ?_
            refine o_iald (v := nI (v 1 i)) hx hb hK hP 4 0 rfl rfl (by omega) (Nat.le_of_ble_eq_true rfl) rfl dX1_fillWouldTake_38 ?_
            refine o_iast (g := (r_fill u v w i)) hx hb hK hP hD hS 8 0 rfl rfl (by omega) (Nat.le_of_ble_eq_true rfl) dX1_fillWouldTake_39 (fun H locs hP hD hS => ?_)
            have hP : va_P D vwCl (wR q cI u ++ (wB qb cI v ++ [oa cI a 5 (va_up (r_fill u v w i) i (v 1 i))])) H := hP
            have hD : va_D A (wR q cI u ++ (wB qb cI v ++ [oa cI a 5 (va_up (r_fill u v w i) i (v 1 i))])) := hD
            refine lv_iinc (v := nI (i + 1)) (lv' := [(3, .int (nI (i + 1))), (0, .ref (q 0)), (1, .ref a), (2, .ref (qb 0))]) hx hb dX1_fillWouldTake_40 hl (k := 0) rfl (o_inc1 _) (by decide) rfl (fun ls hl => ?_)
            refine lv_goto (tgt := 2) hx hb dX1_fillWouldTake_43 (by decide) ?_
            have w_6 : (wR q cI u ++ (wB qb cI v ++ [oa cI a 5 (va_up (r_fill u v w i) i (v 1 i))])) = (wR q cI u ++ (wB qb cI v ++ [oa cI a 5 (r_fill u v w (i + 1))])) := by rw [r_fill_s u v w i _ (by unfold r_would; rw [if_neg (by omega)])]
            rw [w_6] at hP hD
            exact ih_1  (i + 1) (by omega) (by omega) _ _ hP hD hS ls (lv_sub hl [0, 1, 2, 3] rfl)
          · skip
            refine lv_aload_n hx hb dX1_fillWouldTake_24 rfl (lv_at hl 1 rfl) ?_
            refine va_get (D := D) (ci := 1) (v := .ref (q 2)) (C := RX1) (T := TX1) (N := 10) hx hb hts inX1_fillWouldTake_X1 hown hK hP 0 rfl rfl 9 (by decide) (hts (.fieldLink RX1 19 "OddNotice$Reader" "values" "[I") (List.mem_of_getElem? (i := 3) (by decide +kernel))) (fun _ h9 => h9) rfl dX1_fillWouldTake_25 ?_
            refine lv_iload_n hx hb dX1_fillWouldTake_28 rfl (lv_at hl 0 rfl) ?_
            refine o_iald (v := nI (u 2 i)) hx hb hK hP 2 0 rfl rfl (by omega) (Nat.le_of_ble_eq_true rfl) rfl dX1_fillWouldTake_29 ?_
            refine lv_goto (tgt := 39) hx hb dX1_fillWouldTake_30 (by decide) ?_
            refine o_iast (g := (r_fill u v w i)) hx hb hK hP hD hS 8 0 rfl rfl (by omega) (Nat.le_of_ble_eq_true rfl) dX1_fillWouldTake_39 (fun H locs hP hD hS => ?_)
            have hP : va_P D vwCl (wR q cI u ++ (wB qb cI v ++ [oa cI a 5 (va_up (r_fill u v w i) i (u 2 i))])) H := hP
            have hD : va_D A (wR q cI u ++ (wB qb cI v ++ [oa cI a 5 (va_up (r_fill u v w i) i (u 2 i))])) := hD
            refine lv_iinc (v := nI (i + 1)) (lv' := [(3, .int (nI (i + 1))), (0, .ref (q 0)), (1, .ref a), (2, .ref (qb 0))]) hx hb dX1_fillWouldTake_40 hl (k := 0) rfl (o_inc1 _) (by decide) rfl (fun ls hl => ?_)
            refine lv_goto (tgt := 2) hx hb dX1_fillWouldTake_43 (by decide) ?_
            have w_7 : (wR q cI u ++ (wB qb cI v ++ [oa cI a 5 (va_up (r_fill u v w i) i (u 2 i))])) = (wR q cI u ++ (wB qb cI v ++ [oa cI a 5 (r_fill u v w (i + 1))])) := by rw [r_fill_s u v w i _ (by unfold r_would; rw [if_pos (by omega)])]
            rw [w_7] at hP hD
            exact ih_1  (i + 1) (by omega) (by omega) _ _ hP hD hS ls (lv_sub hl [0, 1, 2, 3] rfl)
  have w_8 : (wR q cI u ++ (wB qb cI v ++ [oa cI a 5 w])) = (wR q cI u ++ (wB qb cI v ++ [oa cI a 5 (r_fill u v w 0)])) := by rw [r_fill_0]
  rw [w_8] at hP hD
  exact lp_1 _ 0 (by omega) (Nat.lt_succ_self _) _ _ hP hD hS ls (lv_sub hl [0, 1, 2, 3] rfl)
