theorem inX4_reader_X4 : ∀ w ∈ wsX40, w ∈ wsX4_reader := by decide +kernel
theorem inX4_reader_X2 : ∀ w ∈ wsX20, w ∈ wsX4_reader := by decide +kernel
theorem inX4_reader_X1 : ∀ w ∈ wsX10, w ∈ wsX4_reader := by decide +kernel
set_option maxHeartbeats 4000000 in
set_option maxRecDepth 100000 in
theorem k_X4_reader (l : Launch) (D : va_G) (cI cR cS cL : ClassId) (sz : Nat) (o : Nat → Nat) (x : Nat → Nat → Nat) (v : Nat → Nat → Nat) (V : Nat → Nat → Nat → Nat) (b : Nat) (r : Nat) (h : Nat) (hSI : s_I b v) (hb : b < 2 ^ 28) (h3 : x 0 3 < 6) (h4 : x 0 4 ≤ 6) (hr : r < 4) (hh : h ≤ 1) : Met l yX4_reader wsX4_reader ({ frames := 4, cells := 0, slots := 0, locals := 81 }) (va_Pc [.ref (o 0), .int (nI r), .int (nI h)] (o_B D (o_T cI cR cS cL) (wO o cI cR cS x v (wV o cI cR V)) sz)) (va_Qi (fun rz (_ : Unit) => rz = nI (v (5 + 3 * r) 0)) (fun (_ : Unit) t => va_P D vwCl (wO o cI cR cS (va_up x 0 (c_sv (x 0))) (va_up v (5 + 3 * r) (r_anew (fun j => v (j + (5 + 3 * r))) h 0)) (wV o cI cR (c_put V ((x 0 3 + x 0 4) % 6) v))) t.heap) (va_A (wO o cI cR cS x v (wV o cI cR V)) sz)) 0 0 (va_A (wO o cI cR cS x v (wV o cI cR V)) sz) := by
  refine Met.ofW (cc := cX4_reader) (maxL := 4) (ret := (some .int)) (by decide) rfl ?_
  intro p e s m args below meth cd s₁ B hml hv
  obtain ⟨rfl, hsz, hP, hK, hD0, hN⟩ := hv
  have hx := B.exec
  have hb := B.bytes
  have hrt := B.returns
  have hts := atoms_spec (ws := wsX4_reader) B.pre
  have hown : s.vm.findClass RX4 = some m.cls := findClass_of_methodNamed B.named
  have hlocks := B.notSynchronized
  subst hsz
  have hD := hD0.self (sz := s.heap.size)
  generalize hAe : va_A (wO o cI cR cS x v (wV o cI cR V)) s.heap.size = A at hD ⊢
  have hA : ∀ q : Nat, s.heap.size ≤ q → A q := fun q h => by rw [← hAe]; exact Or.inr h
  have hS : va_S A s.heap s.heap [] := va_S.rf
  have hl := lv_entry ([.ref (o 0), .int (nI r), .int (nI h)]) (n := 4) (Nat.le_of_ble_eq_true rfl)
  rw [lg_entry_eq]
  generalize (lg_sl ([.ref (o 0), .int (nI r), .int (nI h)]) ++ List.replicate (4 - (lg_sl ([.ref (o 0), .int (nI r), .int (nI h)])).length) Slot.unset).toArray = ls at hl ⊢
  have hl : lv_has ls 4 [(0, .ref (o 0)), (1, .int (nI r)), (2, .int (nI h))] := hl
  rcases o_lt4 hr with rfl | rfl | rfl | rfl
  · skip
    have hSc := hSI
    obtain ⟨⟨i1, i2, i3, hpl⟩, i5⟩ := hSI
    have i12 := i5 0 (by omega)
    unfold s_IR at i12
    simp only [Nat.reduceMul, Nat.reduceAdd] at i12
    refine lv_iload_n hx hb dX4_reader_0 rfl (lv_at hl 1 rfl) ?_
    refine o_const (k := 4) hx hb dX4_reader_1 (by decide) ?_
    refine o_ri (va_runS (As := [.int (nI 0), .int (nI 4)]) (rest := []) ⟨hx, hb, hml, hown, hts⟩ (k_X4_isBelow l D cI cR cS cL 0 4 (by show 0 < 2 ^ 32; first | assumption | omega) (by show 4 < 2 ^ 31; first | assumption | omega)) (va_cwS 2 hts gX4_reader_X4_isBelow rfl rfl rfl (by decide +kernel) ⟨Nat.le_of_ble_eq_true rfl, Nat.le_of_ble_eq_true rfl⟩) (o_pR hK hN (hP.sub (ws' := []) [] rfl)) rfl rfl hl.1 rfl (lv_room (Nat.le_of_ble_eq_true rfl)) dX4_reader_2 ⟨Nat.zero_le _, Nat.zero_le _⟩) (fun r_2 e_1 => ?_)
    have e_1 : r_2 = nI (bn (0 < 4)) := e_1
    subst e_1
    refine o_ifnz (tgt := 18) hx hb dX4_reader_5 (by decide) (fun c_3 => ?_) (fun c_3 => ?_)
    · skip
      refine lv_aload_n hx hb dX4_reader_18 rfl (lv_at hl 0 rfl) ?_
      refine o_wvA (va_runV (As := []) (rest := []) ⟨hx, hb, hml, hown, hts⟩ (k_X4_saveState l D cI cR cS cL s.heap.size o x v V b (hSc) (by show b < 2 ^ 28; first | assumption | omega) (by show x 0 3 < 6; first | assumption | omega) (by show x 0 4 ≤ 6; first | assumption | omega)) (cwV 0 hts gX4_reader_X4_saveState rfl rfl rfl (by decide +kernel) ⟨Nat.le_of_ble_eq_true rfl, Nat.le_of_ble_eq_true rfl⟩) (o_v (o_pB hK hN hP hD) (va_recv hK hP (ci := 4) (q0 := 0) rfl rfl)) rfl rfl hl.1 rfl (lv_room (Nat.le_of_ble_eq_true rfl)) dX4_reader_19 ⟨Nat.zero_le _, Nat.zero_le _⟩) hD hS hA (fun _ => rfl) (fun _ H locs e_4 hP hD hS => ?_)
      have hP : va_P D vwCl (wO o cI cR cS (va_up x 0 (c_sv (x 0))) v (wV o cI cR (c_put V ((x 0 3 + x 0 4) % 6) v))) H := hP
      have hD : va_D A (wO o cI cR cS (va_up x 0 (c_sv (x 0))) v (wV o cI cR (c_put V ((x 0 3 + x 0 4) % 6) v))) := hD
      refine lv_aload_n hx hb dX4_reader_22 rfl (lv_at hl 0 rfl) ?_
      refine va_get (D := D) (ci := 4) (v := .ref (o 5)) (C := RX4) (T := TX4) (N := 6) hx hb hts inX4_reader_X4 hown hK hP 0 rfl rfl 0 (by decide) (hts (.fieldLink RX4 10 "OddNotice" "now" "LOddNotice$State;") (List.mem_of_getElem? (i := 3) (by decide +kernel))) (fun _ h9 => h9) rfl dX4_reader_23 ?_
      refine va_get (D := D) (ci := 2) (v := .ref (o 11)) (C := RX2) (T := TX2) (N := 4) hx hb hts inX4_reader_X2 hown hK hP 5 rfl rfl 1 (by decide) (hts (.fieldLink RX4 91 "OddNotice$State" "readers" "[LOddNotice$Reader;") (List.mem_of_getElem? (i := 4) (by decide +kernel))) (fun _ h9 => h9) rfl dX4_reader_26 ?_
      refine lv_iload_n hx hb dX4_reader_29 rfl (lv_at hl 1 rfl) ?_
      refine o_aldq (v := (o 12)) (C := "OddNotice$Reader") hx hb hK hP 6 1 rfl rfl (Nat.le_of_ble_eq_true rfl) (Nat.le_of_ble_eq_true rfl) rfl dX4_reader_30 ?_
      refine va_get (D := D) (ci := 1) (v := .int (nI (v 5 0))) (C := RX1) (T := TX1) (N := 10) hx hb hts inX4_reader_X1 hown hK hP 12 rfl rfl 0 (by decide) (hts (.fieldLink RX4 95 "OddNotice$Reader" "heeds" "Z") (List.mem_of_getElem? (i := 5) (by decide +kernel))) (fun _ h9 => h9) rfl dX4_reader_31 ?_
      refine o_if_eq (tgt := 41) hx hb dX4_reader_34 (by decide) (by omega) (fun c_5 => ?_) (fun c_5 => ?_)
      · skip
        refine o_const (k := 0) hx hb dX4_reader_41 (by decide) ?_
        refine lv_istore_n (lv' := [(3, .int (nI 0)), (0, .ref (o 0)), (1, .int (nI 0)), (2, .int (nI h))]) hx hb dX4_reader_42 rfl hl (by decide) rfl (fun ls hl => ?_)
        refine lv_aload_n hx hb dX4_reader_43 rfl (lv_at hl 1 rfl) ?_
        refine va_get (D := D) (ci := 4) (v := .ref (o 5)) (C := RX4) (T := TX4) (N := 6) hx hb hts inX4_reader_X4 hown hK hP 0 rfl rfl 0 (by decide) (hts (.fieldLink RX4 10 "OddNotice" "now" "LOddNotice$State;") (List.mem_of_getElem? (i := 3) (by decide +kernel))) (fun _ h9 => h9) rfl dX4_reader_44 ?_
        refine va_get (D := D) (ci := 2) (v := .ref (o 11)) (C := RX2) (T := TX2) (N := 4) hx hb hts inX4_reader_X2 hown hK hP 5 rfl rfl 1 (by decide) (hts (.fieldLink RX4 91 "OddNotice$State" "readers" "[LOddNotice$Reader;") (List.mem_of_getElem? (i := 4) (by decide +kernel))) (fun _ h9 => h9) rfl dX4_reader_47 ?_
        refine lv_iload_n hx hb dX4_reader_50 rfl (lv_at hl 2 rfl) ?_
        refine o_aldq (v := (o 12)) (C := "OddNotice$Reader") hx hb hK hP 6 1 rfl rfl (Nat.le_of_ble_eq_true rfl) (Nat.le_of_ble_eq_true rfl) rfl dX4_reader_51 ?_
        refine lv_iload_n hx hb dX4_reader_52 rfl (lv_at hl 3 rfl) ?_
        refine o_wv (va_runV (As := [.int (nI h)]) (rest := []) ⟨hx, hb, hml, hown, hts⟩ (k_X1_startAnew l D cI cR cS cL H.size (fun k => o (k + 12)) (fun k => v (k + 5)) h (by show h ≤ 1; first | assumption | omega)) (cwV 1 hts gX4_reader_X1_startAnew rfl rfl rfl (by decide +kernel) ⟨Nat.le_of_ble_eq_true rfl, Nat.le_of_ble_eq_true rfl⟩) (o_v (o_pB hK hN (hP.sub (ws' := (wR (fun k => o (k + 12)) cI (fun k => v (k + 5)))) [12, 13, 14] rfl) (hD.sub (ws' := (wR (fun k => o (k + 12)) cI (fun k => v (k + 5)))) [12, 13, 14] (by decide) rfl)) (va_recv hK hP (ci := 1) (q0 := 12) rfl rfl)) rfl rfl hl.1 rfl (lv_room (Nat.le_of_ble_eq_true rfl)) dX4_reader_53 ⟨Nat.zero_le _, Nat.zero_le _⟩) hP hD hS hA [12, 13, 14] (by decide) rfl (fun _ => rfl) (fun _ H locs e_6 hP hD hS => ?_)
        have hP : va_P D vwCl (wO o cI cR cS (va_up x 0 (c_sv (x 0))) (va_up v 5 (va_up (va_up (va_up (va_up (v 5) 0 h) 1 0) 2 0) 5 0)) (wV o cI cR (c_put V ((x 0 3 + x 0 4) % 6) v))) H := hP
        have hD : va_D A (wO o cI cR cS (va_up x 0 (c_sv (x 0))) (va_up v 5 (va_up (va_up (va_up (va_up (v 5) 0 h) 1 0) 2 0) 5 0)) (wV o cI cR (c_put V ((x 0 3 + x 0 4) % 6) v))) := hD
        refine lv_iload_n hx hb dX4_reader_56 rfl (lv_at hl 0 rfl) ?_
        have w_7 : (wO o cI cR cS (va_up x 0 (c_sv (x 0))) (va_up v (5 + 3 * 0) (r_anew (fun j => v (j + (5 + 3 * 0))) h 0)) (wV o cI cR (c_put V ((x 0 3 + x 0 4) % 6) v))) = (wO o cI cR cS (va_up x 0 (c_sv (x 0))) (va_up v 5 (va_up (va_up (va_up (va_up (v 5) 0 h) 1 0) 2 0) 5 0)) (wV o cI cR (c_put V ((x 0 3 + x 0 4) % 6) v))) := rfl
        rw [← w_7] at hP
        exact W.iret (v := nI 0) hx hb hrt (fun t ht hW => ⟨⟨_, (), rfl, (congrArg nI (show 0 = v 5 0 by omega)), by show va_P D vwCl _ t.heap; rw [ht]; exact hP⟩, hS.F ht⟩) hS.2.2 dX4_reader_57
      · skip
        refine o_const (k := 1) hx hb dX4_reader_37 (by decide) ?_
        refine lv_goto (tgt := 42) hx hb dX4_reader_38 (by decide) ?_
        refine lv_istore_n (lv' := [(3, .int (nI 1)), (0, .ref (o 0)), (1, .int (nI 0)), (2, .int (nI h))]) hx hb dX4_reader_42 rfl hl (by decide) rfl (fun ls hl => ?_)
        refine lv_aload_n hx hb dX4_reader_43 rfl (lv_at hl 1 rfl) ?_
        refine va_get (D := D) (ci := 4) (v := .ref (o 5)) (C := RX4) (T := TX4) (N := 6) hx hb hts inX4_reader_X4 hown hK hP 0 rfl rfl 0 (by decide) (hts (.fieldLink RX4 10 "OddNotice" "now" "LOddNotice$State;") (List.mem_of_getElem? (i := 3) (by decide +kernel))) (fun _ h9 => h9) rfl dX4_reader_44 ?_
        refine va_get (D := D) (ci := 2) (v := .ref (o 11)) (C := RX2) (T := TX2) (N := 4) hx hb hts inX4_reader_X2 hown hK hP 5 rfl rfl 1 (by decide) (hts (.fieldLink RX4 91 "OddNotice$State" "readers" "[LOddNotice$Reader;") (List.mem_of_getElem? (i := 4) (by decide +kernel))) (fun _ h9 => h9) rfl dX4_reader_47 ?_
        refine lv_iload_n hx hb dX4_reader_50 rfl (lv_at hl 2 rfl) ?_
        refine o_aldq (v := (o 12)) (C := "OddNotice$Reader") hx hb hK hP 6 1 rfl rfl (Nat.le_of_ble_eq_true rfl) (Nat.le_of_ble_eq_true rfl) rfl dX4_reader_51 ?_
        refine lv_iload_n hx hb dX4_reader_52 rfl (lv_at hl 3 rfl) ?_
        refine o_wv (va_runV (As := [.int (nI h)]) (rest := []) ⟨hx, hb, hml, hown, hts⟩ (k_X1_startAnew l D cI cR cS cL H.size (fun k => o (k + 12)) (fun k => v (k + 5)) h (by show h ≤ 1; first | assumption | omega)) (cwV 1 hts gX4_reader_X1_startAnew rfl rfl rfl (by decide +kernel) ⟨Nat.le_of_ble_eq_true rfl, Nat.le_of_ble_eq_true rfl⟩) (o_v (o_pB hK hN (hP.sub (ws' := (wR (fun k => o (k + 12)) cI (fun k => v (k + 5)))) [12, 13, 14] rfl) (hD.sub (ws' := (wR (fun k => o (k + 12)) cI (fun k => v (k + 5)))) [12, 13, 14] (by decide) rfl)) (va_recv hK hP (ci := 1) (q0 := 12) rfl rfl)) rfl rfl hl.1 rfl (lv_room (Nat.le_of_ble_eq_true rfl)) dX4_reader_53 ⟨Nat.zero_le _, Nat.zero_le _⟩) hP hD hS hA [12, 13, 14] (by decide) rfl (fun _ => rfl) (fun _ H locs e_8 hP hD hS => ?_)
        have hP : va_P D vwCl (wO o cI cR cS (va_up x 0 (c_sv (x 0))) (va_up v 5 (va_up (va_up (va_up (va_up (v 5) 0 h) 1 0) 2 0) 5 0)) (wV o cI cR (c_put V ((x 0 3 + x 0 4) % 6) v))) H := hP
        have hD : va_D A (wO o cI cR cS (va_up x 0 (c_sv (x 0))) (va_up v 5 (va_up (va_up (va_up (va_up (v 5) 0 h) 1 0) 2 0) 5 0)) (wV o cI cR (c_put V ((x 0 3 + x 0 4) % 6) v))) := hD
        refine lv_iload_n hx hb dX4_reader_56 rfl (lv_at hl 0 rfl) ?_
        have w_9 : (wO o cI cR cS (va_up x 0 (c_sv (x 0))) (va_up v (5 + 3 * 0) (r_anew (fun j => v (j + (5 + 3 * 0))) h 0)) (wV o cI cR (c_put V ((x 0 3 + x 0 4) % 6) v))) = (wO o cI cR cS (va_up x 0 (c_sv (x 0))) (va_up v 5 (va_up (va_up (va_up (va_up (v 5) 0 h) 1 0) 2 0) 5 0)) (wV o cI cR (c_put V ((x 0 3 + x 0 4) % 6) v))) := rfl
        rw [← w_9] at hP
        exact W.iret (v := nI 1) hx hb hrt (fun t ht hW => ⟨⟨_, (), rfl, (congrArg nI (show 1 = v 5 0 by omega)), by show va_P D vwCl _ t.heap; rw [ht]; exact hP⟩, hS.F ht⟩) hS.2.2 dX4_reader_57
    · skip
      exfalso
      omega
  · skip
    have hSc := hSI
    obtain ⟨⟨i1, i2, i3, hpl⟩, i5⟩ := hSI
    have i12 := i5 1 (by omega)
    unfold s_IR at i12
    simp only [Nat.reduceMul, Nat.reduceAdd] at i12
    refine lv_iload_n hx hb dX4_reader_0 rfl (lv_at hl 1 rfl) ?_
    refine o_const (k := 4) hx hb dX4_reader_1 (by decide) ?_
    refine o_ri (va_runS (As := [.int (nI 1), .int (nI 4)]) (rest := []) ⟨hx, hb, hml, hown, hts⟩ (k_X4_isBelow l D cI cR cS cL 1 4 (by show 1 < 2 ^ 32; first | assumption | omega) (by show 4 < 2 ^ 31; first | assumption | omega)) (va_cwS 2 hts gX4_reader_X4_isBelow rfl rfl rfl (by decide +kernel) ⟨Nat.le_of_ble_eq_true rfl, Nat.le_of_ble_eq_true rfl⟩) (o_pR hK hN (hP.sub (ws' := []) [] rfl)) rfl rfl hl.1 rfl (lv_room (Nat.le_of_ble_eq_true rfl)) dX4_reader_2 ⟨Nat.zero_le _, Nat.zero_le _⟩) (fun r_11 e_10 => ?_)
    have e_10 : r_11 = nI (bn (1 < 4)) := e_10
    subst e_10
    refine o_ifnz (tgt := 18) hx hb dX4_reader_5 (by decide) (fun c_12 => ?_) (fun c_12 => ?_)
    · skip
      refine lv_aload_n hx hb dX4_reader_18 rfl (lv_at hl 0 rfl) ?_
      refine o_wvA (va_runV (As := []) (rest := []) ⟨hx, hb, hml, hown, hts⟩ (k_X4_saveState l D cI cR cS cL s.heap.size o x v V b (hSc) (by show b < 2 ^ 28; first | assumption | omega) (by show x 0 3 < 6; first | assumption | omega) (by show x 0 4 ≤ 6; first | assumption | omega)) (cwV 0 hts gX4_reader_X4_saveState rfl rfl rfl (by decide +kernel) ⟨Nat.le_of_ble_eq_true rfl, Nat.le_of_ble_eq_true rfl⟩) (o_v (o_pB hK hN hP hD) (va_recv hK hP (ci := 4) (q0 := 0) rfl rfl)) rfl rfl hl.1 rfl (lv_room (Nat.le_of_ble_eq_true rfl)) dX4_reader_19 ⟨Nat.zero_le _, Nat.zero_le _⟩) hD hS hA (fun _ => rfl) (fun _ H locs e_13 hP hD hS => ?_)
      have hP : va_P D vwCl (wO o cI cR cS (va_up x 0 (c_sv (x 0))) v (wV o cI cR (c_put V ((x 0 3 + x 0 4) % 6) v))) H := hP
      have hD : va_D A (wO o cI cR cS (va_up x 0 (c_sv (x 0))) v (wV o cI cR (c_put V ((x 0 3 + x 0 4) % 6) v))) := hD
      refine lv_aload_n hx hb dX4_reader_22 rfl (lv_at hl 0 rfl) ?_
      refine va_get (D := D) (ci := 4) (v := .ref (o 5)) (C := RX4) (T := TX4) (N := 6) hx hb hts inX4_reader_X4 hown hK hP 0 rfl rfl 0 (by decide) (hts (.fieldLink RX4 10 "OddNotice" "now" "LOddNotice$State;") (List.mem_of_getElem? (i := 3) (by decide +kernel))) (fun _ h9 => h9) rfl dX4_reader_23 ?_
      refine va_get (D := D) (ci := 2) (v := .ref (o 11)) (C := RX2) (T := TX2) (N := 4) hx hb hts inX4_reader_X2 hown hK hP 5 rfl rfl 1 (by decide) (hts (.fieldLink RX4 91 "OddNotice$State" "readers" "[LOddNotice$Reader;") (List.mem_of_getElem? (i := 4) (by decide +kernel))) (fun _ h9 => h9) rfl dX4_reader_26 ?_
      refine lv_iload_n hx hb dX4_reader_29 rfl (lv_at hl 1 rfl) ?_
      refine o_aldq (v := (o 15)) (C := "OddNotice$Reader") hx hb hK hP 6 1 rfl rfl (Nat.le_of_ble_eq_true rfl) (Nat.le_of_ble_eq_true rfl) rfl dX4_reader_30 ?_
      refine va_get (D := D) (ci := 1) (v := .int (nI (v 8 0))) (C := RX1) (T := TX1) (N := 10) hx hb hts inX4_reader_X1 hown hK hP 15 rfl rfl 0 (by decide) (hts (.fieldLink RX4 95 "OddNotice$Reader" "heeds" "Z") (List.mem_of_getElem? (i := 5) (by decide +kernel))) (fun _ h9 => h9) rfl dX4_reader_31 ?_
      refine o_if_eq (tgt := 41) hx hb dX4_reader_34 (by decide) (by omega) (fun c_14 => ?_) (fun c_14 => ?_)
      · skip
        refine o_const (k := 0) hx hb dX4_reader_41 (by decide) ?_
        refine lv_istore_n (lv' := [(3, .int (nI 0)), (0, .ref (o 0)), (1, .int (nI 1)), (2, .int (nI h))]) hx hb dX4_reader_42 rfl hl (by decide) rfl (fun ls hl => ?_)
        refine lv_aload_n hx hb dX4_reader_43 rfl (lv_at hl 1 rfl) ?_
        refine va_get (D := D) (ci := 4) (v := .ref (o 5)) (C := RX4) (T := TX4) (N := 6) hx hb hts inX4_reader_X4 hown hK hP 0 rfl rfl 0 (by decide) (hts (.fieldLink RX4 10 "OddNotice" "now" "LOddNotice$State;") (List.mem_of_getElem? (i := 3) (by decide +kernel))) (fun _ h9 => h9) rfl dX4_reader_44 ?_
        refine va_get (D := D) (ci := 2) (v := .ref (o 11)) (C := RX2) (T := TX2) (N := 4) hx hb hts inX4_reader_X2 hown hK hP 5 rfl rfl 1 (by decide) (hts (.fieldLink RX4 91 "OddNotice$State" "readers" "[LOddNotice$Reader;") (List.mem_of_getElem? (i := 4) (by decide +kernel))) (fun _ h9 => h9) rfl dX4_reader_47 ?_
        refine lv_iload_n hx hb dX4_reader_50 rfl (lv_at hl 2 rfl) ?_
        refine o_aldq (v := (o 15)) (C := "OddNotice$Reader") hx hb hK hP 6 1 rfl rfl (Nat.le_of_ble_eq_true rfl) (Nat.le_of_ble_eq_true rfl) rfl dX4_reader_51 ?_
        refine lv_iload_n hx hb dX4_reader_52 rfl (lv_at hl 3 rfl) ?_
        refine o_wv (va_runV (As := [.int (nI h)]) (rest := []) ⟨hx, hb, hml, hown, hts⟩ (k_X1_startAnew l D cI cR cS cL H.size (fun k => o (k + 15)) (fun k => v (k + 8)) h (by show h ≤ 1; first | assumption | omega)) (cwV 1 hts gX4_reader_X1_startAnew rfl rfl rfl (by decide +kernel) ⟨Nat.le_of_ble_eq_true rfl, Nat.le_of_ble_eq_true rfl⟩) (o_v (o_pB hK hN (hP.sub (ws' := (wR (fun k => o (k + 15)) cI (fun k => v (k + 8)))) [15, 16, 17] rfl) (hD.sub (ws' := (wR (fun k => o (k + 15)) cI (fun k => v (k + 8)))) [15, 16, 17] (by decide) rfl)) (va_recv hK hP (ci := 1) (q0 := 15) rfl rfl)) rfl rfl hl.1 rfl (lv_room (Nat.le_of_ble_eq_true rfl)) dX4_reader_53 ⟨Nat.zero_le _, Nat.zero_le _⟩) hP hD hS hA [15, 16, 17] (by decide) rfl (fun _ => rfl) (fun _ H locs e_15 hP hD hS => ?_)
        have hP : va_P D vwCl (wO o cI cR cS (va_up x 0 (c_sv (x 0))) (va_up v 8 (va_up (va_up (va_up (va_up (v 8) 0 h) 1 0) 2 0) 5 0)) (wV o cI cR (c_put V ((x 0 3 + x 0 4) % 6) v))) H := hP
        have hD : va_D A (wO o cI cR cS (va_up x 0 (c_sv (x 0))) (va_up v 8 (va_up (va_up (va_up (va_up (v 8) 0 h) 1 0) 2 0) 5 0)) (wV o cI cR (c_put V ((x 0 3 + x 0 4) % 6) v))) := hD
        refine lv_iload_n hx hb dX4_reader_56 rfl (lv_at hl 0 rfl) ?_
        have w_16 : (wO o cI cR cS (va_up x 0 (c_sv (x 0))) (va_up v (5 + 3 * 1) (r_anew (fun j => v (j + (5 + 3 * 1))) h 0)) (wV o cI cR (c_put V ((x 0 3 + x 0 4) % 6) v))) = (wO o cI cR cS (va_up x 0 (c_sv (x 0))) (va_up v 8 (va_up (va_up (va_up (va_up (v 8) 0 h) 1 0) 2 0) 5 0)) (wV o cI cR (c_put V ((x 0 3 + x 0 4) % 6) v))) := rfl
        rw [← w_16] at hP
        exact W.iret (v := nI 0) hx hb hrt (fun t ht hW => ⟨⟨_, (), rfl, (congrArg nI (show 0 = v 8 0 by omega)), by show va_P D vwCl _ t.heap; rw [ht]; exact hP⟩, hS.F ht⟩) hS.2.2 dX4_reader_57
      · skip
        refine o_const (k := 1) hx hb dX4_reader_37 (by decide) ?_
        refine lv_goto (tgt := 42) hx hb dX4_reader_38 (by decide) ?_
        refine lv_istore_n (lv' := [(3, .int (nI 1)), (0, .ref (o 0)), (1, .int (nI 1)), (2, .int (nI h))]) hx hb dX4_reader_42 rfl hl (by decide) rfl (fun ls hl => ?_)
        refine lv_aload_n hx hb dX4_reader_43 rfl (lv_at hl 1 rfl) ?_
        refine va_get (D := D) (ci := 4) (v := .ref (o 5)) (C := RX4) (T := TX4) (N := 6) hx hb hts inX4_reader_X4 hown hK hP 0 rfl rfl 0 (by decide) (hts (.fieldLink RX4 10 "OddNotice" "now" "LOddNotice$State;") (List.mem_of_getElem? (i := 3) (by decide +kernel))) (fun _ h9 => h9) rfl dX4_reader_44 ?_
        refine va_get (D := D) (ci := 2) (v := .ref (o 11)) (C := RX2) (T := TX2) (N := 4) hx hb hts inX4_reader_X2 hown hK hP 5 rfl rfl 1 (by decide) (hts (.fieldLink RX4 91 "OddNotice$State" "readers" "[LOddNotice$Reader;") (List.mem_of_getElem? (i := 4) (by decide +kernel))) (fun _ h9 => h9) rfl dX4_reader_47 ?_
        refine lv_iload_n hx hb dX4_reader_50 rfl (lv_at hl 2 rfl) ?_
        refine o_aldq (v := (o 15)) (C := "OddNotice$Reader") hx hb hK hP 6 1 rfl rfl (Nat.le_of_ble_eq_true rfl) (Nat.le_of_ble_eq_true rfl) rfl dX4_reader_51 ?_
        refine lv_iload_n hx hb dX4_reader_52 rfl (lv_at hl 3 rfl) ?_
        refine o_wv (va_runV (As := [.int (nI h)]) (rest := []) ⟨hx, hb, hml, hown, hts⟩ (k_X1_startAnew l D cI cR cS cL H.size (fun k => o (k + 15)) (fun k => v (k + 8)) h (by show h ≤ 1; first | assumption | omega)) (cwV 1 hts gX4_reader_X1_startAnew rfl rfl rfl (by decide +kernel) ⟨Nat.le_of_ble_eq_true rfl, Nat.le_of_ble_eq_true rfl⟩) (o_v (o_pB hK hN (hP.sub (ws' := (wR (fun k => o (k + 15)) cI (fun k => v (k + 8)))) [15, 16, 17] rfl) (hD.sub (ws' := (wR (fun k => o (k + 15)) cI (fun k => v (k + 8)))) [15, 16, 17] (by decide) rfl)) (va_recv hK hP (ci := 1) (q0 := 15) rfl rfl)) rfl rfl hl.1 rfl (lv_room (Nat.le_of_ble_eq_true rfl)) dX4_reader_53 ⟨Nat.zero_le _, Nat.zero_le _⟩) hP hD hS hA [15, 16, 17] (by decide) rfl (fun _ => rfl) (fun _ H locs e_17 hP hD hS => ?_)
        have hP : va_P D vwCl (wO o cI cR cS (va_up x 0 (c_sv (x 0))) (va_up v 8 (va_up (va_up (va_up (va_up (v 8) 0 h) 1 0) 2 0) 5 0)) (wV o cI cR (c_put V ((x 0 3 + x 0 4) % 6) v))) H := hP
        have hD : va_D A (wO o cI cR cS (va_up x 0 (c_sv (x 0))) (va_up v 8 (va_up (va_up (va_up (va_up (v 8) 0 h) 1 0) 2 0) 5 0)) (wV o cI cR (c_put V ((x 0 3 + x 0 4) % 6) v))) := hD
        refine lv_iload_n hx hb dX4_reader_56 rfl (lv_at hl 0 rfl) ?_
        have w_18 : (wO o cI cR cS (va_up x 0 (c_sv (x 0))) (va_up v (5 + 3 * 1) (r_anew (fun j => v (j + (5 + 3 * 1))) h 0)) (wV o cI cR (c_put V ((x 0 3 + x 0 4) % 6) v))) = (wO o cI cR cS (va_up x 0 (c_sv (x 0))) (va_up v 8 (va_up (va_up (va_up (va_up (v 8) 0 h) 1 0) 2 0) 5 0)) (wV o cI cR (c_put V ((x 0 3 + x 0 4) % 6) v))) := rfl
        rw [← w_18] at hP
        exact W.iret (v := nI 1) hx hb hrt (fun t ht hW => ⟨⟨_, (), rfl, (congrArg nI (show 1 = v 8 0 by omega)), by show va_P D vwCl _ t.heap; rw [ht]; exact hP⟩, hS.F ht⟩) hS.2.2 dX4_reader_57
    · skip
      exfalso
      omega
  · skip
    have hSc := hSI
    obtain ⟨⟨i1, i2, i3, hpl⟩, i5⟩ := hSI
    have i12 := i5 2 (by omega)
    unfold s_IR at i12
    simp only [Nat.reduceMul, Nat.reduceAdd] at i12
    refine lv_iload_n hx hb dX4_reader_0 rfl (lv_at hl 1 rfl) ?_
    refine o_const (k := 4) hx hb dX4_reader_1 (by decide) ?_
    refine o_ri (va_runS (As := [.int (nI 2), .int (nI 4)]) (rest := []) ⟨hx, hb, hml, hown, hts⟩ (k_X4_isBelow l D cI cR cS cL 2 4 (by show 2 < 2 ^ 32; first | assumption | omega) (by show 4 < 2 ^ 31; first | assumption | omega)) (va_cwS 2 hts gX4_reader_X4_isBelow rfl rfl rfl (by decide +kernel) ⟨Nat.le_of_ble_eq_true rfl, Nat.le_of_ble_eq_true rfl⟩) (o_pR hK hN (hP.sub (ws' := []) [] rfl)) rfl rfl hl.1 rfl (lv_room (Nat.le_of_ble_eq_true rfl)) dX4_reader_2 ⟨Nat.zero_le _, Nat.zero_le _⟩) (fun r_20 e_19 => ?_)
    have e_19 : r_20 = nI (bn (2 < 4)) := e_19
    subst e_19
    refine o_ifnz (tgt := 18) hx hb dX4_reader_5 (by decide) (fun c_21 => ?_) (fun c_21 => ?_)
    · skip
      refine lv_aload_n hx hb dX4_reader_18 rfl (lv_at hl 0 rfl) ?_
      refine o_wvA (va_runV (As := []) (rest := []) ⟨hx, hb, hml, hown, hts⟩ (k_X4_saveState l D cI cR cS cL s.heap.size o x v V b (hSc) (by show b < 2 ^ 28; first | assumption | omega) (by show x 0 3 < 6; first | assumption | omega) (by show x 0 4 ≤ 6; first | assumption | omega)) (cwV 0 hts gX4_reader_X4_saveState rfl rfl rfl (by decide +kernel) ⟨Nat.le_of_ble_eq_true rfl, Nat.le_of_ble_eq_true rfl⟩) (o_v (o_pB hK hN hP hD) (va_recv hK hP (ci := 4) (q0 := 0) rfl rfl)) rfl rfl hl.1 rfl (lv_room (Nat.le_of_ble_eq_true rfl)) dX4_reader_19 ⟨Nat.zero_le _, Nat.zero_le _⟩) hD hS hA (fun _ => rfl) (fun _ H locs e_22 hP hD hS => ?_)
      have hP : va_P D vwCl (wO o cI cR cS (va_up x 0 (c_sv (x 0))) v (wV o cI cR (c_put V ((x 0 3 + x 0 4) % 6) v))) H := hP
      have hD : va_D A (wO o cI cR cS (va_up x 0 (c_sv (x 0))) v (wV o cI cR (c_put V ((x 0 3 + x 0 4) % 6) v))) := hD
      refine lv_aload_n hx hb dX4_reader_22 rfl (lv_at hl 0 rfl) ?_
      refine va_get (D := D) (ci := 4) (v := .ref (o 5)) (C := RX4) (T := TX4) (N := 6) hx hb hts inX4_reader_X4 hown hK hP 0 rfl rfl 0 (by decide) (hts (.fieldLink RX4 10 "OddNotice" "now" "LOddNotice$State;") (List.mem_of_getElem? (i := 3) (by decide +kernel))) (fun _ h9 => h9) rfl dX4_reader_23 ?_
      refine va_get (D := D) (ci := 2) (v := .ref (o 11)) (C := RX2) (T := TX2) (N := 4) hx hb hts inX4_reader_X2 hown hK hP 5 rfl rfl 1 (by decide) (hts (.fieldLink RX4 91 "OddNotice$State" "readers" "[LOddNotice$Reader;") (List.mem_of_getElem? (i := 4) (by decide +kernel))) (fun _ h9 => h9) rfl dX4_reader_26 ?_
      refine lv_iload_n hx hb dX4_reader_29 rfl (lv_at hl 1 rfl) ?_
      refine o_aldq (v := (o 18)) (C := "OddNotice$Reader") hx hb hK hP 6 1 rfl rfl (Nat.le_of_ble_eq_true rfl) (Nat.le_of_ble_eq_true rfl) rfl dX4_reader_30 ?_
      refine va_get (D := D) (ci := 1) (v := .int (nI (v 11 0))) (C := RX1) (T := TX1) (N := 10) hx hb hts inX4_reader_X1 hown hK hP 18 rfl rfl 0 (by decide) (hts (.fieldLink RX4 95 "OddNotice$Reader" "heeds" "Z") (List.mem_of_getElem? (i := 5) (by decide +kernel))) (fun _ h9 => h9) rfl dX4_reader_31 ?_
      refine o_if_eq (tgt := 41) hx hb dX4_reader_34 (by decide) (by omega) (fun c_23 => ?_) (fun c_23 => ?_)
      · skip
        refine o_const (k := 0) hx hb dX4_reader_41 (by decide) ?_
        refine lv_istore_n (lv' := [(3, .int (nI 0)), (0, .ref (o 0)), (1, .int (nI 2)), (2, .int (nI h))]) hx hb dX4_reader_42 rfl hl (by decide) rfl (fun ls hl => ?_)
        refine lv_aload_n hx hb dX4_reader_43 rfl (lv_at hl 1 rfl) ?_
        refine va_get (D := D) (ci := 4) (v := .ref (o 5)) (C := RX4) (T := TX4) (N := 6) hx hb hts inX4_reader_X4 hown hK hP 0 rfl rfl 0 (by decide) (hts (.fieldLink RX4 10 "OddNotice" "now" "LOddNotice$State;") (List.mem_of_getElem? (i := 3) (by decide +kernel))) (fun _ h9 => h9) rfl dX4_reader_44 ?_
        refine va_get (D := D) (ci := 2) (v := .ref (o 11)) (C := RX2) (T := TX2) (N := 4) hx hb hts inX4_reader_X2 hown hK hP 5 rfl rfl 1 (by decide) (hts (.fieldLink RX4 91 "OddNotice$State" "readers" "[LOddNotice$Reader;") (List.mem_of_getElem? (i := 4) (by decide +kernel))) (fun _ h9 => h9) rfl dX4_reader_47 ?_
        refine lv_iload_n hx hb dX4_reader_50 rfl (lv_at hl 2 rfl) ?_
        refine o_aldq (v := (o 18)) (C := "OddNotice$Reader") hx hb hK hP 6 1 rfl rfl (Nat.le_of_ble_eq_true rfl) (Nat.le_of_ble_eq_true rfl) rfl dX4_reader_51 ?_
        refine lv_iload_n hx hb dX4_reader_52 rfl (lv_at hl 3 rfl) ?_
        refine o_wv (va_runV (As := [.int (nI h)]) (rest := []) ⟨hx, hb, hml, hown, hts⟩ (k_X1_startAnew l D cI cR cS cL H.size (fun k => o (k + 18)) (fun k => v (k + 11)) h (by show h ≤ 1; first | assumption | omega)) (cwV 1 hts gX4_reader_X1_startAnew rfl rfl rfl (by decide +kernel) ⟨Nat.le_of_ble_eq_true rfl, Nat.le_of_ble_eq_true rfl⟩) (o_v (o_pB hK hN (hP.sub (ws' := (wR (fun k => o (k + 18)) cI (fun k => v (k + 11)))) [18, 19, 20] rfl) (hD.sub (ws' := (wR (fun k => o (k + 18)) cI (fun k => v (k + 11)))) [18, 19, 20] (by decide) rfl)) (va_recv hK hP (ci := 1) (q0 := 18) rfl rfl)) rfl rfl hl.1 rfl (lv_room (Nat.le_of_ble_eq_true rfl)) dX4_reader_53 ⟨Nat.zero_le _, Nat.zero_le _⟩) hP hD hS hA [18, 19, 20] (by decide) rfl (fun _ => rfl) (fun _ H locs e_24 hP hD hS => ?_)
        have hP : va_P D vwCl (wO o cI cR cS (va_up x 0 (c_sv (x 0))) (va_up v 11 (va_up (va_up (va_up (va_up (v 11) 0 h) 1 0) 2 0) 5 0)) (wV o cI cR (c_put V ((x 0 3 + x 0 4) % 6) v))) H := hP
        have hD : va_D A (wO o cI cR cS (va_up x 0 (c_sv (x 0))) (va_up v 11 (va_up (va_up (va_up (va_up (v 11) 0 h) 1 0) 2 0) 5 0)) (wV o cI cR (c_put V ((x 0 3 + x 0 4) % 6) v))) := hD
        refine lv_iload_n hx hb dX4_reader_56 rfl (lv_at hl 0 rfl) ?_
        have w_25 : (wO o cI cR cS (va_up x 0 (c_sv (x 0))) (va_up v (5 + 3 * 2) (r_anew (fun j => v (j + (5 + 3 * 2))) h 0)) (wV o cI cR (c_put V ((x 0 3 + x 0 4) % 6) v))) = (wO o cI cR cS (va_up x 0 (c_sv (x 0))) (va_up v 11 (va_up (va_up (va_up (va_up (v 11) 0 h) 1 0) 2 0) 5 0)) (wV o cI cR (c_put V ((x 0 3 + x 0 4) % 6) v))) := rfl
        rw [← w_25] at hP
        exact W.iret (v := nI 0) hx hb hrt (fun t ht hW => ⟨⟨_, (), rfl, (congrArg nI (show 0 = v 11 0 by omega)), by show va_P D vwCl _ t.heap; rw [ht]; exact hP⟩, hS.F ht⟩) hS.2.2 dX4_reader_57
      · skip
        refine o_const (k := 1) hx hb dX4_reader_37 (by decide) ?_
        refine lv_goto (tgt := 42) hx hb dX4_reader_38 (by decide) ?_
        refine lv_istore_n (lv' := [(3, .int (nI 1)), (0, .ref (o 0)), (1, .int (nI 2)), (2, .int (nI h))]) hx hb dX4_reader_42 rfl hl (by decide) rfl (fun ls hl => ?_)
        refine lv_aload_n hx hb dX4_reader_43 rfl (lv_at hl 1 rfl) ?_
        refine va_get (D := D) (ci := 4) (v := .ref (o 5)) (C := RX4) (T := TX4) (N := 6) hx hb hts inX4_reader_X4 hown hK hP 0 rfl rfl 0 (by decide) (hts (.fieldLink RX4 10 "OddNotice" "now" "LOddNotice$State;") (List.mem_of_getElem? (i := 3) (by decide +kernel))) (fun _ h9 => h9) rfl dX4_reader_44 ?_
        refine va_get (D := D) (ci := 2) (v := .ref (o 11)) (C := RX2) (T := TX2) (N := 4) hx hb hts inX4_reader_X2 hown hK hP 5 rfl rfl 1 (by decide) (hts (.fieldLink RX4 91 "OddNotice$State" "readers" "[LOddNotice$Reader;") (List.mem_of_getElem? (i := 4) (by decide +kernel))) (fun _ h9 => h9) rfl dX4_reader_47 ?_
        refine lv_iload_n hx hb dX4_reader_50 rfl (lv_at hl 2 rfl) ?_
        refine o_aldq (v := (o 18)) (C := "OddNotice$Reader") hx hb hK hP 6 1 rfl rfl (Nat.le_of_ble_eq_true rfl) (Nat.le_of_ble_eq_true rfl) rfl dX4_reader_51 ?_
        refine lv_iload_n hx hb dX4_reader_52 rfl (lv_at hl 3 rfl) ?_
        refine o_wv (va_runV (As := [.int (nI h)]) (rest := []) ⟨hx, hb, hml, hown, hts⟩ (k_X1_startAnew l D cI cR cS cL H.size (fun k => o (k + 18)) (fun k => v (k + 11)) h (by show h ≤ 1; first | assumption | omega)) (cwV 1 hts gX4_reader_X1_startAnew rfl rfl rfl (by decide +kernel) ⟨Nat.le_of_ble_eq_true rfl, Nat.le_of_ble_eq_true rfl⟩) (o_v (o_pB hK hN (hP.sub (ws' := (wR (fun k => o (k + 18)) cI (fun k => v (k + 11)))) [18, 19, 20] rfl) (hD.sub (ws' := (wR (fun k => o (k + 18)) cI (fun k => v (k + 11)))) [18, 19, 20] (by decide) rfl)) (va_recv hK hP (ci := 1) (q0 := 18) rfl rfl)) rfl rfl hl.1 rfl (lv_room (Nat.le_of_ble_eq_true rfl)) dX4_reader_53 ⟨Nat.zero_le _, Nat.zero_le _⟩) hP hD hS hA [18, 19, 20] (by decide) rfl (fun _ => rfl) (fun _ H locs e_26 hP hD hS => ?_)
        have hP : va_P D vwCl (wO o cI cR cS (va_up x 0 (c_sv (x 0))) (va_up v 11 (va_up (va_up (va_up (va_up (v 11) 0 h) 1 0) 2 0) 5 0)) (wV o cI cR (c_put V ((x 0 3 + x 0 4) % 6) v))) H := hP
        have hD : va_D A (wO o cI cR cS (va_up x 0 (c_sv (x 0))) (va_up v 11 (va_up (va_up (va_up (va_up (v 11) 0 h) 1 0) 2 0) 5 0)) (wV o cI cR (c_put V ((x 0 3 + x 0 4) % 6) v))) := hD
        refine lv_iload_n hx hb dX4_reader_56 rfl (lv_at hl 0 rfl) ?_
        have w_27 : (wO o cI cR cS (va_up x 0 (c_sv (x 0))) (va_up v (5 + 3 * 2) (r_anew (fun j => v (j + (5 + 3 * 2))) h 0)) (wV o cI cR (c_put V ((x 0 3 + x 0 4) % 6) v))) = (wO o cI cR cS (va_up x 0 (c_sv (x 0))) (va_up v 11 (va_up (va_up (va_up (va_up (v 11) 0 h) 1 0) 2 0) 5 0)) (wV o cI cR (c_put V ((x 0 3 + x 0 4) % 6) v))) := rfl
        rw [← w_27] at hP
        exact W.iret (v := nI 1) hx hb hrt (fun t ht hW => ⟨⟨_, (), rfl, (congrArg nI (show 1 = v 11 0 by omega)), by show va_P D vwCl _ t.heap; rw [ht]; exact hP⟩, hS.F ht⟩) hS.2.2 dX4_reader_57
    · skip
      exfalso
      omega
  · skip
    have hSc := hSI
    obtain ⟨⟨i1, i2, i3, hpl⟩, i5⟩ := hSI
    have i12 := i5 3 (by omega)
    unfold s_IR at i12
    simp only [Nat.reduceMul, Nat.reduceAdd] at i12
    refine lv_iload_n hx hb dX4_reader_0 rfl (lv_at hl 1 rfl) ?_
    refine o_const (k := 4) hx hb dX4_reader_1 (by decide) ?_
    refine o_ri (va_runS (As := [.int (nI 3), .int (nI 4)]) (rest := []) ⟨hx, hb, hml, hown, hts⟩ (k_X4_isBelow l D cI cR cS cL 3 4 (by show 3 < 2 ^ 32; first | assumption | omega) (by show 4 < 2 ^ 31; first | assumption | omega)) (va_cwS 2 hts gX4_reader_X4_isBelow rfl rfl rfl (by decide +kernel) ⟨Nat.le_of_ble_eq_true rfl, Nat.le_of_ble_eq_true rfl⟩) (o_pR hK hN (hP.sub (ws' := []) [] rfl)) rfl rfl hl.1 rfl (lv_room (Nat.le_of_ble_eq_true rfl)) dX4_reader_2 ⟨Nat.zero_le _, Nat.zero_le _⟩) (fun r_29 e_28 => ?_)
    have e_28 : r_29 = nI (bn (3 < 4)) := e_28
    subst e_28
    refine o_ifnz (tgt := 18) hx hb dX4_reader_5 (by decide) (fun c_30 => ?_) (fun c_30 => ?_)
    · skip
      refine lv_aload_n hx hb dX4_reader_18 rfl (lv_at hl 0 rfl) ?_
      refine o_wvA (va_runV (As := []) (rest := []) ⟨hx, hb, hml, hown, hts⟩ (k_X4_saveState l D cI cR cS cL s.heap.size o x v V b (hSc) (by show b < 2 ^ 28; first | assumption | omega) (by show x 0 3 < 6; first | assumption | omega) (by show x 0 4 ≤ 6; first | assumption | omega)) (cwV 0 hts gX4_reader_X4_saveState rfl rfl rfl (by decide +kernel) ⟨Nat.le_of_ble_eq_true rfl, Nat.le_of_ble_eq_true rfl⟩) (o_v (o_pB hK hN hP hD) (va_recv hK hP (ci := 4) (q0 := 0) rfl rfl)) rfl rfl hl.1 rfl (lv_room (Nat.le_of_ble_eq_true rfl)) dX4_reader_19 ⟨Nat.zero_le _, Nat.zero_le _⟩) hD hS hA (fun _ => rfl) (fun _ H locs e_31 hP hD hS => ?_)
      have hP : va_P D vwCl (wO o cI cR cS (va_up x 0 (c_sv (x 0))) v (wV o cI cR (c_put V ((x 0 3 + x 0 4) % 6) v))) H := hP
      have hD : va_D A (wO o cI cR cS (va_up x 0 (c_sv (x 0))) v (wV o cI cR (c_put V ((x 0 3 + x 0 4) % 6) v))) := hD
      refine lv_aload_n hx hb dX4_reader_22 rfl (lv_at hl 0 rfl) ?_
      refine va_get (D := D) (ci := 4) (v := .ref (o 5)) (C := RX4) (T := TX4) (N := 6) hx hb hts inX4_reader_X4 hown hK hP 0 rfl rfl 0 (by decide) (hts (.fieldLink RX4 10 "OddNotice" "now" "LOddNotice$State;") (List.mem_of_getElem? (i := 3) (by decide +kernel))) (fun _ h9 => h9) rfl dX4_reader_23 ?_
      refine va_get (D := D) (ci := 2) (v := .ref (o 11)) (C := RX2) (T := TX2) (N := 4) hx hb hts inX4_reader_X2 hown hK hP 5 rfl rfl 1 (by decide) (hts (.fieldLink RX4 91 "OddNotice$State" "readers" "[LOddNotice$Reader;") (List.mem_of_getElem? (i := 4) (by decide +kernel))) (fun _ h9 => h9) rfl dX4_reader_26 ?_
      refine lv_iload_n hx hb dX4_reader_29 rfl (lv_at hl 1 rfl) ?_
      refine o_aldq (v := (o 21)) (C := "OddNotice$Reader") hx hb hK hP 6 1 rfl rfl (Nat.le_of_ble_eq_true rfl) (Nat.le_of_ble_eq_true rfl) rfl dX4_reader_30 ?_
      refine va_get (D := D) (ci := 1) (v := .int (nI (v 14 0))) (C := RX1) (T := TX1) (N := 10) hx hb hts inX4_reader_X1 hown hK hP 21 rfl rfl 0 (by decide) (hts (.fieldLink RX4 95 "OddNotice$Reader" "heeds" "Z") (List.mem_of_getElem? (i := 5) (by decide +kernel))) (fun _ h9 => h9) rfl dX4_reader_31 ?_
      refine o_if_eq (tgt := 41) hx hb dX4_reader_34 (by decide) (by omega) (fun c_32 => ?_) (fun c_32 => ?_)
      · skip
        refine o_const (k := 0) hx hb dX4_reader_41 (by decide) ?_
        refine lv_istore_n (lv' := [(3, .int (nI 0)), (0, .ref (o 0)), (1, .int (nI 3)), (2, .int (nI h))]) hx hb dX4_reader_42 rfl hl (by decide) rfl (fun ls hl => ?_)
        refine lv_aload_n hx hb dX4_reader_43 rfl (lv_at hl 1 rfl) ?_
        refine va_get (D := D) (ci := 4) (v := .ref (o 5)) (C := RX4) (T := TX4) (N := 6) hx hb hts inX4_reader_X4 hown hK hP 0 rfl rfl 0 (by decide) (hts (.fieldLink RX4 10 "OddNotice" "now" "LOddNotice$State;") (List.mem_of_getElem? (i := 3) (by decide +kernel))) (fun _ h9 => h9) rfl dX4_reader_44 ?_
        refine va_get (D := D) (ci := 2) (v := .ref (o 11)) (C := RX2) (T := TX2) (N := 4) hx hb hts inX4_reader_X2 hown hK hP 5 rfl rfl 1 (by decide) (hts (.fieldLink RX4 91 "OddNotice$State" "readers" "[LOddNotice$Reader;") (List.mem_of_getElem? (i := 4) (by decide +kernel))) (fun _ h9 => h9) rfl dX4_reader_47 ?_
        refine lv_iload_n hx hb dX4_reader_50 rfl (lv_at hl 2 rfl) ?_
        refine o_aldq (v := (o 21)) (C := "OddNotice$Reader") hx hb hK hP 6 1 rfl rfl (Nat.le_of_ble_eq_true rfl) (Nat.le_of_ble_eq_true rfl) rfl dX4_reader_51 ?_
        refine lv_iload_n hx hb dX4_reader_52 rfl (lv_at hl 3 rfl) ?_
        refine o_wv (va_runV (As := [.int (nI h)]) (rest := []) ⟨hx, hb, hml, hown, hts⟩ (k_X1_startAnew l D cI cR cS cL H.size (fun k => o (k + 21)) (fun k => v (k + 14)) h (by show h ≤ 1; first | assumption | omega)) (cwV 1 hts gX4_reader_X1_startAnew rfl rfl rfl (by decide +kernel) ⟨Nat.le_of_ble_eq_true rfl, Nat.le_of_ble_eq_true rfl⟩) (o_v (o_pB hK hN (hP.sub (ws' := (wR (fun k => o (k + 21)) cI (fun k => v (k + 14)))) [21, 22, 23] rfl) (hD.sub (ws' := (wR (fun k => o (k + 21)) cI (fun k => v (k + 14)))) [21, 22, 23] (by decide) rfl)) (va_recv hK hP (ci := 1) (q0 := 21) rfl rfl)) rfl rfl hl.1 rfl (lv_room (Nat.le_of_ble_eq_true rfl)) dX4_reader_53 ⟨Nat.zero_le _, Nat.zero_le _⟩) hP hD hS hA [21, 22, 23] (by decide) rfl (fun _ => rfl) (fun _ H locs e_33 hP hD hS => ?_)
        have hP : va_P D vwCl (wO o cI cR cS (va_up x 0 (c_sv (x 0))) (va_up v 14 (va_up (va_up (va_up (va_up (v 14) 0 h) 1 0) 2 0) 5 0)) (wV o cI cR (c_put V ((x 0 3 + x 0 4) % 6) v))) H := hP
        have hD : va_D A (wO o cI cR cS (va_up x 0 (c_sv (x 0))) (va_up v 14 (va_up (va_up (va_up (va_up (v 14) 0 h) 1 0) 2 0) 5 0)) (wV o cI cR (c_put V ((x 0 3 + x 0 4) % 6) v))) := hD
        refine lv_iload_n hx hb dX4_reader_56 rfl (lv_at hl 0 rfl) ?_
        have w_34 : (wO o cI cR cS (va_up x 0 (c_sv (x 0))) (va_up v (5 + 3 * 3) (r_anew (fun j => v (j + (5 + 3 * 3))) h 0)) (wV o cI cR (c_put V ((x 0 3 + x 0 4) % 6) v))) = (wO o cI cR cS (va_up x 0 (c_sv (x 0))) (va_up v 14 (va_up (va_up (va_up (va_up (v 14) 0 h) 1 0) 2 0) 5 0)) (wV o cI cR (c_put V ((x 0 3 + x 0 4) % 6) v))) := rfl
        rw [← w_34] at hP
        exact W.iret (v := nI 0) hx hb hrt (fun t ht hW => ⟨⟨_, (), rfl, (congrArg nI (show 0 = v 14 0 by omega)), by show va_P D vwCl _ t.heap; rw [ht]; exact hP⟩, hS.F ht⟩) hS.2.2 dX4_reader_57
      · skip
        refine o_const (k := 1) hx hb dX4_reader_37 (by decide) ?_
        refine lv_goto (tgt := 42) hx hb dX4_reader_38 (by decide) ?_
        refine lv_istore_n (lv' := [(3, .int (nI 1)), (0, .ref (o 0)), (1, .int (nI 3)), (2, .int (nI h))]) hx hb dX4_reader_42 rfl hl (by decide) rfl (fun ls hl => ?_)
        refine lv_aload_n hx hb dX4_reader_43 rfl (lv_at hl 1 rfl) ?_
        refine va_get (D := D) (ci := 4) (v := .ref (o 5)) (C := RX4) (T := TX4) (N := 6) hx hb hts inX4_reader_X4 hown hK hP 0 rfl rfl 0 (by decide) (hts (.fieldLink RX4 10 "OddNotice" "now" "LOddNotice$State;") (List.mem_of_getElem? (i := 3) (by decide +kernel))) (fun _ h9 => h9) rfl dX4_reader_44 ?_
        refine va_get (D := D) (ci := 2) (v := .ref (o 11)) (C := RX2) (T := TX2) (N := 4) hx hb hts inX4_reader_X2 hown hK hP 5 rfl rfl 1 (by decide) (hts (.fieldLink RX4 91 "OddNotice$State" "readers" "[LOddNotice$Reader;") (List.mem_of_getElem? (i := 4) (by decide +kernel))) (fun _ h9 => h9) rfl dX4_reader_47 ?_
        refine lv_iload_n hx hb dX4_reader_50 rfl (lv_at hl 2 rfl) ?_
        refine o_aldq (v := (o 21)) (C := "OddNotice$Reader") hx hb hK hP 6 1 rfl rfl (Nat.le_of_ble_eq_true rfl) (Nat.le_of_ble_eq_true rfl) rfl dX4_reader_51 ?_
        refine lv_iload_n hx hb dX4_reader_52 rfl (lv_at hl 3 rfl) ?_
        refine o_wv (va_runV (As := [.int (nI h)]) (rest := []) ⟨hx, hb, hml, hown, hts⟩ (k_X1_startAnew l D cI cR cS cL H.size (fun k => o (k + 21)) (fun k => v (k + 14)) h (by show h ≤ 1; first | assumption | omega)) (cwV 1 hts gX4_reader_X1_startAnew rfl rfl rfl (by decide +kernel) ⟨Nat.le_of_ble_eq_true rfl, Nat.le_of_ble_eq_true rfl⟩) (o_v (o_pB hK hN (hP.sub (ws' := (wR (fun k => o (k + 21)) cI (fun k => v (k + 14)))) [21, 22, 23] rfl) (hD.sub (ws' := (wR (fun k => o (k + 21)) cI (fun k => v (k + 14)))) [21, 22, 23] (by decide) rfl)) (va_recv hK hP (ci := 1) (q0 := 21) rfl rfl)) rfl rfl hl.1 rfl (lv_room (Nat.le_of_ble_eq_true rfl)) dX4_reader_53 ⟨Nat.zero_le _, Nat.zero_le _⟩) hP hD hS hA [21, 22, 23] (by decide) rfl (fun _ => rfl) (fun _ H locs e_35 hP hD hS => ?_)
        have hP : va_P D vwCl (wO o cI cR cS (va_up x 0 (c_sv (x 0))) (va_up v 14 (va_up (va_up (va_up (va_up (v 14) 0 h) 1 0) 2 0) 5 0)) (wV o cI cR (c_put V ((x 0 3 + x 0 4) % 6) v))) H := hP
        have hD : va_D A (wO o cI cR cS (va_up x 0 (c_sv (x 0))) (va_up v 14 (va_up (va_up (va_up (va_up (v 14) 0 h) 1 0) 2 0) 5 0)) (wV o cI cR (c_put V ((x 0 3 + x 0 4) % 6) v))) := hD
        refine lv_iload_n hx hb dX4_reader_56 rfl (lv_at hl 0 rfl) ?_
        have w_36 : (wO o cI cR cS (va_up x 0 (c_sv (x 0))) (va_up v (5 + 3 * 3) (r_anew (fun j => v (j + (5 + 3 * 3))) h 0)) (wV o cI cR (c_put V ((x 0 3 + x 0 4) % 6) v))) = (wO o cI cR cS (va_up x 0 (c_sv (x 0))) (va_up v 14 (va_up (va_up (va_up (va_up (v 14) 0 h) 1 0) 2 0) 5 0)) (wV o cI cR (c_put V ((x 0 3 + x 0 4) % 6) v))) := rfl
        rw [← w_36] at hP
        exact W.iret (v := nI 1) hx hb hrt (fun t ht hW => ⟨⟨_, (), rfl, (congrArg nI (show 1 = v 14 0 by omega)), by show va_P D vwCl _ t.heap; rw [ht]; exact hP⟩, hS.F ht⟩) hS.2.2 dX4_reader_57
    · skip
      exfalso
      omega
theorem inX4_begin_X4 : ∀ w ∈ wsX40, w ∈ wsX4_begin := by decide +kernel
theorem inX4_begin_X2 : ∀ w ∈ wsX20, w ∈ wsX4_begin := by decide +kernel
set_option maxHeartbeats 4000000 in
set_option maxRecDepth 100000 in
theorem k_X4_begin (l : Launch) (D : va_G) (cI cR cS cL : ClassId) (sz : Nat) (o : Nat → Nat) (x : Nat → Nat → Nat) (v : Nat → Nat → Nat) (V : Nat → Nat → Nat → Nat) (b : Nat) (r : Nat) (hSI : s_I b v) (hb : b < 2 ^ 28) (h3 : x 0 3 < 6) (h4 : x 0 4 ≤ 6) (hr : r < 4) (hm : s_mb v r) : Met l yX4_begin wsX4_begin ({ frames := 4, cells := 0, slots := 0, locals := 81 }) (va_Pc [.ref (o 0), .int (nI r)] (o_B D (o_T cI cR cS cL) (wO o cI cR cS x v (wV o cI cR V)) sz)) (va_Qi (fun rz (_ : Unit) => rz = nI (if s_wf v r then 0 else 1)) (fun (_ : Unit) t => va_P D vwCl (wO o cI cR cS (va_up x 0 (c_sv (x 0))) (s_opn v r) (wV o cI cR (c_put V ((x 0 3 + x 0 4) % 6) v))) t.heap) (va_A (wO o cI cR cS x v (wV o cI cR V)) sz)) 0 0 (va_A (wO o cI cR cS x v (wV o cI cR V)) sz) := by
  refine Met.ofW (cc := cX4_begin) (maxL := 2) (ret := (some .int)) (by decide) rfl ?_
  intro p e s m args below meth cd s₁ B hml hv
  obtain ⟨rfl, hsz, hP, hK, hD0, hN⟩ := hv
  have hx := B.exec
  have hb := B.bytes
  have hrt := B.returns
  have hts := atoms_spec (ws := wsX4_begin) B.pre
  have hown : s.vm.findClass RX4 = some m.cls := findClass_of_methodNamed B.named
  have hlocks := B.notSynchronized
  subst hsz
  have hD := hD0.self (sz := s.heap.size)
  generalize hAe : va_A (wO o cI cR cS x v (wV o cI cR V)) s.heap.size = A at hD ⊢
  have hA : ∀ q : Nat, s.heap.size ≤ q → A q := fun q h => by rw [← hAe]; exact Or.inr h
  have hS : va_S A s.heap s.heap [] := va_S.rf
  have hl := lv_entry ([.ref (o 0), .int (nI r)]) (n := 2) (Nat.le_of_ble_eq_true rfl)
  rw [lg_entry_eq]
  generalize (lg_sl ([.ref (o 0), .int (nI r)]) ++ List.replicate (2 - (lg_sl ([.ref (o 0), .int (nI r)])).length) Slot.unset).toArray = ls at hl ⊢
  have hl : lv_has ls 2 [(0, .ref (o 0)), (1, .int (nI r))] := hl
  rcases o_lt4 hr with rfl | rfl | rfl | rfl
  · skip
    have hSc := hSI
    obtain ⟨⟨i1, i2, i3, hpl⟩, i5⟩ := hSI
    have i12 := i5 0 (by omega)
    unfold s_IR at i12
    simp only [Nat.reduceMul, Nat.reduceAdd] at i12
    refine lv_iload_n hx hb dX4_begin_0 rfl (lv_at hl 1 rfl) ?_
    refine o_const (k := 4) hx hb dX4_begin_1 (by decide) ?_
    refine o_ri (va_runS (As := [.int (nI 0), .int (nI 4)]) (rest := []) ⟨hx, hb, hml, hown, hts⟩ (k_X4_isBelow l D cI cR cS cL 0 4 (by show 0 < 2 ^ 32; first | assumption | omega) (by show 4 < 2 ^ 31; first | assumption | omega)) (va_cwS 2 hts gX4_begin_X4_isBelow rfl rfl rfl (by decide +kernel) ⟨Nat.le_of_ble_eq_true rfl, Nat.le_of_ble_eq_true rfl⟩) (o_pR hK hN (hP.sub (ws' := []) [] rfl)) rfl rfl hl.1 rfl (lv_room (Nat.le_of_ble_eq_true rfl)) dX4_begin_2 ⟨Nat.zero_le _, Nat.zero_le _⟩) (fun r_2 e_1 => ?_)
    have e_1 : r_2 = nI (bn (0 < 4)) := e_1
    subst e_1
    refine o_ifnz (tgt := 18) hx hb dX4_begin_5 (by decide) (fun c_3 => ?_) (fun c_3 => ?_)
    · skip
      refine lv_aload_n hx hb dX4_begin_18 rfl (lv_at hl 0 rfl) ?_
      refine va_get (D := D) (ci := 4) (v := .ref (o 5)) (C := RX4) (T := TX4) (N := 6) hx hb hts inX4_begin_X4 hown hK hP 0 rfl rfl 0 (by decide) (hts (.fieldLink RX4 10 "OddNotice" "now" "LOddNotice$State;") (List.mem_of_getElem? (i := 5) (by decide +kernel))) (fun _ h9 => h9) rfl dX4_begin_19 ?_
      refine lv_iload_n hx hb dX4_begin_22 rfl (lv_at hl 1 rfl) ?_
      refine o_ri (va_runV (As := [.int (nI 0)]) (rest := []) ⟨hx, hb, hml, hown, hts⟩ (k_X2_mayBegin l D cI cR cS cL (fun k => o (k + 5)) v b 0 (hSc) (by show b < 2 ^ 28; first | assumption | omega) (by show 0 < 4; first | assumption | omega)) (cwV 1 hts gX4_begin_X2_mayBegin rfl rfl rfl (by decide +kernel) ⟨Nat.le_of_ble_eq_true rfl, Nat.le_of_ble_eq_true rfl⟩) (o_v (o_pR hK hN (hP.sub (ws' := (wS (fun k => o (k + 5)) cI cR v)) [5, 6, 7, 8, 9, 10, 11, 12, 13, 14, 15, 16, 17, 18, 19, 20, 21, 22, 23] rfl)) (va_recv hK hP (ci := 2) (q0 := 5) rfl rfl)) rfl rfl hl.1 rfl (lv_room (Nat.le_of_ble_eq_true rfl)) dX4_begin_23 ⟨Nat.zero_le _, Nat.zero_le _⟩) (fun r_5 e_4 => ?_)
      have e_4 : r_5 = nI (bn (s_mb v 0)) := e_4
      subst e_4
      refine o_ifnz (tgt := 39) hx hb dX4_begin_26 (by decide) (fun c_6 => ?_) (fun c_6 => ?_)
      · skip
        refine lv_aload_n hx hb dX4_begin_39 rfl (lv_at hl 0 rfl) ?_
        refine o_wvA (va_runV (As := []) (rest := []) ⟨hx, hb, hml, hown, hts⟩ (k_X4_saveState l D cI cR cS cL s.heap.size o x v V b (hSc) (by show b < 2 ^ 28; first | assumption | omega) (by show x 0 3 < 6; first | assumption | omega) (by show x 0 4 ≤ 6; first | assumption | omega)) (cwV 0 hts gX4_begin_X4_saveState rfl rfl rfl (by decide +kernel) ⟨Nat.le_of_ble_eq_true rfl, Nat.le_of_ble_eq_true rfl⟩) (o_v (o_pB hK hN hP hD) (va_recv hK hP (ci := 4) (q0 := 0) rfl rfl)) rfl rfl hl.1 rfl (lv_room (Nat.le_of_ble_eq_true rfl)) dX4_begin_40 ⟨Nat.zero_le _, Nat.zero_le _⟩) hD hS hA (fun _ => rfl) (fun _ H locs e_7 hP hD hS => ?_)
        have hP : va_P D vwCl (wO o cI cR cS (va_up x 0 (c_sv (x 0))) v (wV o cI cR (c_put V ((x 0 3 + x 0 4) % 6) v))) H := hP
        have hD : va_D A (wO o cI cR cS (va_up x 0 (c_sv (x 0))) v (wV o cI cR (c_put V ((x 0 3 + x 0 4) % 6) v))) := hD
        refine lv_aload_n hx hb dX4_begin_43 rfl (lv_at hl 0 rfl) ?_
        refine va_get (D := D) (ci := 4) (v := .ref (o 5)) (C := RX4) (T := TX4) (N := 6) hx hb hts inX4_begin_X4 hown hK hP 0 rfl rfl 0 (by decide) (hts (.fieldLink RX4 10 "OddNotice" "now" "LOddNotice$State;") (List.mem_of_getElem? (i := 5) (by decide +kernel))) (fun _ h9 => h9) rfl dX4_begin_44 ?_
        refine va_get (D := D) (ci := 2) (v := .ref (o 11)) (C := RX2) (T := TX2) (N := 4) hx hb hts inX4_begin_X2 hown hK hP 5 rfl rfl 1 (by decide) (hts (.fieldLink RX4 91 "OddNotice$State" "readers" "[LOddNotice$Reader;") (List.mem_of_getElem? (i := 6) (by decide +kernel))) (fun _ h9 => h9) rfl dX4_begin_47 ?_
        refine lv_iload_n hx hb dX4_begin_50 rfl (lv_at hl 1 rfl) ?_
        refine o_aldq (v := (o 12)) (C := "OddNotice$Reader") hx hb hK hP 6 1 rfl rfl (Nat.le_of_ble_eq_true rfl) (Nat.le_of_ble_eq_true rfl) rfl dX4_begin_51 ?_
        refine lv_aload_n hx hb dX4_begin_52 rfl (lv_at hl 0 rfl) ?_
        refine va_get (D := D) (ci := 4) (v := .ref (o 5)) (C := RX4) (T := TX4) (N := 6) hx hb hts inX4_begin_X4 hown hK hP 0 rfl rfl 0 (by decide) (hts (.fieldLink RX4 10 "OddNotice" "now" "LOddNotice$State;") (List.mem_of_getElem? (i := 5) (by decide +kernel))) (fun _ h9 => h9) rfl dX4_begin_53 ?_
        refine va_get (D := D) (ci := 2) (v := .ref (o 6)) (C := RX2) (T := TX2) (N := 4) hx hb hts inX4_begin_X2 hown hK hP 5 rfl rfl 0 (by decide) (hts (.fieldLink RX4 42 "OddNotice$State" "board" "LOddNotice$Board;") (List.mem_of_getElem? (i := 7) (by decide +kernel))) (fun _ h9 => h9) rfl dX4_begin_56 ?_
        refine o_wi (va_runV (As := [.ref (o 6)]) (rest := []) ⟨hx, hb, hml, hown, hts⟩ (k_X1_open l D cI cR cS cL H.size (fun k => o (k + 12)) (fun k => v (k + 5)) (fun k => o (k + 6)) v (by show (v 5 0) < 2 ^ 31; first | assumption | omega) (by show (v 5 1) < 2 ^ 31; first | assumption | omega) (by show (v 5 3) < 2 ^ 32; first | assumption | omega) (by show v 0 0 < 2 ^ 31; first | assumption | omega)) (cwV 1 hts gX4_begin_X1_open rfl rfl rfl (by decide +kernel) ⟨Nat.le_of_ble_eq_true rfl, Nat.le_of_ble_eq_true rfl⟩) (o_v (o_pB hK hN (hP.sub (ws' := (wR (fun k => o (k + 12)) cI (fun k => v (k + 5)) ++ wB (fun k => o (k + 6)) cI v)) [12, 13, 14, 7, 8, 9, 10, 11] rfl) (hD.sub (ws' := (wR (fun k => o (k + 12)) cI (fun k => v (k + 5)) ++ wB (fun k => o (k + 6)) cI v)) [12, 13, 14, 7, 8, 9, 10, 11] (by decide) rfl)) (va_recv hK hP (ci := 1) (q0 := 12) rfl rfl)) rfl rfl hl.1 rfl (lv_room (Nat.le_of_ble_eq_true rfl)) dX4_begin_59 ⟨Nat.zero_le _, Nat.zero_le _⟩) hP hD hS hA [12, 13, 14, 7, 8, 9, 10, 11] (by decide) rfl (fun _ => rfl) (fun r_9 _ H locs e_8 hP hD hS => ?_)
        have e_8 : r_9 = nI (bn (¬ (¬ (v 5 0) = 0 ∧ (¬ (v 5 1) = 0 ∧ ¬ (v 5 3) = v 0 0 ∨ (v 5 1) = 0 ∧ v 0 0 % 2 = 1)))) := e_8
        subst e_8
        have hP : va_P D vwCl (wO o cI cR cS (va_up x 0 (c_sv (x 0))) (va_up (va_up (va_up v 5 ((r_open (fun k => v (k + 5)) v) 0)) 6 ((r_open (fun k => v (k + 5)) v) 1)) 7 ((r_open (fun k => v (k + 5)) v) 2)) (wV o cI cR (c_put V ((x 0 3 + x 0 4) % 6) v))) H := hP
        have hD : va_D A (wO o cI cR cS (va_up x 0 (c_sv (x 0))) (va_up (va_up (va_up v 5 ((r_open (fun k => v (k + 5)) v) 0)) 6 ((r_open (fun k => v (k + 5)) v) 1)) 7 ((r_open (fun k => v (k + 5)) v) 2)) (wV o cI cR (c_put V ((x 0 3 + x 0 4) % 6) v))) := hD
        refine o_ifz (tgt := 69) hx hb dX4_begin_62 (by decide) (fun c_10 => ?_) (fun c_10 => ?_)
        · skip
          refine o_const (k := 0) hx hb dX4_begin_69 (by decide) ?_
          have w_11 : (wO o cI cR cS (va_up x 0 (c_sv (x 0))) (s_opn v 0) (wV o cI cR (c_put V ((x 0 3 + x 0 4) % 6) v))) = (wO o cI cR cS (va_up x 0 (c_sv (x 0))) (va_up (va_up (va_up v 5 ((r_open (fun k => v (k + 5)) v) 0)) 6 ((r_open (fun k => v (k + 5)) v) 1)) 7 ((r_open (fun k => v (k + 5)) v) 2)) (wV o cI cR (c_put V ((x 0 3 + x 0 4) % 6) v))) := rfl
          rw [← w_11] at hP
          exact W.iret (v := nI 0) hx hb hrt (fun t ht hW => ⟨⟨_, (), rfl, (congrArg nI (Eq.symm (show (if s_wf v 0 then 0 else 1) = _ from if_pos (Decidable.not_not.mp c_10)))), by show va_P D vwCl _ t.heap; rw [ht]; exact hP⟩, hS.F ht⟩) hS.2.2 dX4_begin_70
        · skip
          refine o_const (k := 1) hx hb dX4_begin_65 (by decide) ?_
          refine lv_goto (tgt := 70) hx hb dX4_begin_66 (by decide) ?_
          have w_12 : (wO o cI cR cS (va_up x 0 (c_sv (x 0))) (s_opn v 0) (wV o cI cR (c_put V ((x 0 3 + x 0 4) % 6) v))) = (wO o cI cR cS (va_up x 0 (c_sv (x 0))) (va_up (va_up (va_up v 5 ((r_open (fun k => v (k + 5)) v) 0)) 6 ((r_open (fun k => v (k + 5)) v) 1)) 7 ((r_open (fun k => v (k + 5)) v) 2)) (wV o cI cR (c_put V ((x 0 3 + x 0 4) % 6) v))) := rfl
          rw [← w_12] at hP
          exact W.iret (v := nI 1) hx hb hrt (fun t ht hW => ⟨⟨_, (), rfl, (congrArg nI (Eq.symm (show (if s_wf v 0 then 0 else 1) = _ from if_neg c_10))), by show va_P D vwCl _ t.heap; rw [ht]; exact hP⟩, hS.F ht⟩) hS.2.2 dX4_begin_70
      · skip
        exfalso
        omega
    · skip
      exfalso
      omega
  · skip
    have hSc := hSI
    obtain ⟨⟨i1, i2, i3, hpl⟩, i5⟩ := hSI
    have i12 := i5 1 (by omega)
    unfold s_IR at i12
    simp only [Nat.reduceMul, Nat.reduceAdd] at i12
    refine lv_iload_n hx hb dX4_begin_0 rfl (lv_at hl 1 rfl) ?_
    refine o_const (k := 4) hx hb dX4_begin_1 (by decide) ?_
    refine o_ri (va_runS (As := [.int (nI 1), .int (nI 4)]) (rest := []) ⟨hx, hb, hml, hown, hts⟩ (k_X4_isBelow l D cI cR cS cL 1 4 (by show 1 < 2 ^ 32; first | assumption | omega) (by show 4 < 2 ^ 31; first | assumption | omega)) (va_cwS 2 hts gX4_begin_X4_isBelow rfl rfl rfl (by decide +kernel) ⟨Nat.le_of_ble_eq_true rfl, Nat.le_of_ble_eq_true rfl⟩) (o_pR hK hN (hP.sub (ws' := []) [] rfl)) rfl rfl hl.1 rfl (lv_room (Nat.le_of_ble_eq_true rfl)) dX4_begin_2 ⟨Nat.zero_le _, Nat.zero_le _⟩) (fun r_14 e_13 => ?_)
    have e_13 : r_14 = nI (bn (1 < 4)) := e_13
    subst e_13
    refine o_ifnz (tgt := 18) hx hb dX4_begin_5 (by decide) (fun c_15 => ?_) (fun c_15 => ?_)
    · skip
      refine lv_aload_n hx hb dX4_begin_18 rfl (lv_at hl 0 rfl) ?_
      refine va_get (D := D) (ci := 4) (v := .ref (o 5)) (C := RX4) (T := TX4) (N := 6) hx hb hts inX4_begin_X4 hown hK hP 0 rfl rfl 0 (by decide) (hts (.fieldLink RX4 10 "OddNotice" "now" "LOddNotice$State;") (List.mem_of_getElem? (i := 5) (by decide +kernel))) (fun _ h9 => h9) rfl dX4_begin_19 ?_
      refine lv_iload_n hx hb dX4_begin_22 rfl (lv_at hl 1 rfl) ?_
      refine o_ri (va_runV (As := [.int (nI 1)]) (rest := []) ⟨hx, hb, hml, hown, hts⟩ (k_X2_mayBegin l D cI cR cS cL (fun k => o (k + 5)) v b 1 (hSc) (by show b < 2 ^ 28; first | assumption | omega) (by show 1 < 4; first | assumption | omega)) (cwV 1 hts gX4_begin_X2_mayBegin rfl rfl rfl (by decide +kernel) ⟨Nat.le_of_ble_eq_true rfl, Nat.le_of_ble_eq_true rfl⟩) (o_v (o_pR hK hN (hP.sub (ws' := (wS (fun k => o (k + 5)) cI cR v)) [5, 6, 7, 8, 9, 10, 11, 12, 13, 14, 15, 16, 17, 18, 19, 20, 21, 22, 23] rfl)) (va_recv hK hP (ci := 2) (q0 := 5) rfl rfl)) rfl rfl hl.1 rfl (lv_room (Nat.le_of_ble_eq_true rfl)) dX4_begin_23 ⟨Nat.zero_le _, Nat.zero_le _⟩) (fun r_17 e_16 => ?_)
      have e_16 : r_17 = nI (bn (s_mb v 1)) := e_16
      subst e_16
      refine o_ifnz (tgt := 39) hx hb dX4_begin_26 (by decide) (fun c_18 => ?_) (fun c_18 => ?_)
      · skip
        refine lv_aload_n hx hb dX4_begin_39 rfl (lv_at hl 0 rfl) ?_
        refine o_wvA (va_runV (As := []) (rest := []) ⟨hx, hb, hml, hown, hts⟩ (k_X4_saveState l D cI cR cS cL s.heap.size o x v V b (hSc) (by show b < 2 ^ 28; first | assumption | omega) (by show x 0 3 < 6; first | assumption | omega) (by show x 0 4 ≤ 6; first | assumption | omega)) (cwV 0 hts gX4_begin_X4_saveState rfl rfl rfl (by decide +kernel) ⟨Nat.le_of_ble_eq_true rfl, Nat.le_of_ble_eq_true rfl⟩) (o_v (o_pB hK hN hP hD) (va_recv hK hP (ci := 4) (q0 := 0) rfl rfl)) rfl rfl hl.1 rfl (lv_room (Nat.le_of_ble_eq_true rfl)) dX4_begin_40 ⟨Nat.zero_le _, Nat.zero_le _⟩) hD hS hA (fun _ => rfl) (fun _ H locs e_19 hP hD hS => ?_)
        have hP : va_P D vwCl (wO o cI cR cS (va_up x 0 (c_sv (x 0))) v (wV o cI cR (c_put V ((x 0 3 + x 0 4) % 6) v))) H := hP
        have hD : va_D A (wO o cI cR cS (va_up x 0 (c_sv (x 0))) v (wV o cI cR (c_put V ((x 0 3 + x 0 4) % 6) v))) := hD
        refine lv_aload_n hx hb dX4_begin_43 rfl (lv_at hl 0 rfl) ?_
        refine va_get (D := D) (ci := 4) (v := .ref (o 5)) (C := RX4) (T := TX4) (N := 6) hx hb hts inX4_begin_X4 hown hK hP 0 rfl rfl 0 (by decide) (hts (.fieldLink RX4 10 "OddNotice" "now" "LOddNotice$State;") (List.mem_of_getElem? (i := 5) (by decide +kernel))) (fun _ h9 => h9) rfl dX4_begin_44 ?_
        refine va_get (D := D) (ci := 2) (v := .ref (o 11)) (C := RX2) (T := TX2) (N := 4) hx hb hts inX4_begin_X2 hown hK hP 5 rfl rfl 1 (by decide) (hts (.fieldLink RX4 91 "OddNotice$State" "readers" "[LOddNotice$Reader;") (List.mem_of_getElem? (i := 6) (by decide +kernel))) (fun _ h9 => h9) rfl dX4_begin_47 ?_
        refine lv_iload_n hx hb dX4_begin_50 rfl (lv_at hl 1 rfl) ?_
        refine o_aldq (v := (o 15)) (C := "OddNotice$Reader") hx hb hK hP 6 1 rfl rfl (Nat.le_of_ble_eq_true rfl) (Nat.le_of_ble_eq_true rfl) rfl dX4_begin_51 ?_
        refine lv_aload_n hx hb dX4_begin_52 rfl (lv_at hl 0 rfl) ?_
        refine va_get (D := D) (ci := 4) (v := .ref (o 5)) (C := RX4) (T := TX4) (N := 6) hx hb hts inX4_begin_X4 hown hK hP 0 rfl rfl 0 (by decide) (hts (.fieldLink RX4 10 "OddNotice" "now" "LOddNotice$State;") (List.mem_of_getElem? (i := 5) (by decide +kernel))) (fun _ h9 => h9) rfl dX4_begin_53 ?_
        refine va_get (D := D) (ci := 2) (v := .ref (o 6)) (C := RX2) (T := TX2) (N := 4) hx hb hts inX4_begin_X2 hown hK hP 5 rfl rfl 0 (by decide) (hts (.fieldLink RX4 42 "OddNotice$State" "board" "LOddNotice$Board;") (List.mem_of_getElem? (i := 7) (by decide +kernel))) (fun _ h9 => h9) rfl dX4_begin_56 ?_
        refine o_wi (va_runV (As := [.ref (o 6)]) (rest := []) ⟨hx, hb, hml, hown, hts⟩ (k_X1_open l D cI cR cS cL H.size (fun k => o (k + 15)) (fun k => v (k + 8)) (fun k => o (k + 6)) v (by show (v 8 0) < 2 ^ 31; first | assumption | omega) (by show (v 8 1) < 2 ^ 31; first | assumption | omega) (by show (v 8 3) < 2 ^ 32; first | assumption | omega) (by show v 0 0 < 2 ^ 31; first | assumption | omega)) (cwV 1 hts gX4_begin_X1_open rfl rfl rfl (by decide +kernel) ⟨Nat.le_of_ble_eq_true rfl, Nat.le_of_ble_eq_true rfl⟩) (o_v (o_pB hK hN (hP.sub (ws' := (wR (fun k => o (k + 15)) cI (fun k => v (k + 8)) ++ wB (fun k => o (k + 6)) cI v)) [15, 16, 17, 7, 8, 9, 10, 11] rfl) (hD.sub (ws' := (wR (fun k => o (k + 15)) cI (fun k => v (k + 8)) ++ wB (fun k => o (k + 6)) cI v)) [15, 16, 17, 7, 8, 9, 10, 11] (by decide) rfl)) (va_recv hK hP (ci := 1) (q0 := 15) rfl rfl)) rfl rfl hl.1 rfl (lv_room (Nat.le_of_ble_eq_true rfl)) dX4_begin_59 ⟨Nat.zero_le _, Nat.zero_le _⟩) hP hD hS hA [15, 16, 17, 7, 8, 9, 10, 11] (by decide) rfl (fun _ => rfl) (fun r_21 _ H locs e_20 hP hD hS => ?_)
        have e_20 : r_21 = nI (bn (¬ (¬ (v 8 0) = 0 ∧ (¬ (v 8 1) = 0 ∧ ¬ (v 8 3) = v 0 0 ∨ (v 8 1) = 0 ∧ v 0 0 % 2 = 1)))) := e_20
        subst e_20
        have hP : va_P D vwCl (wO o cI cR cS (va_up x 0 (c_sv (x 0))) (va_up (va_up (va_up v 8 ((r_open (fun k => v (k + 8)) v) 0)) 9 ((r_open (fun k => v (k + 8)) v) 1)) 10 ((r_open (fun k => v (k + 8)) v) 2)) (wV o cI cR (c_put V ((x 0 3 + x 0 4) % 6) v))) H := hP
        have hD : va_D A (wO o cI cR cS (va_up x 0 (c_sv (x 0))) (va_up (va_up (va_up v 8 ((r_open (fun k => v (k + 8)) v) 0)) 9 ((r_open (fun k => v (k + 8)) v) 1)) 10 ((r_open (fun k => v (k + 8)) v) 2)) (wV o cI cR (c_put V ((x 0 3 + x 0 4) % 6) v))) := hD
        refine o_ifz (tgt := 69) hx hb dX4_begin_62 (by decide) (fun c_22 => ?_) (fun c_22 => ?_)
        · skip
          refine o_const (k := 0) hx hb dX4_begin_69 (by decide) ?_
          have w_23 : (wO o cI cR cS (va_up x 0 (c_sv (x 0))) (s_opn v 1) (wV o cI cR (c_put V ((x 0 3 + x 0 4) % 6) v))) = (wO o cI cR cS (va_up x 0 (c_sv (x 0))) (va_up (va_up (va_up v 8 ((r_open (fun k => v (k + 8)) v) 0)) 9 ((r_open (fun k => v (k + 8)) v) 1)) 10 ((r_open (fun k => v (k + 8)) v) 2)) (wV o cI cR (c_put V ((x 0 3 + x 0 4) % 6) v))) := rfl
          rw [← w_23] at hP
          exact W.iret (v := nI 0) hx hb hrt (fun t ht hW => ⟨⟨_, (), rfl, (congrArg nI (Eq.symm (show (if s_wf v 1 then 0 else 1) = _ from if_pos (Decidable.not_not.mp c_22)))), by show va_P D vwCl _ t.heap; rw [ht]; exact hP⟩, hS.F ht⟩) hS.2.2 dX4_begin_70
        · skip
          refine o_const (k := 1) hx hb dX4_begin_65 (by decide) ?_
          refine lv_goto (tgt := 70) hx hb dX4_begin_66 (by decide) ?_
          have w_24 : (wO o cI cR cS (va_up x 0 (c_sv (x 0))) (s_opn v 1) (wV o cI cR (c_put V ((x 0 3 + x 0 4) % 6) v))) = (wO o cI cR cS (va_up x 0 (c_sv (x 0))) (va_up (va_up (va_up v 8 ((r_open (fun k => v (k + 8)) v) 0)) 9 ((r_open (fun k => v (k + 8)) v) 1)) 10 ((r_open (fun k => v (k + 8)) v) 2)) (wV o cI cR (c_put V ((x 0 3 + x 0 4) % 6) v))) := rfl
          rw [← w_24] at hP
          exact W.iret (v := nI 1) hx hb hrt (fun t ht hW => ⟨⟨_, (), rfl, (congrArg nI (Eq.symm (show (if s_wf v 1 then 0 else 1) = _ from if_neg c_22))), by show va_P D vwCl _ t.heap; rw [ht]; exact hP⟩, hS.F ht⟩) hS.2.2 dX4_begin_70
      · skip
        exfalso
        omega
    · skip
      exfalso
      omega
  · skip
    have hSc := hSI
    obtain ⟨⟨i1, i2, i3, hpl⟩, i5⟩ := hSI
    have i12 := i5 2 (by omega)
    unfold s_IR at i12
    simp only [Nat.reduceMul, Nat.reduceAdd] at i12
    refine lv_iload_n hx hb dX4_begin_0 rfl (lv_at hl 1 rfl) ?_
    refine o_const (k := 4) hx hb dX4_begin_1 (by decide) ?_
    refine o_ri (va_runS (As := [.int (nI 2), .int (nI 4)]) (rest := []) ⟨hx, hb, hml, hown, hts⟩ (k_X4_isBelow l D cI cR cS cL 2 4 (by show 2 < 2 ^ 32; first | assumption | omega) (by show 4 < 2 ^ 31; first | assumption | omega)) (va_cwS 2 hts gX4_begin_X4_isBelow rfl rfl rfl (by decide +kernel) ⟨Nat.le_of_ble_eq_true rfl, Nat.le_of_ble_eq_true rfl⟩) (o_pR hK hN (hP.sub (ws' := []) [] rfl)) rfl rfl hl.1 rfl (lv_room (Nat.le_of_ble_eq_true rfl)) dX4_begin_2 ⟨Nat.zero_le _, Nat.zero_le _⟩) (fun r_26 e_25 => ?_)
    have e_25 : r_26 = nI (bn (2 < 4)) := e_25
    subst e_25
    refine o_ifnz (tgt := 18) hx hb dX4_begin_5 (by decide) (fun c_27 => ?_) (fun c_27 => ?_)
    · skip
      refine lv_aload_n hx hb dX4_begin_18 rfl (lv_at hl 0 rfl) ?_
      refine va_get (D := D) (ci := 4) (v := .ref (o 5)) (C := RX4) (T := TX4) (N := 6) hx hb hts inX4_begin_X4 hown hK hP 0 rfl rfl 0 (by decide) (hts (.fieldLink RX4 10 "OddNotice" "now" "LOddNotice$State;") (List.mem_of_getElem? (i := 5) (by decide +kernel))) (fun _ h9 => h9) rfl dX4_begin_19 ?_
      refine lv_iload_n hx hb dX4_begin_22 rfl (lv_at hl 1 rfl) ?_
      refine o_ri (va_runV (As := [.int (nI 2)]) (rest := []) ⟨hx, hb, hml, hown, hts⟩ (k_X2_mayBegin l D cI cR cS cL (fun k => o (k + 5)) v b 2 (hSc) (by show b < 2 ^ 28; first | assumption | omega) (by show 2 < 4; first | assumption | omega)) (cwV 1 hts gX4_begin_X2_mayBegin rfl rfl rfl (by decide +kernel) ⟨Nat.le_of_ble_eq_true rfl, Nat.le_of_ble_eq_true rfl⟩) (o_v (o_pR hK hN (hP.sub (ws' := (wS (fun k => o (k + 5)) cI cR v)) [5, 6, 7, 8, 9, 10, 11, 12, 13, 14, 15, 16, 17, 18, 19, 20, 21, 22, 23] rfl)) (va_recv hK hP (ci := 2) (q0 := 5) rfl rfl)) rfl rfl hl.1 rfl (lv_room (Nat.le_of_ble_eq_true rfl)) dX4_begin_23 ⟨Nat.zero_le _, Nat.zero_le _⟩) (fun r_29 e_28 => ?_)
      have e_28 : r_29 = nI (bn (s_mb v 2)) := e_28
      subst e_28
      refine o_ifnz (tgt := 39) hx hb dX4_begin_26 (by decide) (fun c_30 => ?_) (fun c_30 => ?_)
      · skip
        refine lv_aload_n hx hb dX4_begin_39 rfl (lv_at hl 0 rfl) ?_
        refine o_wvA (va_runV (As := []) (rest := []) ⟨hx, hb, hml, hown, hts⟩ (k_X4_saveState l D cI cR cS cL s.heap.size o x v V b (hSc) (by show b < 2 ^ 28; first | assumption | omega) (by show x 0 3 < 6; first | assumption | omega) (by show x 0 4 ≤ 6; first | assumption | omega)) (cwV 0 hts gX4_begin_X4_saveState rfl rfl rfl (by decide +kernel) ⟨Nat.le_of_ble_eq_true rfl, Nat.le_of_ble_eq_true rfl⟩) (o_v (o_pB hK hN hP hD) (va_recv hK hP (ci := 4) (q0 := 0) rfl rfl)) rfl rfl hl.1 rfl (lv_room (Nat.le_of_ble_eq_true rfl)) dX4_begin_40 ⟨Nat.zero_le _, Nat.zero_le _⟩) hD hS hA (fun _ => rfl) (fun _ H locs e_31 hP hD hS => ?_)
        have hP : va_P D vwCl (wO o cI cR cS (va_up x 0 (c_sv (x 0))) v (wV o cI cR (c_put V ((x 0 3 + x 0 4) % 6) v))) H := hP
        have hD : va_D A (wO o cI cR cS (va_up x 0 (c_sv (x 0))) v (wV o cI cR (c_put V ((x 0 3 + x 0 4) % 6) v))) := hD
        refine lv_aload_n hx hb dX4_begin_43 rfl (lv_at hl 0 rfl) ?_
        refine va_get (D := D) (ci := 4) (v := .ref (o 5)) (C := RX4) (T := TX4) (N := 6) hx hb hts inX4_begin_X4 hown hK hP 0 rfl rfl 0 (by decide) (hts (.fieldLink RX4 10 "OddNotice" "now" "LOddNotice$State;") (List.mem_of_getElem? (i := 5) (by decide +kernel))) (fun _ h9 => h9) rfl dX4_begin_44 ?_
        refine va_get (D := D) (ci := 2) (v := .ref (o 11)) (C := RX2) (T := TX2) (N := 4) hx hb hts inX4_begin_X2 hown hK hP 5 rfl rfl 1 (by decide) (hts (.fieldLink RX4 91 "OddNotice$State" "readers" "[LOddNotice$Reader;") (List.mem_of_getElem? (i := 6) (by decide +kernel))) (fun _ h9 => h9) rfl dX4_begin_47 ?_
        refine lv_iload_n hx hb dX4_begin_50 rfl (lv_at hl 1 rfl) ?_
        refine o_aldq (v := (o 18)) (C := "OddNotice$Reader") hx hb hK hP 6 1 rfl rfl (Nat.le_of_ble_eq_true rfl) (Nat.le_of_ble_eq_true rfl) rfl dX4_begin_51 ?_
        refine lv_aload_n hx hb dX4_begin_52 rfl (lv_at hl 0 rfl) ?_
        refine va_get (D := D) (ci := 4) (v := .ref (o 5)) (C := RX4) (T := TX4) (N := 6) hx hb hts inX4_begin_X4 hown hK hP 0 rfl rfl 0 (by decide) (hts (.fieldLink RX4 10 "OddNotice" "now" "LOddNotice$State;") (List.mem_of_getElem? (i := 5) (by decide +kernel))) (fun _ h9 => h9) rfl dX4_begin_53 ?_
        refine va_get (D := D) (ci := 2) (v := .ref (o 6)) (C := RX2) (T := TX2) (N := 4) hx hb hts inX4_begin_X2 hown hK hP 5 rfl rfl 0 (by decide) (hts (.fieldLink RX4 42 "OddNotice$State" "board" "LOddNotice$Board;") (List.mem_of_getElem? (i := 7) (by decide +kernel))) (fun _ h9 => h9) rfl dX4_begin_56 ?_
        refine o_wi (va_runV (As := [.ref (o 6)]) (rest := []) ⟨hx, hb, hml, hown, hts⟩ (k_X1_open l D cI cR cS cL H.size (fun k => o (k + 18)) (fun k => v (k + 11)) (fun k => o (k + 6)) v (by show (v 11 0) < 2 ^ 31; first | assumption | omega) (by show (v 11 1) < 2 ^ 31; first | assumption | omega) (by show (v 11 3) < 2 ^ 32; first | assumption | omega) (by show v 0 0 < 2 ^ 31; first | assumption | omega)) (cwV 1 hts gX4_begin_X1_open rfl rfl rfl (by decide +kernel) ⟨Nat.le_of_ble_eq_true rfl, Nat.le_of_ble_eq_true rfl⟩) (o_v (o_pB hK hN (hP.sub (ws' := (wR (fun k => o (k + 18)) cI (fun k => v (k + 11)) ++ wB (fun k => o (k + 6)) cI v)) [18, 19, 20, 7, 8, 9, 10, 11] rfl) (hD.sub (ws' := (wR (fun k => o (k + 18)) cI (fun k => v (k + 11)) ++ wB (fun k => o (k + 6)) cI v)) [18, 19, 20, 7, 8, 9, 10, 11] (by decide) rfl)) (va_recv hK hP (ci := 1) (q0 := 18) rfl rfl)) rfl rfl hl.1 rfl (lv_room (Nat.le_of_ble_eq_true rfl)) dX4_begin_59 ⟨Nat.zero_le _, Nat.zero_le _⟩) hP hD hS hA [18, 19, 20, 7, 8, 9, 10, 11] (by decide) rfl (fun _ => rfl) (fun r_33 _ H locs e_32 hP hD hS => ?_)
        have e_32 : r_33 = nI (bn (¬ (¬ (v 11 0) = 0 ∧ (¬ (v 11 1) = 0 ∧ ¬ (v 11 3) = v 0 0 ∨ (v 11 1) = 0 ∧ v 0 0 % 2 = 1)))) := e_32
        subst e_32
        have hP : va_P D vwCl (wO o cI cR cS (va_up x 0 (c_sv (x 0))) (va_up (va_up (va_up v 11 ((r_open (fun k => v (k + 11)) v) 0)) 12 ((r_open (fun k => v (k + 11)) v) 1)) 13 ((r_open (fun k => v (k + 11)) v) 2)) (wV o cI cR (c_put V ((x 0 3 + x 0 4) % 6) v))) H := hP
        have hD : va_D A (wO o cI cR cS (va_up x 0 (c_sv (x 0))) (va_up (va_up (va_up v 11 ((r_open (fun k => v (k + 11)) v) 0)) 12 ((r_open (fun k => v (k + 11)) v) 1)) 13 ((r_open (fun k => v (k + 11)) v) 2)) (wV o cI cR (c_put V ((x 0 3 + x 0 4) % 6) v))) := hD
        refine o_ifz (tgt := 69) hx hb dX4_begin_62 (by decide) (fun c_34 => ?_) (fun c_34 => ?_)
        · skip
          refine o_const (k := 0) hx hb dX4_begin_69 (by decide) ?_
          have w_35 : (wO o cI cR cS (va_up x 0 (c_sv (x 0))) (s_opn v 2) (wV o cI cR (c_put V ((x 0 3 + x 0 4) % 6) v))) = (wO o cI cR cS (va_up x 0 (c_sv (x 0))) (va_up (va_up (va_up v 11 ((r_open (fun k => v (k + 11)) v) 0)) 12 ((r_open (fun k => v (k + 11)) v) 1)) 13 ((r_open (fun k => v (k + 11)) v) 2)) (wV o cI cR (c_put V ((x 0 3 + x 0 4) % 6) v))) := rfl
          rw [← w_35] at hP
          exact W.iret (v := nI 0) hx hb hrt (fun t ht hW => ⟨⟨_, (), rfl, (congrArg nI (Eq.symm (show (if s_wf v 2 then 0 else 1) = _ from if_pos (Decidable.not_not.mp c_34)))), by show va_P D vwCl _ t.heap; rw [ht]; exact hP⟩, hS.F ht⟩) hS.2.2 dX4_begin_70
        · skip
          refine o_const (k := 1) hx hb dX4_begin_65 (by decide) ?_
          refine lv_goto (tgt := 70) hx hb dX4_begin_66 (by decide) ?_
          have w_36 : (wO o cI cR cS (va_up x 0 (c_sv (x 0))) (s_opn v 2) (wV o cI cR (c_put V ((x 0 3 + x 0 4) % 6) v))) = (wO o cI cR cS (va_up x 0 (c_sv (x 0))) (va_up (va_up (va_up v 11 ((r_open (fun k => v (k + 11)) v) 0)) 12 ((r_open (fun k => v (k + 11)) v) 1)) 13 ((r_open (fun k => v (k + 11)) v) 2)) (wV o cI cR (c_put V ((x 0 3 + x 0 4) % 6) v))) := rfl
          rw [← w_36] at hP
          exact W.iret (v := nI 1) hx hb hrt (fun t ht hW => ⟨⟨_, (), rfl, (congrArg nI (Eq.symm (show (if s_wf v 2 then 0 else 1) = _ from if_neg c_34))), by show va_P D vwCl _ t.heap; rw [ht]; exact hP⟩, hS.F ht⟩) hS.2.2 dX4_begin_70
      · skip
        exfalso
        omega
    · skip
      exfalso
      omega
  · skip
    have hSc := hSI
    obtain ⟨⟨i1, i2, i3, hpl⟩, i5⟩ := hSI
    have i12 := i5 3 (by omega)
    unfold s_IR at i12
    simp only [Nat.reduceMul, Nat.reduceAdd] at i12
    refine lv_iload_n hx hb dX4_begin_0 rfl (lv_at hl 1 rfl) ?_
    refine o_const (k := 4) hx hb dX4_begin_1 (by decide) ?_
    refine o_ri (va_runS (As := [.int (nI 3), .int (nI 4)]) (rest := []) ⟨hx, hb, hml, hown, hts⟩ (k_X4_isBelow l D cI cR cS cL 3 4 (by show 3 < 2 ^ 32; first | assumption | omega) (by show 4 < 2 ^ 31; first | assumption | omega)) (va_cwS 2 hts gX4_begin_X4_isBelow rfl rfl rfl (by decide +kernel) ⟨Nat.le_of_ble_eq_true rfl, Nat.le_of_ble_eq_true rfl⟩) (o_pR hK hN (hP.sub (ws' := []) [] rfl)) rfl rfl hl.1 rfl (lv_room (Nat.le_of_ble_eq_true rfl)) dX4_begin_2 ⟨Nat.zero_le _, Nat.zero_le _⟩) (fun r_38 e_37 => ?_)
    have e_37 : r_38 = nI (bn (3 < 4)) := e_37
    subst e_37
    refine o_ifnz (tgt := 18) hx hb dX4_begin_5 (by decide) (fun c_39 => ?_) (fun c_39 => ?_)
    · skip
      refine lv_aload_n hx hb dX4_begin_18 rfl (lv_at hl 0 rfl) ?_
      refine va_get (D := D) (ci := 4) (v := .ref (o 5)) (C := RX4) (T := TX4) (N := 6) hx hb hts inX4_begin_X4 hown hK hP 0 rfl rfl 0 (by decide) (hts (.fieldLink RX4 10 "OddNotice" "now" "LOddNotice$State;") (List.mem_of_getElem? (i := 5) (by decide +kernel))) (fun _ h9 => h9) rfl dX4_begin_19 ?_
      refine lv_iload_n hx hb dX4_begin_22 rfl (lv_at hl 1 rfl) ?_
      refine o_ri (va_runV (As := [.int (nI 3)]) (rest := []) ⟨hx, hb, hml, hown, hts⟩ (k_X2_mayBegin l D cI cR cS cL (fun k => o (k + 5)) v b 3 (hSc) (by show b < 2 ^ 28; first | assumption | omega) (by show 3 < 4; first | assumption | omega)) (cwV 1 hts gX4_begin_X2_mayBegin rfl rfl rfl (by decide +kernel) ⟨Nat.le_of_ble_eq_true rfl, Nat.le_of_ble_eq_true rfl⟩) (o_v (o_pR hK hN (hP.sub (ws' := (wS (fun k => o (k + 5)) cI cR v)) [5, 6, 7, 8, 9, 10, 11, 12, 13, 14, 15, 16, 17, 18, 19, 20, 21, 22, 23] rfl)) (va_recv hK hP (ci := 2) (q0 := 5) rfl rfl)) rfl rfl hl.1 rfl (lv_room (Nat.le_of_ble_eq_true rfl)) dX4_begin_23 ⟨Nat.zero_le _, Nat.zero_le _⟩) (fun r_41 e_40 => ?_)
      have e_40 : r_41 = nI (bn (s_mb v 3)) := e_40
      subst e_40
      refine o_ifnz (tgt := 39) hx hb dX4_begin_26 (by decide) (fun c_42 => ?_) (fun c_42 => ?_)
      · skip
        refine lv_aload_n hx hb dX4_begin_39 rfl (lv_at hl 0 rfl) ?_
        refine o_wvA (va_runV (As := []) (rest := []) ⟨hx, hb, hml, hown, hts⟩ (k_X4_saveState l D cI cR cS cL s.heap.size o x v V b (hSc) (by show b < 2 ^ 28; first | assumption | omega) (by show x 0 3 < 6; first | assumption | omega) (by show x 0 4 ≤ 6; first | assumption | omega)) (cwV 0 hts gX4_begin_X4_saveState rfl rfl rfl (by decide +kernel) ⟨Nat.le_of_ble_eq_true rfl, Nat.le_of_ble_eq_true rfl⟩) (o_v (o_pB hK hN hP hD) (va_recv hK hP (ci := 4) (q0 := 0) rfl rfl)) rfl rfl hl.1 rfl (lv_room (Nat.le_of_ble_eq_true rfl)) dX4_begin_40 ⟨Nat.zero_le _, Nat.zero_le _⟩) hD hS hA (fun _ => rfl) (fun _ H locs e_43 hP hD hS => ?_)
        have hP : va_P D vwCl (wO o cI cR cS (va_up x 0 (c_sv (x 0))) v (wV o cI cR (c_put V ((x 0 3 + x 0 4) % 6) v))) H := hP
        have hD : va_D A (wO o cI cR cS (va_up x 0 (c_sv (x 0))) v (wV o cI cR (c_put V ((x 0 3 + x 0 4) % 6) v))) := hD
        refine lv_aload_n hx hb dX4_begin_43 rfl (lv_at hl 0 rfl) ?_
        refine va_get (D := D) (ci := 4) (v := .ref (o 5)) (C := RX4) (T := TX4) (N := 6) hx hb hts inX4_begin_X4 hown hK hP 0 rfl rfl 0 (by decide) (hts (.fieldLink RX4 10 "OddNotice" "now" "LOddNotice$State;") (List.mem_of_getElem? (i := 5) (by decide +kernel))) (fun _ h9 => h9) rfl dX4_begin_44 ?_
        refine va_get (D := D) (ci := 2) (v := .ref (o 11)) (C := RX2) (T := TX2) (N := 4) hx hb hts inX4_begin_X2 hown hK hP 5 rfl rfl 1 (by decide) (hts (.fieldLink RX4 91 "OddNotice$State" "readers" "[LOddNotice$Reader;") (List.mem_of_getElem? (i := 6) (by decide +kernel))) (fun _ h9 => h9) rfl dX4_begin_47 ?_
        refine lv_iload_n hx hb dX4_begin_50 rfl (lv_at hl 1 rfl) ?_
        refine o_aldq (v := (o 21)) (C := "OddNotice$Reader") hx hb hK hP 6 1 rfl rfl (Nat.le_of_ble_eq_true rfl) (Nat.le_of_ble_eq_true rfl) rfl dX4_begin_51 ?_
        refine lv_aload_n hx hb dX4_begin_52 rfl (lv_at hl 0 rfl) ?_
        refine va_get (D := D) (ci := 4) (v := .ref (o 5)) (C := RX4) (T := TX4) (N := 6) hx hb hts inX4_begin_X4 hown hK hP 0 rfl rfl 0 (by decide) (hts (.fieldLink RX4 10 "OddNotice" "now" "LOddNotice$State;") (List.mem_of_getElem? (i := 5) (by decide +kernel))) (fun _ h9 => h9) rfl dX4_begin_53 ?_
        refine va_get (D := D) (ci := 2) (v := .ref (o 6)) (C := RX2) (T := TX2) (N := 4) hx hb hts inX4_begin_X2 hown hK hP 5 rfl rfl 0 (by decide) (hts (.fieldLink RX4 42 "OddNotice$State" "board" "LOddNotice$Board;") (List.mem_of_getElem? (i := 7) (by decide +kernel))) (fun _ h9 => h9) rfl dX4_begin_56 ?_
        refine o_wi (va_runV (As := [.ref (o 6)]) (rest := []) ⟨hx, hb, hml, hown, hts⟩ (k_X1_open l D cI cR cS cL H.size (fun k => o (k + 21)) (fun k => v (k + 14)) (fun k => o (k + 6)) v (by show (v 14 0) < 2 ^ 31; first | assumption | omega) (by show (v 14 1) < 2 ^ 31; first | assumption | omega) (by show (v 14 3) < 2 ^ 32; first | assumption | omega) (by show v 0 0 < 2 ^ 31; first | assumption | omega)) (cwV 1 hts gX4_begin_X1_open rfl rfl rfl (by decide +kernel) ⟨Nat.le_of_ble_eq_true rfl, Nat.le_of_ble_eq_true rfl⟩) (o_v (o_pB hK hN (hP.sub (ws' := (wR (fun k => o (k + 21)) cI (fun k => v (k + 14)) ++ wB (fun k => o (k + 6)) cI v)) [21, 22, 23, 7, 8, 9, 10, 11] rfl) (hD.sub (ws' := (wR (fun k => o (k + 21)) cI (fun k => v (k + 14)) ++ wB (fun k => o (k + 6)) cI v)) [21, 22, 23, 7, 8, 9, 10, 11] (by decide) rfl)) (va_recv hK hP (ci := 1) (q0 := 21) rfl rfl)) rfl rfl hl.1 rfl (lv_room (Nat.le_of_ble_eq_true rfl)) dX4_begin_59 ⟨Nat.zero_le _, Nat.zero_le _⟩) hP hD hS hA [21, 22, 23, 7, 8, 9, 10, 11] (by decide) rfl (fun _ => rfl) (fun r_45 _ H locs e_44 hP hD hS => ?_)
        have e_44 : r_45 = nI (bn (¬ (¬ (v 14 0) = 0 ∧ (¬ (v 14 1) = 0 ∧ ¬ (v 14 3) = v 0 0 ∨ (v 14 1) = 0 ∧ v 0 0 % 2 = 1)))) := e_44
        subst e_44
        have hP : va_P D vwCl (wO o cI cR cS (va_up x 0 (c_sv (x 0))) (va_up (va_up (va_up v 14 ((r_open (fun k => v (k + 14)) v) 0)) 15 ((r_open (fun k => v (k + 14)) v) 1)) 16 ((r_open (fun k => v (k + 14)) v) 2)) (wV o cI cR (c_put V ((x 0 3 + x 0 4) % 6) v))) H := hP
        have hD : va_D A (wO o cI cR cS (va_up x 0 (c_sv (x 0))) (va_up (va_up (va_up v 14 ((r_open (fun k => v (k + 14)) v) 0)) 15 ((r_open (fun k => v (k + 14)) v) 1)) 16 ((r_open (fun k => v (k + 14)) v) 2)) (wV o cI cR (c_put V ((x 0 3 + x 0 4) % 6) v))) := hD
        refine o_ifz (tgt := 69) hx hb dX4_begin_62 (by decide) (fun c_46 => ?_) (fun c_46 => ?_)
        · skip
          refine o_const (k := 0) hx hb dX4_begin_69 (by decide) ?_
          have w_47 : (wO o cI cR cS (va_up x 0 (c_sv (x 0))) (s_opn v 3) (wV o cI cR (c_put V ((x 0 3 + x 0 4) % 6) v))) = (wO o cI cR cS (va_up x 0 (c_sv (x 0))) (va_up (va_up (va_up v 14 ((r_open (fun k => v (k + 14)) v) 0)) 15 ((r_open (fun k => v (k + 14)) v) 1)) 16 ((r_open (fun k => v (k + 14)) v) 2)) (wV o cI cR (c_put V ((x 0 3 + x 0 4) % 6) v))) := rfl
          rw [← w_47] at hP
          exact W.iret (v := nI 0) hx hb hrt (fun t ht hW => ⟨⟨_, (), rfl, (congrArg nI (Eq.symm (show (if s_wf v 3 then 0 else 1) = _ from if_pos (Decidable.not_not.mp c_46)))), by show va_P D vwCl _ t.heap; rw [ht]; exact hP⟩, hS.F ht⟩) hS.2.2 dX4_begin_70
        · skip
          refine o_const (k := 1) hx hb dX4_begin_65 (by decide) ?_
          refine lv_goto (tgt := 70) hx hb dX4_begin_66 (by decide) ?_
          have w_48 : (wO o cI cR cS (va_up x 0 (c_sv (x 0))) (s_opn v 3) (wV o cI cR (c_put V ((x 0 3 + x 0 4) % 6) v))) = (wO o cI cR cS (va_up x 0 (c_sv (x 0))) (va_up (va_up (va_up v 14 ((r_open (fun k => v (k + 14)) v) 0)) 15 ((r_open (fun k => v (k + 14)) v) 1)) 16 ((r_open (fun k => v (k + 14)) v) 2)) (wV o cI cR (c_put V ((x 0 3 + x 0 4) % 6) v))) := rfl
          rw [← w_48] at hP
          exact W.iret (v := nI 1) hx hb hrt (fun t ht hW => ⟨⟨_, (), rfl, (congrArg nI (Eq.symm (show (if s_wf v 3 then 0 else 1) = _ from if_neg c_46))), by show va_P D vwCl _ t.heap; rw [ht]; exact hP⟩, hS.F ht⟩) hS.2.2 dX4_begin_70
      · skip
        exfalso
        omega
    · skip
      exfalso
      omega
theorem inX4_look_X4 : ∀ w ∈ wsX40, w ∈ wsX4_look := by decide +kernel
theorem inX4_look_X2 : ∀ w ∈ wsX20, w ∈ wsX4_look := by decide +kernel
theorem inX4_look_X1 : ∀ w ∈ wsX10, w ∈ wsX4_look := by decide +kernel
set_option maxHeartbeats 4000000 in
set_option maxRecDepth 100000 in
theorem k_X4_look (l : Launch) (D : va_G) (cI cR cS cL : ClassId) (sz : Nat) (o : Nat → Nat) (x : Nat → Nat → Nat) (v : Nat → Nat → Nat) (V : Nat → Nat → Nat → Nat) (b : Nat) (r : Nat) (hSI : s_I b v) (hb : b < 2 ^ 28) (h3 : x 0 3 < 6) (h4 : x 0 4 ≤ 6) (hr : r < 4) (hm : ¬ v (5 + 3 * r) 1 = 0) : Met l yX4_look wsX4_look ({ frames := 4, cells := 0, slots := 0, locals := 87 }) (va_Pc [.ref (o 0), .int (nI r)] (o_B D (o_T cI cR cS cL) (wO o cI cR cS x v (wV o cI cR V)) sz)) (va_Qi (fun rz (_ : Unit) => rz = nI (s_glr v r)) (fun (_ : Unit) t => va_P D vwCl (wO o cI cR cS (va_up x 0 (c_sv (x 0))) (s_gl v r) (wV o cI cR (c_put V ((x 0 3 + x 0 4) % 6) v))) t.heap) (va_A (wO o cI cR cS x v (wV o cI cR V)) sz)) 0 0 (va_A (wO o cI cR cS x v (wV o cI cR V)) sz) := by
  refine Met.ofW (cc := cX4_look) (maxL := 2) (ret := (some .int)) (by decide) rfl ?_
  intro p e s m args below meth cd s₁ B hml hv
  obtain ⟨rfl, hsz, hP, hK, hD0, hN⟩ := hv
  have hx := B.exec
  have hb := B.bytes
  have hrt := B.returns
  have hts := atoms_spec (ws := wsX4_look) B.pre
  have hown : s.vm.findClass RX4 = some m.cls := findClass_of_methodNamed B.named
  have hlocks := B.notSynchronized
  subst hsz
  have hD := hD0.self (sz := s.heap.size)
  generalize hAe : va_A (wO o cI cR cS x v (wV o cI cR V)) s.heap.size = A at hD ⊢
  have hA : ∀ q : Nat, s.heap.size ≤ q → A q := fun q h => by rw [← hAe]; exact Or.inr h
  have hS : va_S A s.heap s.heap [] := va_S.rf
  have hl := lv_entry ([.ref (o 0), .int (nI r)]) (n := 2) (Nat.le_of_ble_eq_true rfl)
  rw [lg_entry_eq]
  generalize (lg_sl ([.ref (o 0), .int (nI r)]) ++ List.replicate (2 - (lg_sl ([.ref (o 0), .int (nI r)])).length) Slot.unset).toArray = ls at hl ⊢
  have hl : lv_has ls 2 [(0, .ref (o 0)), (1, .int (nI r))] := hl
  rcases o_lt4 hr with rfl | rfl | rfl | rfl
  · skip
    have hSc := hSI
    obtain ⟨⟨i1, i2, i3, hpl⟩, i5⟩ := hSI
    have i12 := i5 0 (by omega)
    unfold s_IR at i12
    simp only [Nat.reduceMul, Nat.reduceAdd] at i12
    simp only [Nat.reduceMul, Nat.reduceAdd] at hm
    refine lv_iload_n hx hb dX4_look_0 rfl (lv_at hl 1 rfl) ?_
    refine o_const (k := 4) hx hb dX4_look_1 (by decide) ?_
    refine o_ri (va_runS (As := [.int (nI 0), .int (nI 4)]) (rest := []) ⟨hx, hb, hml, hown, hts⟩ (k_X4_isBelow l D cI cR cS cL 0 4 (by show 0 < 2 ^ 32; first | assumption | omega) (by show 4 < 2 ^ 31; first | assumption | omega)) (va_cwS 2 hts gX4_look_X4_isBelow rfl rfl rfl (by decide +kernel) ⟨Nat.le_of_ble_eq_true rfl, Nat.le_of_ble_eq_true rfl⟩) (o_pR hK hN (hP.sub (ws' := []) [] rfl)) rfl rfl hl.1 rfl (lv_room (Nat.le_of_ble_eq_true rfl)) dX4_look_2 ⟨Nat.zero_le _, Nat.zero_le _⟩) (fun r_2 e_1 => ?_)
    have e_1 : r_2 = nI (bn (0 < 4)) := e_1
    subst e_1
    refine o_ifnz (tgt := 18) hx hb dX4_look_5 (by decide) (fun c_3 => ?_) (fun c_3 => ?_)
    · skip
      refine lv_aload_n hx hb dX4_look_18 rfl (lv_at hl 0 rfl) ?_
      refine va_get (D := D) (ci := 4) (v := .ref (o 5)) (C := RX4) (T := TX4) (N := 6) hx hb hts inX4_look_X4 hown hK hP 0 rfl rfl 0 (by decide) (hts (.fieldLink RX4 10 "OddNotice" "now" "LOddNotice$State;") (List.mem_of_getElem? (i := 5) (by decide +kernel))) (fun _ h9 => h9) rfl dX4_look_19 ?_
      refine va_get (D := D) (ci := 2) (v := .ref (o 11)) (C := RX2) (T := TX2) (N := 4) hx hb hts inX4_look_X2 hown hK hP 5 rfl rfl 1 (by decide) (hts (.fieldLink RX4 91 "OddNotice$State" "readers" "[LOddNotice$Reader;") (List.mem_of_getElem? (i := 6) (by decide +kernel))) (fun _ h9 => h9) rfl dX4_look_22 ?_
      refine lv_iload_n hx hb dX4_look_25 rfl (lv_at hl 1 rfl) ?_
      refine o_aldq (v := (o 12)) (C := "OddNotice$Reader") hx hb hK hP 6 1 rfl rfl (Nat.le_of_ble_eq_true rfl) (Nat.le_of_ble_eq_true rfl) rfl dX4_look_26 ?_
      refine va_get (D := D) (ci := 1) (v := .int (nI (v 5 1))) (C := RX1) (T := TX1) (N := 10) hx hb hts inX4_look_X1 hown hK hP 12 rfl rfl 1 (by decide) (hts (.fieldLink RX4 114 "OddNotice$Reader" "reads" "Z") (List.mem_of_getElem? (i := 7) (by decide +kernel))) (fun _ h9 => h9) rfl dX4_look_27 ?_
      refine o_if_ne (tgt := 43) hx hb dX4_look_30 (by decide) (by omega) (fun c_4 => ?_) (fun c_4 => ?_)
      · skip
        refine lv_aload_n hx hb dX4_look_43 rfl (lv_at hl 0 rfl) ?_
        refine o_wvA (va_runV (As := []) (rest := []) ⟨hx, hb, hml, hown, hts⟩ (k_X4_saveState l D cI cR cS cL s.heap.size o x v V b (hSc) (by show b < 2 ^ 28; first | assumption | omega) (by show x 0 3 < 6; first | assumption | omega) (by show x 0 4 ≤ 6; first | assumption | omega)) (cwV 0 hts gX4_look_X4_saveState rfl rfl rfl (by decide +kernel) ⟨Nat.le_of_ble_eq_true rfl, Nat.le_of_ble_eq_true rfl⟩) (o_v (o_pB hK hN hP hD) (va_recv hK hP (ci := 4) (q0 := 0) rfl rfl)) rfl rfl hl.1 rfl (lv_room (Nat.le_of_ble_eq_true rfl)) dX4_look_44 ⟨Nat.zero_le _, Nat.zero_le _⟩) hD hS hA (fun _ => rfl) (fun _ H locs e_5 hP hD hS => ?_)
        have hP : va_P D vwCl (wO o cI cR cS (va_up x 0 (c_sv (x 0))) v (wV o cI cR (c_put V ((x 0 3 + x 0 4) % 6) v))) H := hP
        have hD : va_D A (wO o cI cR cS (va_up x 0 (c_sv (x 0))) v (wV o cI cR (c_put V ((x 0 3 + x 0 4) % 6) v))) := hD
        refine lv_aload_n hx hb dX4_look_47 rfl (lv_at hl 0 rfl) ?_
        refine va_get (D := D) (ci := 4) (v := .ref (o 5)) (C := RX4) (T := TX4) (N := 6) hx hb hts inX4_look_X4 hown hK hP 0 rfl rfl 0 (by decide) (hts (.fieldLink RX4 10 "OddNotice" "now" "LOddNotice$State;") (List.mem_of_getElem? (i := 5) (by decide +kernel))) (fun _ h9 => h9) rfl dX4_look_48 ?_
        refine lv_iload_n hx hb dX4_look_51 rfl (lv_at hl 1 rfl) ?_
        refine o_wi (va_runV (As := [.int (nI 0)]) (rest := []) ⟨hx, hb, hml, hown, hts⟩ (k_X2_glance l D cI cR cS cL H.size (fun k => o (k + 5)) v b 0 (hSc) (by show b < 2 ^ 28; first | assumption | omega) (by show 0 < 4; first | assumption | omega)) (cwV 1 hts gX4_look_X2_glance rfl rfl rfl (by decide +kernel) ⟨Nat.le_of_ble_eq_true rfl, Nat.le_of_ble_eq_true rfl⟩) (o_v (o_pB hK hN (hP.sub (ws' := (wS (fun k => o (k + 5)) cI cR v)) [5, 6, 7, 8, 9, 10, 11, 12, 13, 14, 15, 16, 17, 18, 19, 20, 21, 22, 23] rfl) (hD.sub (ws' := (wS (fun k => o (k + 5)) cI cR v)) [5, 6, 7, 8, 9, 10, 11, 12, 13, 14, 15, 16, 17, 18, 19, 20, 21, 22, 23] (by decide) rfl)) (va_recv hK hP (ci := 2) (q0 := 5) rfl rfl)) rfl rfl hl.1 rfl (lv_room (Nat.le_of_ble_eq_true rfl)) dX4_look_52 ⟨Nat.zero_le _, Nat.zero_le _⟩) hP hD hS hA [5, 6, 7, 8, 9, 10, 11, 12, 13, 14, 15, 16, 17, 18, 19, 20, 21, 22, 23] (by decide) rfl (fun _ => rfl) (fun r_7 _ H locs e_6 hP hD hS => ?_)
        have e_6 : r_7 = nI (s_glr v 0) := e_6
        subst e_6
        have E_8 : o_put (wO o cI cR cS (va_up x 0 (c_sv (x 0))) v (wV o cI cR (c_put V ((x 0 3 + x 0 4) % 6) v))) [5, 6, 7, 8, 9, 10, 11, 12, 13, 14, 15, 16, 17, 18, 19, 20, 21, 22, 23] (wS (fun k => o (k + 5)) cI cR (s_gl v 0)) = (wO o cI cR cS (va_up x 0 (c_sv (x 0))) (s_gl v 0) (wV o cI cR (c_put V ((x 0 3 + x 0 4) % 6) v))) := by exact o_putS _ _ _ _ _ _ _ _
        rw [E_8] at hP hD
        exact W.iret (v := nI (s_glr v 0)) hx hb hrt (fun t ht hW => ⟨⟨_, (), rfl, rfl, by show va_P D vwCl _ t.heap; rw [ht]; exact hP⟩, hS.F ht⟩) hS.2.2 dX4_look_55
      · skip
        exfalso
        omega
    · skip
      exfalso
      omega
  · skip
    have hSc := hSI
    obtain ⟨⟨i1, i2, i3, hpl⟩, i5⟩ := hSI
    have i12 := i5 1 (by omega)
    unfold s_IR at i12
    simp only [Nat.reduceMul, Nat.reduceAdd] at i12
    simp only [Nat.reduceMul, Nat.reduceAdd] at hm
    refine lv_iload_n hx hb dX4_look_0 rfl (lv_at hl 1 rfl) ?_
    refine o_const (k := 4) hx hb dX4_look_1 (by decide) ?_
    refine o_ri (va_runS (As := [.int (nI 1), .int (nI 4)]) (rest := []) ⟨hx, hb, hml, hown, hts⟩ (k_X4_isBelow l D cI cR cS cL 1 4 (by show 1 < 2 ^ 32; first | assumption | omega) (by show 4 < 2 ^ 31; first | assumption | omega)) (va_cwS 2 hts gX4_look_X4_isBelow rfl rfl rfl (by decide +kernel) ⟨Nat.le_of_ble_eq_true rfl, Nat.le_of_ble_eq_true rfl⟩) (o_pR hK hN (hP.sub (ws' := []) [] rfl)) rfl rfl hl.1 rfl (lv_room (Nat.le_of_ble_eq_true rfl)) dX4_look_2 ⟨Nat.zero_le _, Nat.zero_le _⟩) (fun r_10 e_9 => ?_)
    have e_9 : r_10 = nI (bn (1 < 4)) := e_9
    subst e_9
    refine o_ifnz (tgt := 18) hx hb dX4_look_5 (by decide) (fun c_11 => ?_) (fun c_11 => ?_)
    · skip
      refine lv_aload_n hx hb dX4_look_18 rfl (lv_at hl 0 rfl) ?_
      refine va_get (D := D) (ci := 4) (v := .ref (o 5)) (C := RX4) (T := TX4) (N := 6) hx hb hts inX4_look_X4 hown hK hP 0 rfl rfl 0 (by decide) (hts (.fieldLink RX4 10 "OddNotice" "now" "LOddNotice$State;") (List.mem_of_getElem? (i := 5) (by decide +kernel))) (fun _ h9 => h9) rfl dX4_look_19 ?_
      refine va_get (D := D) (ci := 2) (v := .ref (o 11)) (C := RX2) (T := TX2) (N := 4) hx hb hts inX4_look_X2 hown hK hP 5 rfl rfl 1 (by decide) (hts (.fieldLink RX4 91 "OddNotice$State" "readers" "[LOddNotice$Reader;") (List.mem_of_getElem? (i := 6) (by decide +kernel))) (fun _ h9 => h9) rfl dX4_look_22 ?_
      refine lv_iload_n hx hb dX4_look_25 rfl (lv_at hl 1 rfl) ?_
      refine o_aldq (v := (o 15)) (C := "OddNotice$Reader") hx hb hK hP 6 1 rfl rfl (Nat.le_of_ble_eq_true rfl) (Nat.le_of_ble_eq_true rfl) rfl dX4_look_26 ?_
      refine va_get (D := D) (ci := 1) (v := .int (nI (v 8 1))) (C := RX1) (T := TX1) (N := 10) hx hb hts inX4_look_X1 hown hK hP 15 rfl rfl 1 (by decide) (hts (.fieldLink RX4 114 "OddNotice$Reader" "reads" "Z") (List.mem_of_getElem? (i := 7) (by decide +kernel))) (fun _ h9 => h9) rfl dX4_look_27 ?_
      refine o_if_ne (tgt := 43) hx hb dX4_look_30 (by decide) (by omega) (fun c_12 => ?_) (fun c_12 => ?_)
      · skip
        refine lv_aload_n hx hb dX4_look_43 rfl (lv_at hl 0 rfl) ?_
        refine o_wvA (va_runV (As := []) (rest := []) ⟨hx, hb, hml, hown, hts⟩ (k_X4_saveState l D cI cR cS cL s.heap.size o x v V b (hSc) (by show b < 2 ^ 28; first | assumption | omega) (by show x 0 3 < 6; first | assumption | omega) (by show x 0 4 ≤ 6; first | assumption | omega)) (cwV 0 hts gX4_look_X4_saveState rfl rfl rfl (by decide +kernel) ⟨Nat.le_of_ble_eq_true rfl, Nat.le_of_ble_eq_true rfl⟩) (o_v (o_pB hK hN hP hD) (va_recv hK hP (ci := 4) (q0 := 0) rfl rfl)) rfl rfl hl.1 rfl (lv_room (Nat.le_of_ble_eq_true rfl)) dX4_look_44 ⟨Nat.zero_le _, Nat.zero_le _⟩) hD hS hA (fun _ => rfl) (fun _ H locs e_13 hP hD hS => ?_)
        have hP : va_P D vwCl (wO o cI cR cS (va_up x 0 (c_sv (x 0))) v (wV o cI cR (c_put V ((x 0 3 + x 0 4) % 6) v))) H := hP
        have hD : va_D A (wO o cI cR cS (va_up x 0 (c_sv (x 0))) v (wV o cI cR (c_put V ((x 0 3 + x 0 4) % 6) v))) := hD
        refine lv_aload_n hx hb dX4_look_47 rfl (lv_at hl 0 rfl) ?_
        refine va_get (D := D) (ci := 4) (v := .ref (o 5)) (C := RX4) (T := TX4) (N := 6) hx hb hts inX4_look_X4 hown hK hP 0 rfl rfl 0 (by decide) (hts (.fieldLink RX4 10 "OddNotice" "now" "LOddNotice$State;") (List.mem_of_getElem? (i := 5) (by decide +kernel))) (fun _ h9 => h9) rfl dX4_look_48 ?_
        refine lv_iload_n hx hb dX4_look_51 rfl (lv_at hl 1 rfl) ?_
        refine o_wi (va_runV (As := [.int (nI 1)]) (rest := []) ⟨hx, hb, hml, hown, hts⟩ (k_X2_glance l D cI cR cS cL H.size (fun k => o (k + 5)) v b 1 (hSc) (by show b < 2 ^ 28; first | assumption | omega) (by show 1 < 4; first | assumption | omega)) (cwV 1 hts gX4_look_X2_glance rfl rfl rfl (by decide +kernel) ⟨Nat.le_of_ble_eq_true rfl, Nat.le_of_ble_eq_true rfl⟩) (o_v (o_pB hK hN (hP.sub (ws' := (wS (fun k => o (k + 5)) cI cR v)) [5, 6, 7, 8, 9, 10, 11, 12, 13, 14, 15, 16, 17, 18, 19, 20, 21, 22, 23] rfl) (hD.sub (ws' := (wS (fun k => o (k + 5)) cI cR v)) [5, 6, 7, 8, 9, 10, 11, 12, 13, 14, 15, 16, 17, 18, 19, 20, 21, 22, 23] (by decide) rfl)) (va_recv hK hP (ci := 2) (q0 := 5) rfl rfl)) rfl rfl hl.1 rfl (lv_room (Nat.le_of_ble_eq_true rfl)) dX4_look_52 ⟨Nat.zero_le _, Nat.zero_le _⟩) hP hD hS hA [5, 6, 7, 8, 9, 10, 11, 12, 13, 14, 15, 16, 17, 18, 19, 20, 21, 22, 23] (by decide) rfl (fun _ => rfl) (fun r_15 _ H locs e_14 hP hD hS => ?_)
        have e_14 : r_15 = nI (s_glr v 1) := e_14
        subst e_14
        have E_16 : o_put (wO o cI cR cS (va_up x 0 (c_sv (x 0))) v (wV o cI cR (c_put V ((x 0 3 + x 0 4) % 6) v))) [5, 6, 7, 8, 9, 10, 11, 12, 13, 14, 15, 16, 17, 18, 19, 20, 21, 22, 23] (wS (fun k => o (k + 5)) cI cR (s_gl v 1)) = (wO o cI cR cS (va_up x 0 (c_sv (x 0))) (s_gl v 1) (wV o cI cR (c_put V ((x 0 3 + x 0 4) % 6) v))) := by exact o_putS _ _ _ _ _ _ _ _
        rw [E_16] at hP hD
        exact W.iret (v := nI (s_glr v 1)) hx hb hrt (fun t ht hW => ⟨⟨_, (), rfl, rfl, by show va_P D vwCl _ t.heap; rw [ht]; exact hP⟩, hS.F ht⟩) hS.2.2 dX4_look_55
      · skip
        exfalso
        omega
    · skip
      exfalso
      omega
  · skip
    have hSc := hSI
    obtain ⟨⟨i1, i2, i3, hpl⟩, i5⟩ := hSI
    have i12 := i5 2 (by omega)
    unfold s_IR at i12
    simp only [Nat.reduceMul, Nat.reduceAdd] at i12
    simp only [Nat.reduceMul, Nat.reduceAdd] at hm
    refine lv_iload_n hx hb dX4_look_0 rfl (lv_at hl 1 rfl) ?_
    refine o_const (k := 4) hx hb dX4_look_1 (by decide) ?_
    refine o_ri (va_runS (As := [.int (nI 2), .int (nI 4)]) (rest := []) ⟨hx, hb, hml, hown, hts⟩ (k_X4_isBelow l D cI cR cS cL 2 4 (by show 2 < 2 ^ 32; first | assumption | omega) (by show 4 < 2 ^ 31; first | assumption | omega)) (va_cwS 2 hts gX4_look_X4_isBelow rfl rfl rfl (by decide +kernel) ⟨Nat.le_of_ble_eq_true rfl, Nat.le_of_ble_eq_true rfl⟩) (o_pR hK hN (hP.sub (ws' := []) [] rfl)) rfl rfl hl.1 rfl (lv_room (Nat.le_of_ble_eq_true rfl)) dX4_look_2 ⟨Nat.zero_le _, Nat.zero_le _⟩) (fun r_18 e_17 => ?_)
    have e_17 : r_18 = nI (bn (2 < 4)) := e_17
    subst e_17
    refine o_ifnz (tgt := 18) hx hb dX4_look_5 (by decide) (fun c_19 => ?_) (fun c_19 => ?_)
    · skip
      refine lv_aload_n hx hb dX4_look_18 rfl (lv_at hl 0 rfl) ?_
      refine va_get (D := D) (ci := 4) (v := .ref (o 5)) (C := RX4) (T := TX4) (N := 6) hx hb hts inX4_look_X4 hown hK hP 0 rfl rfl 0 (by decide) (hts (.fieldLink RX4 10 "OddNotice" "now" "LOddNotice$State;") (List.mem_of_getElem? (i := 5) (by decide +kernel))) (fun _ h9 => h9) rfl dX4_look_19 ?_
      refine va_get (D := D) (ci := 2) (v := .ref (o 11)) (C := RX2) (T := TX2) (N := 4) hx hb hts inX4_look_X2 hown hK hP 5 rfl rfl 1 (by decide) (hts (.fieldLink RX4 91 "OddNotice$State" "readers" "[LOddNotice$Reader;") (List.mem_of_getElem? (i := 6) (by decide +kernel))) (fun _ h9 => h9) rfl dX4_look_22 ?_
      refine lv_iload_n hx hb dX4_look_25 rfl (lv_at hl 1 rfl) ?_
      refine o_aldq (v := (o 18)) (C := "OddNotice$Reader") hx hb hK hP 6 1 rfl rfl (Nat.le_of_ble_eq_true rfl) (Nat.le_of_ble_eq_true rfl) rfl dX4_look_26 ?_
      refine va_get (D := D) (ci := 1) (v := .int (nI (v 11 1))) (C := RX1) (T := TX1) (N := 10) hx hb hts inX4_look_X1 hown hK hP 18 rfl rfl 1 (by decide) (hts (.fieldLink RX4 114 "OddNotice$Reader" "reads" "Z") (List.mem_of_getElem? (i := 7) (by decide +kernel))) (fun _ h9 => h9) rfl dX4_look_27 ?_
      refine o_if_ne (tgt := 43) hx hb dX4_look_30 (by decide) (by omega) (fun c_20 => ?_) (fun c_20 => ?_)
      · skip
        refine lv_aload_n hx hb dX4_look_43 rfl (lv_at hl 0 rfl) ?_
        refine o_wvA (va_runV (As := []) (rest := []) ⟨hx, hb, hml, hown, hts⟩ (k_X4_saveState l D cI cR cS cL s.heap.size o x v V b (hSc) (by show b < 2 ^ 28; first | assumption | omega) (by show x 0 3 < 6; first | assumption | omega) (by show x 0 4 ≤ 6; first | assumption | omega)) (cwV 0 hts gX4_look_X4_saveState rfl rfl rfl (by decide +kernel) ⟨Nat.le_of_ble_eq_true rfl, Nat.le_of_ble_eq_true rfl⟩) (o_v (o_pB hK hN hP hD) (va_recv hK hP (ci := 4) (q0 := 0) rfl rfl)) rfl rfl hl.1 rfl (lv_room (Nat.le_of_ble_eq_true rfl)) dX4_look_44 ⟨Nat.zero_le _, Nat.zero_le _⟩) hD hS hA (fun _ => rfl) (fun _ H locs e_21 hP hD hS => ?_)
        have hP : va_P D vwCl (wO o cI cR cS (va_up x 0 (c_sv (x 0))) v (wV o cI cR (c_put V ((x 0 3 + x 0 4) % 6) v))) H := hP
        have hD : va_D A (wO o cI cR cS (va_up x 0 (c_sv (x 0))) v (wV o cI cR (c_put V ((x 0 3 + x 0 4) % 6) v))) := hD
        refine lv_aload_n hx hb dX4_look_47 rfl (lv_at hl 0 rfl) ?_
        refine va_get (D := D) (ci := 4) (v := .ref (o 5)) (C := RX4) (T := TX4) (N := 6) hx hb hts inX4_look_X4 hown hK hP 0 rfl rfl 0 (by decide) (hts (.fieldLink RX4 10 "OddNotice" "now" "LOddNotice$State;") (List.mem_of_getElem? (i := 5) (by decide +kernel))) (fun _ h9 => h9) rfl dX4_look_48 ?_
        refine lv_iload_n hx hb dX4_look_51 rfl (lv_at hl 1 rfl) ?_
        refine o_wi (va_runV (As := [.int (nI 2)]) (rest := []) ⟨hx, hb, hml, hown, hts⟩ (k_X2_glance l D cI cR cS cL H.size (fun k => o (k + 5)) v b 2 (hSc) (by show b < 2 ^ 28; first | assumption | omega) (by show 2 < 4; first | assumption | omega)) (cwV 1 hts gX4_look_X2_glance rfl rfl rfl (by decide +kernel) ⟨Nat.le_of_ble_eq_true rfl, Nat.le_of_ble_eq_true rfl⟩) (o_v (o_pB hK hN (hP.sub (ws' := (wS (fun k => o (k + 5)) cI cR v)) [5, 6, 7, 8, 9, 10, 11, 12, 13, 14, 15, 16, 17, 18, 19, 20, 21, 22, 23] rfl) (hD.sub (ws' := (wS (fun k => o (k + 5)) cI cR v)) [5, 6, 7, 8, 9, 10, 11, 12, 13, 14, 15, 16, 17, 18, 19, 20, 21, 22, 23] (by decide) rfl)) (va_recv hK hP (ci := 2) (q0 := 5) rfl rfl)) rfl rfl hl.1 rfl (lv_room (Nat.le_of_ble_eq_true rfl)) dX4_look_52 ⟨Nat.zero_le _, Nat.zero_le _⟩) hP hD hS hA [5, 6, 7, 8, 9, 10, 11, 12, 13, 14, 15, 16, 17, 18, 19, 20, 21, 22, 23] (by decide) rfl (fun _ => rfl) (fun r_23 _ H locs e_22 hP hD hS => ?_)
        have e_22 : r_23 = nI (s_glr v 2) := e_22
        subst e_22
        have E_24 : o_put (wO o cI cR cS (va_up x 0 (c_sv (x 0))) v (wV o cI cR (c_put V ((x 0 3 + x 0 4) % 6) v))) [5, 6, 7, 8, 9, 10, 11, 12, 13, 14, 15, 16, 17, 18, 19, 20, 21, 22, 23] (wS (fun k => o (k + 5)) cI cR (s_gl v 2)) = (wO o cI cR cS (va_up x 0 (c_sv (x 0))) (s_gl v 2) (wV o cI cR (c_put V ((x 0 3 + x 0 4) % 6) v))) := by exact o_putS _ _ _ _ _ _ _ _
        rw [E_24] at hP hD
        exact W.iret (v := nI (s_glr v 2)) hx hb hrt (fun t ht hW => ⟨⟨_, (), rfl, rfl, by show va_P D vwCl _ t.heap; rw [ht]; exact hP⟩, hS.F ht⟩) hS.2.2 dX4_look_55
      · skip
        exfalso
        omega
    · skip
      exfalso
      omega
  · skip
    have hSc := hSI
    obtain ⟨⟨i1, i2, i3, hpl⟩, i5⟩ := hSI
    have i12 := i5 3 (by omega)
    unfold s_IR at i12
    simp only [Nat.reduceMul, Nat.reduceAdd] at i12
    simp only [Nat.reduceMul, Nat.reduceAdd] at hm
    refine lv_iload_n hx hb dX4_look_0 rfl (lv_at hl 1 rfl) ?_
    refine o_const (k := 4) hx hb dX4_look_1 (by decide) ?_
    refine o_ri (va_runS (As := [.int (nI 3), .int (nI 4)]) (rest := []) ⟨hx, hb, hml, hown, hts⟩ (k_X4_isBelow l D cI cR cS cL 3 4 (by show 3 < 2 ^ 32; first | assumption | omega) (by show 4 < 2 ^ 31; first | assumption | omega)) (va_cwS 2 hts gX4_look_X4_isBelow rfl rfl rfl (by decide +kernel) ⟨Nat.le_of_ble_eq_true rfl, Nat.le_of_ble_eq_true rfl⟩) (o_pR hK hN (hP.sub (ws' := []) [] rfl)) rfl rfl hl.1 rfl (lv_room (Nat.le_of_ble_eq_true rfl)) dX4_look_2 ⟨Nat.zero_le _, Nat.zero_le _⟩) (fun r_26 e_25 => ?_)
    have e_25 : r_26 = nI (bn (3 < 4)) := e_25
    subst e_25
    refine o_ifnz (tgt := 18) hx hb dX4_look_5 (by decide) (fun c_27 => ?_) (fun c_27 => ?_)
    · skip
      refine lv_aload_n hx hb dX4_look_18 rfl (lv_at hl 0 rfl) ?_
      refine va_get (D := D) (ci := 4) (v := .ref (o 5)) (C := RX4) (T := TX4) (N := 6) hx hb hts inX4_look_X4 hown hK hP 0 rfl rfl 0 (by decide) (hts (.fieldLink RX4 10 "OddNotice" "now" "LOddNotice$State;") (List.mem_of_getElem? (i := 5) (by decide +kernel))) (fun _ h9 => h9) rfl dX4_look_19 ?_
      refine va_get (D := D) (ci := 2) (v := .ref (o 11)) (C := RX2) (T := TX2) (N := 4) hx hb hts inX4_look_X2 hown hK hP 5 rfl rfl 1 (by decide) (hts (.fieldLink RX4 91 "OddNotice$State" "readers" "[LOddNotice$Reader;") (List.mem_of_getElem? (i := 6) (by decide +kernel))) (fun _ h9 => h9) rfl dX4_look_22 ?_
      refine lv_iload_n hx hb dX4_look_25 rfl (lv_at hl 1 rfl) ?_
      refine o_aldq (v := (o 21)) (C := "OddNotice$Reader") hx hb hK hP 6 1 rfl rfl (Nat.le_of_ble_eq_true rfl) (Nat.le_of_ble_eq_true rfl) rfl dX4_look_26 ?_
      refine va_get (D := D) (ci := 1) (v := .int (nI (v 14 1))) (C := RX1) (T := TX1) (N := 10) hx hb hts inX4_look_X1 hown hK hP 21 rfl rfl 1 (by decide) (hts (.fieldLink RX4 114 "OddNotice$Reader" "reads" "Z") (List.mem_of_getElem? (i := 7) (by decide +kernel))) (fun _ h9 => h9) rfl dX4_look_27 ?_
      refine o_if_ne (tgt := 43) hx hb dX4_look_30 (by decide) (by omega) (fun c_28 => ?_) (fun c_28 => ?_)
      · skip
        refine lv_aload_n hx hb dX4_look_43 rfl (lv_at hl 0 rfl) ?_
        refine o_wvA (va_runV (As := []) (rest := []) ⟨hx, hb, hml, hown, hts⟩ (k_X4_saveState l D cI cR cS cL s.heap.size o x v V b (hSc) (by show b < 2 ^ 28; first | assumption | omega) (by show x 0 3 < 6; first | assumption | omega) (by show x 0 4 ≤ 6; first | assumption | omega)) (cwV 0 hts gX4_look_X4_saveState rfl rfl rfl (by decide +kernel) ⟨Nat.le_of_ble_eq_true rfl, Nat.le_of_ble_eq_true rfl⟩) (o_v (o_pB hK hN hP hD) (va_recv hK hP (ci := 4) (q0 := 0) rfl rfl)) rfl rfl hl.1 rfl (lv_room (Nat.le_of_ble_eq_true rfl)) dX4_look_44 ⟨Nat.zero_le _, Nat.zero_le _⟩) hD hS hA (fun _ => rfl) (fun _ H locs e_29 hP hD hS => ?_)
        have hP : va_P D vwCl (wO o cI cR cS (va_up x 0 (c_sv (x 0))) v (wV o cI cR (c_put V ((x 0 3 + x 0 4) % 6) v))) H := hP
        have hD : va_D A (wO o cI cR cS (va_up x 0 (c_sv (x 0))) v (wV o cI cR (c_put V ((x 0 3 + x 0 4) % 6) v))) := hD
        refine lv_aload_n hx hb dX4_look_47 rfl (lv_at hl 0 rfl) ?_
        refine va_get (D := D) (ci := 4) (v := .ref (o 5)) (C := RX4) (T := TX4) (N := 6) hx hb hts inX4_look_X4 hown hK hP 0 rfl rfl 0 (by decide) (hts (.fieldLink RX4 10 "OddNotice" "now" "LOddNotice$State;") (List.mem_of_getElem? (i := 5) (by decide +kernel))) (fun _ h9 => h9) rfl dX4_look_48 ?_
        refine lv_iload_n hx hb dX4_look_51 rfl (lv_at hl 1 rfl) ?_
        refine o_wi (va_runV (As := [.int (nI 3)]) (rest := []) ⟨hx, hb, hml, hown, hts⟩ (k_X2_glance l D cI cR cS cL H.size (fun k => o (k + 5)) v b 3 (hSc) (by show b < 2 ^ 28; first | assumption | omega) (by show 3 < 4; first | assumption | omega)) (cwV 1 hts gX4_look_X2_glance rfl rfl rfl (by decide +kernel) ⟨Nat.le_of_ble_eq_true rfl, Nat.le_of_ble_eq_true rfl⟩) (o_v (o_pB hK hN (hP.sub (ws' := (wS (fun k => o (k + 5)) cI cR v)) [5, 6, 7, 8, 9, 10, 11, 12, 13, 14, 15, 16, 17, 18, 19, 20, 21, 22, 23] rfl) (hD.sub (ws' := (wS (fun k => o (k + 5)) cI cR v)) [5, 6, 7, 8, 9, 10, 11, 12, 13, 14, 15, 16, 17, 18, 19, 20, 21, 22, 23] (by decide) rfl)) (va_recv hK hP (ci := 2) (q0 := 5) rfl rfl)) rfl rfl hl.1 rfl (lv_room (Nat.le_of_ble_eq_true rfl)) dX4_look_52 ⟨Nat.zero_le _, Nat.zero_le _⟩) hP hD hS hA [5, 6, 7, 8, 9, 10, 11, 12, 13, 14, 15, 16, 17, 18, 19, 20, 21, 22, 23] (by decide) rfl (fun _ => rfl) (fun r_31 _ H locs e_30 hP hD hS => ?_)
        have e_30 : r_31 = nI (s_glr v 3) := e_30
        subst e_30
        have E_32 : o_put (wO o cI cR cS (va_up x 0 (c_sv (x 0))) v (wV o cI cR (c_put V ((x 0 3 + x 0 4) % 6) v))) [5, 6, 7, 8, 9, 10, 11, 12, 13, 14, 15, 16, 17, 18, 19, 20, 21, 22, 23] (wS (fun k => o (k + 5)) cI cR (s_gl v 3)) = (wO o cI cR cS (va_up x 0 (c_sv (x 0))) (s_gl v 3) (wV o cI cR (c_put V ((x 0 3 + x 0 4) % 6) v))) := by exact o_putS _ _ _ _ _ _ _ _
        rw [E_32] at hP hD
        exact W.iret (v := nI (s_glr v 3)) hx hb hrt (fun t ht hW => ⟨⟨_, (), rfl, rfl, by show va_P D vwCl _ t.heap; rw [ht]; exact hP⟩, hS.F ht⟩) hS.2.2 dX4_look_55
      · skip
        exfalso
        omega
    · skip
      exfalso
      omega
