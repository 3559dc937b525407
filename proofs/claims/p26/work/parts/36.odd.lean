theorem inX4_undo_X4 : ∀ w ∈ wsX40, w ∈ wsX4_undo := by decide +kernel
set_option maxHeartbeats 4000000 in
set_option maxRecDepth 100000 in
theorem k_X4_undo (l : Launch) (D : va_G) (cI cR cS cL : ClassId) (sz : Nat) (o : Nat → Nat) (x : Nat → Nat → Nat) (v : Nat → Nat → Nat) (V : Nat → Nat → Nat → Nat) (b : Nat) (h3 : x 0 3 < 6) (h4 : x 0 4 ≤ 6) (h5 : 0 < x 0 4) (hSI : ∀ j, j < 6 → s_I b (V j)) (hb : b < 2 ^ 28) : Met l yX4_undo wsX4_undo ({ frames := 3, cells := 0, slots := 0, locals := 61 }) (va_Pc [.ref (o 0)] (o_B D (o_T cI cR cS cL) (wO o cI cR cS x v (wV o cI cR V)) sz)) (va_Qi (fun rz (_ : Unit) => rz = nI (x 0 4 - 1)) (fun (_ : Unit) t => va_P D vwCl (wO o cI cR cS (va_up x 0 (va_up (x 0) 4 (x 0 4 - 1))) (V ((x 0 3 + (x 0 4 - 1)) % 6)) (wV o cI cR V)) t.heap) (va_A (wO o cI cR cS x v (wV o cI cR V)) sz)) 0 0 (va_A (wO o cI cR cS x v (wV o cI cR V)) sz) := by
  refine Met.ofW (cc := cX4_undo) (maxL := 1) (ret := (some .int)) (by decide) rfl ?_
  intro p e s m args below meth cd s₁ B hml hv
  obtain ⟨rfl, hsz, hP, hK, hD0, hN⟩ := hv
  have hx := B.exec
  have hb := B.bytes
  have hrt := B.returns
  have hts := atoms_spec (ws := wsX4_undo) B.pre
  have hown : s.vm.findClass RX4 = some m.cls := findClass_of_methodNamed B.named
  have hlocks := B.notSynchronized
  subst hsz
  have hD := hD0.self (sz := s.heap.size)
  generalize hAe : va_A (wO o cI cR cS x v (wV o cI cR V)) s.heap.size = A at hD ⊢
  have hA : ∀ q : Nat, s.heap.size ≤ q → A q := fun q h => by rw [← hAe]; exact Or.inr h
  have hS : va_S A s.heap s.heap [] := va_S.rf
  have hl := lv_entry ([.ref (o 0)]) (n := 1) (Nat.le_of_ble_eq_true rfl)
  rw [lg_entry_eq]
  generalize (lg_sl ([.ref (o 0)]) ++ List.replicate (1 - (lg_sl ([.ref (o 0)])).length) Slot.unset).toArray = ls at hl ⊢
  have hl : lv_has ls 1 [(0, .ref (o 0))] := hl
  have hj6 : (x 0 3 + (x 0 4 - 1)) % 6 < 6 := (by omega); rcases o_lt6 hj6 with hj | hj | hj | hj | hj | hj
  · skip
    refine lv_aload_n hx hb dX4_undo_0 rfl (lv_at hl 0 rfl) ?_
    refine va_get (D := D) (ci := 4) (v := .int (nI (x 0 4))) (C := RX4) (T := TX4) (N := 6) hx hb hts inX4_undo_X4 hown hK hP 0 rfl rfl 3 (by decide) (hts (.fieldLink RX4 152 "OddNotice" "savedCount" "I") (List.mem_of_getElem? (i := 3) (by decide +kernel))) (fun _ h9 => h9) rfl dX4_undo_1 ?_
    refine o_if_gt (tgt := 17) hx hb dX4_undo_4 (by decide) (by omega) (fun c_1 => ?_) (fun c_1 => ?_)
    · skip
      refine lv_aload_n hx hb dX4_undo_17 rfl (lv_at hl 0 rfl) ?_
      refine lv_dup hx hb dX4_undo_18 rfl ?_
      refine va_get (D := D) (ci := 4) (v := .int (nI (x 0 4))) (C := RX4) (T := TX4) (N := 6) hx hb hts inX4_undo_X4 hown hK hP 0 rfl rfl 3 (by decide) (hts (.fieldLink RX4 152 "OddNotice" "savedCount" "I") (List.mem_of_getElem? (i := 3) (by decide +kernel))) (fun _ h9 => h9) rfl dX4_undo_19 ?_
      refine o_const (k := 1) hx hb dX4_undo_22 (by decide) ?_
      refine o_isub (a := (x 0 4)) (b := 1) (k := ((x 0 4) - 1)) hx hb dX4_undo_23 (by omega) rfl ?_
      refine va_put (D := D) (ci := 4) (v := .int (nI ((x 0 4) - 1))) (ty := .int) (C := RX4) (T := TX4) (N := 6) hx hb hts inX4_undo_X4 tyX4 tyX4_ok nmX4 hown hK hP hD hS 0 rfl rfl 3 (by decide) (hts (.fieldLink RX4 152 "OddNotice" "savedCount" "I") (List.mem_of_getElem? (i := 3) (by decide +kernel))) (fun _ h9 => h9) rfl (by decide +kernel) rfl rfl (Nat.le_of_ble_eq_true rfl) dX4_undo_24 (fun H locs hP hD hS => ?_)
      have hP : va_P D vwCl (wO o cI cR cS (va_up x 0 (va_up (x 0) 4 ((x 0 4) - 1))) v (wV o cI cR V)) H := hP
      have hD : va_D A (wO o cI cR cS (va_up x 0 (va_up (x 0) 4 ((x 0 4) - 1))) v (wV o cI cR V)) := hD
      refine lv_aload_n hx hb dX4_undo_27 rfl (lv_at hl 0 rfl) ?_
      refine va_get (D := D) (ci := 4) (v := .ref (o 5)) (C := RX4) (T := TX4) (N := 6) hx hb hts inX4_undo_X4 hown hK hP 0 rfl rfl 0 (by decide) (hts (.fieldLink RX4 10 "OddNotice" "now" "LOddNotice$State;") (List.mem_of_getElem? (i := 4) (by decide +kernel))) (fun _ h9 => h9) rfl dX4_undo_28 ?_
      refine lv_aload_n hx hb dX4_undo_31 rfl (lv_at hl 0 rfl) ?_
      refine va_get (D := D) (ci := 4) (v := .ref (o 1)) (C := RX4) (T := TX4) (N := 6) hx hb hts inX4_undo_X4 hown hK hP 0 rfl rfl 1 (by decide) (hts (.fieldLink RX4 16 "OddNotice" "saved" "[LOddNotice$State;") (List.mem_of_getElem? (i := 5) (by decide +kernel))) (fun _ h9 => h9) rfl dX4_undo_32 ?_
      refine lv_aload_n hx hb dX4_undo_35 rfl (lv_at hl 0 rfl) ?_
      refine lv_aload_n hx hb dX4_undo_36 rfl (lv_at hl 0 rfl) ?_
      refine va_get (D := D) (ci := 4) (v := .int (nI ((x 0 4) - 1))) (C := RX4) (T := TX4) (N := 6) hx hb hts inX4_undo_X4 hown hK hP 0 rfl rfl 3 (by decide) (hts (.fieldLink RX4 152 "OddNotice" "savedCount" "I") (List.mem_of_getElem? (i := 3) (by decide +kernel))) (fun _ h9 => h9) rfl dX4_undo_37 ?_
      refine o_ri (va_runV (As := [.int (nI ((x 0 4) - 1))]) (rest := [.ref (o 1), .ref (o 5)]) ⟨hx, hb, hml, hown, hts⟩ (k_X4_savedPlace l D cI cR cS cL o (va_up x 0 (va_up (x 0) 4 ((x 0 4) - 1))) v (wV o cI cR V) ((x 0 4) - 1) (by show x 0 3 < 6; first | assumption | omega) (by show ((x 0 4) - 1) ≤ 6; first | assumption | omega)) (cwV 1 hts gX4_undo_X4_savedPlace rfl rfl rfl (by decide +kernel) ⟨Nat.le_of_ble_eq_true rfl, Nat.le_of_ble_eq_true rfl⟩) (o_v (o_pR hK hN hP) (va_recv hK hP (ci := 4) (q0 := 0) rfl rfl)) rfl rfl hl.1 rfl (lv_room (Nat.le_of_ble_eq_true rfl)) dX4_undo_40 ⟨Nat.zero_le _, Nat.zero_le _⟩) (fun r_3 e_2 => ?_)
      have e_2 : r_3 = nI 0 := by rw [e_2]; exact congrArg nI hj
      subst e_2
      refine o_aldq (v := (o 24)) (C := "OddNotice$State") hx hb hK hP 1 2 rfl rfl (Nat.le_of_ble_eq_true rfl) (Nat.le_of_ble_eq_true rfl) rfl dX4_undo_43 ?_
      refine o_wv (va_runV (As := [.ref (o 24)]) (rest := []) ⟨hx, hb, hml, hown, hts⟩ (k_X2_copyFrom l D cI cR cS cL H.size (fun k => o (k + 5)) v (fun k => o (k + 24)) (V 0) b (hSI 0 (by omega)) (by show b < 2 ^ 28; first | assumption | omega)) (cwV 1 hts gX4_undo_X2_copyFrom rfl rfl rfl (by decide +kernel) ⟨Nat.le_of_ble_eq_true rfl, Nat.le_of_ble_eq_true rfl⟩) (o_v (o_pB hK hN (hP.sub (ws' := (wP (fun k => o (k + 5)) cI cR v v (fun k => v (k + 5)) (fun k => v (k + 8)) (fun k => v (k + 11)) (fun k => v (k + 14)) ++ wP (fun k => o (k + 24)) cI cR (V 0) (V 0) (fun k => (V 0) (k + 5)) (fun k => (V 0) (k + 8)) (fun k => (V 0) (k + 11)) (fun k => (V 0) (k + 14)))) (w_pl2 o cI cR cS (va_up x 0 (va_up (x 0) 4 ((x 0 4) - 1))) v V 0) (o_fm (w_get2 o cI cR cS (va_up x 0 (va_up (x 0) 4 ((x 0 4) - 1))) v V (j := 0) (by decide)))) (hD.sub (ws' := (wP (fun k => o (k + 5)) cI cR v v (fun k => v (k + 5)) (fun k => v (k + 8)) (fun k => v (k + 11)) (fun k => v (k + 14)) ++ wP (fun k => o (k + 24)) cI cR (V 0) (V 0) (fun k => (V 0) (k + 5)) (fun k => (V 0) (k + 8)) (fun k => (V 0) (k + 11)) (fun k => (V 0) (k + 14)))) (w_pl2 o cI cR cS (va_up x 0 (va_up (x 0) 4 ((x 0 4) - 1))) v V 0) (w_nd2 o cI cR cS (va_up x 0 (va_up (x 0) 4 ((x 0 4) - 1))) v V (j := 0) (by decide)) (w_get2 o cI cR cS (va_up x 0 (va_up (x 0) 4 ((x 0 4) - 1))) v V (j := 0) (by decide)))) (va_recv hK hP (ci := 2) (q0 := 5) rfl rfl)) rfl rfl hl.1 rfl (lv_room (Nat.le_of_ble_eq_true rfl)) dX4_undo_44 ⟨Nat.zero_le _, Nat.zero_le _⟩) hP hD hS hA (w_pl2 o cI cR cS (va_up x 0 (va_up (x 0) 4 ((x 0 4) - 1))) v V 0) (w_nd2 o cI cR cS (va_up x 0 (va_up (x 0) 4 ((x 0 4) - 1))) v V (j := 0) (by decide)) (w_get2 o cI cR cS (va_up x 0 (va_up (x 0) 4 ((x 0 4) - 1))) v V (j := 0) (by decide)) (fun _ => rfl) (fun _ H locs e_4 hP hD hS => ?_)
      have E_5 : o_put (wO o cI cR cS (va_up x 0 (va_up (x 0) 4 ((x 0 4) - 1))) v (wV o cI cR V)) (w_pl2 o cI cR cS (va_up x 0 (va_up (x 0) 4 ((x 0 4) - 1))) v V 0) (wS (fun k => o (k + 5)) cI cR (V 0) ++ wS (fun k => o (k + 24)) cI cR (V 0)) = (wO o cI cR cS (va_up x 0 (va_up (x 0) 4 ((x 0 4) - 1))) (V 0) (wV o cI cR V)) := by exact w_put2 o cI cR cS (va_up x 0 (va_up (x 0) 4 ((x 0 4) - 1))) v (V 0) V (j := 0) (by decide)
      rw [E_5] at hP hD
      refine lv_aload_n hx hb dX4_undo_47 rfl (lv_at hl 0 rfl) ?_
      refine va_get (D := D) (ci := 4) (v := .int (nI ((x 0 4) - 1))) (C := RX4) (T := TX4) (N := 6) hx hb hts inX4_undo_X4 hown hK hP 0 rfl rfl 3 (by decide) (hts (.fieldLink RX4 152 "OddNotice" "savedCount" "I") (List.mem_of_getElem? (i := 3) (by decide +kernel))) (fun _ h9 => h9) rfl dX4_undo_48 ?_
      have w_6 : (wO o cI cR cS (va_up x 0 (va_up (x 0) 4 (x 0 4 - 1))) (V ((x 0 3 + (x 0 4 - 1)) % 6)) (wV o cI cR V)) = (wO o cI cR cS (va_up x 0 (va_up (x 0) 4 ((x 0 4) - 1))) (V 0) (wV o cI cR V)) := (by rw [hj])
      rw [← w_6] at hP
      exact W.iret (v := nI ((x 0 4) - 1)) hx hb hrt (fun t ht hW => ⟨⟨_, (), rfl, (by simp only [if_pos c_1]), by show va_P D vwCl _ t.heap; rw [ht]; exact hP⟩, hS.F ht⟩) hS.2.2 dX4_undo_51
    · skip
      exfalso
      omega
  · skip
    refine lv_aload_n hx hb dX4_undo_0 rfl (lv_at hl 0 rfl) ?_
    refine va_get (D := D) (ci := 4) (v := .int (nI (x 0 4))) (C := RX4) (T := TX4) (N := 6) hx hb hts inX4_undo_X4 hown hK hP 0 rfl rfl 3 (by decide) (hts (.fieldLink RX4 152 "OddNotice" "savedCount" "I") (List.mem_of_getElem? (i := 3) (by decide +kernel))) (fun _ h9 => h9) rfl dX4_undo_1 ?_
    refine o_if_gt (tgt := 17) hx hb dX4_undo_4 (by decide) (by omega) (fun c_7 => ?_) (fun c_7 => ?_)
    · skip
      refine lv_aload_n hx hb dX4_undo_17 rfl (lv_at hl 0 rfl) ?_
      refine lv_dup hx hb dX4_undo_18 rfl ?_
      refine va_get (D := D) (ci := 4) (v := .int (nI (x 0 4))) (C := RX4) (T := TX4) (N := 6) hx hb hts inX4_undo_X4 hown hK hP 0 rfl rfl 3 (by decide) (hts (.fieldLink RX4 152 "OddNotice" "savedCount" "I") (List.mem_of_getElem? (i := 3) (by decide +kernel))) (fun _ h9 => h9) rfl dX4_undo_19 ?_
      refine o_const (k := 1) hx hb dX4_undo_22 (by decide) ?_
      refine o_isub (a := (x 0 4)) (b := 1) (k := ((x 0 4) - 1)) hx hb dX4_undo_23 (by omega) rfl ?_
      refine va_put (D := D) (ci := 4) (v := .int (nI ((x 0 4) - 1))) (ty := .int) (C := RX4) (T := TX4) (N := 6) hx hb hts inX4_undo_X4 tyX4 tyX4_ok nmX4 hown hK hP hD hS 0 rfl rfl 3 (by decide) (hts (.fieldLink RX4 152 "OddNotice" "savedCount" "I") (List.mem_of_getElem? (i := 3) (by decide +kernel))) (fun _ h9 => h9) rfl (by decide +kernel) rfl rfl (Nat.le_of_ble_eq_true rfl) dX4_undo_24 (fun H locs hP hD hS => ?_)
      have hP : va_P D vwCl (wO o cI cR cS (va_up x 0 (va_up (x 0) 4 ((x 0 4) - 1))) v (wV o cI cR V)) H := hP
      have hD : va_D A (wO o cI cR cS (va_up x 0 (va_up (x 0) 4 ((x 0 4) - 1))) v (wV o cI cR V)) := hD
      refine lv_aload_n hx hb dX4_undo_27 rfl (lv_at hl 0 rfl) ?_
      refine va_get (D := D) (ci := 4) (v := .ref (o 5)) (C := RX4) (T := TX4) (N := 6) hx hb hts inX4_undo_X4 hown hK hP 0 rfl rfl 0 (by decide) (hts (.fieldLink RX4 10 "OddNotice" "now" "LOddNotice$State;") (List.mem_of_getElem? (i := 4) (by decide +kernel))) (fun _ h9 => h9) rfl dX4_undo_28 ?_
      refine lv_aload_n hx hb dX4_undo_31 rfl (lv_at hl 0 rfl) ?_
      refine va_get (D := D) (ci := 4) (v := .ref (o 1)) (C := RX4) (T := TX4) (N := 6) hx hb hts inX4_undo_X4 hown hK hP 0 rfl rfl 1 (by decide) (hts (.fieldLink RX4 16 "OddNotice" "saved" "[LOddNotice$State;") (List.mem_of_getElem? (i := 5) (by decide +kernel))) (fun _ h9 => h9) rfl dX4_undo_32 ?_
      refine lv_aload_n hx hb dX4_undo_35 rfl (lv_at hl 0 rfl) ?_
      refine lv_aload_n hx hb dX4_undo_36 rfl (lv_at hl 0 rfl) ?_
      refine va_get (D := D) (ci := 4) (v := .int (nI ((x 0 4) - 1))) (C := RX4) (T := TX4) (N := 6) hx hb hts inX4_undo_X4 hown hK hP 0 rfl rfl 3 (by decide) (hts (.fieldLink RX4 152 "OddNotice" "savedCount" "I") (List.mem_of_getElem? (i := 3) (by decide +kernel))) (fun _ h9 => h9) rfl dX4_undo_37 ?_
      refine o_ri (va_runV (As := [.int (nI ((x 0 4) - 1))]) (rest := [.ref (o 1), .ref (o 5)]) ⟨hx, hb, hml, hown, hts⟩ (k_X4_savedPlace l D cI cR cS cL o (va_up x 0 (va_up (x 0) 4 ((x 0 4) - 1))) v (wV o cI cR V) ((x 0 4) - 1) (by show x 0 3 < 6; first | assumption | omega) (by show ((x 0 4) - 1) ≤ 6; first | assumption | omega)) (cwV 1 hts gX4_undo_X4_savedPlace rfl rfl rfl (by decide +kernel) ⟨Nat.le_of_ble_eq_true rfl, Nat.le_of_ble_eq_true rfl⟩) (o_v (o_pR hK hN hP) (va_recv hK hP (ci := 4) (q0 := 0) rfl rfl)) rfl rfl hl.1 rfl (lv_room (Nat.le_of_ble_eq_true rfl)) dX4_undo_40 ⟨Nat.zero_le _, Nat.zero_le _⟩) (fun r_9 e_8 => ?_)
      have e_8 : r_9 = nI 1 := by rw [e_8]; exact congrArg nI hj
      subst e_8
      refine o_aldq (v := (o 43)) (C := "OddNotice$State") hx hb hK hP 1 2 rfl rfl (Nat.le_of_ble_eq_true rfl) (Nat.le_of_ble_eq_true rfl) rfl dX4_undo_43 ?_
      refine o_wv (va_runV (As := [.ref (o 43)]) (rest := []) ⟨hx, hb, hml, hown, hts⟩ (k_X2_copyFrom l D cI cR cS cL H.size (fun k => o (k + 5)) v (fun k => o (k + 43)) (V 1) b (hSI 1 (by omega)) (by show b < 2 ^ 28; first | assumption | omega)) (cwV 1 hts gX4_undo_X2_copyFrom rfl rfl rfl (by decide +kernel) ⟨Nat.le_of_ble_eq_true rfl, Nat.le_of_ble_eq_true rfl⟩) (o_v (o_pB hK hN (hP.sub (ws' := (wP (fun k => o (k + 5)) cI cR v v (fun k => v (k + 5)) (fun k => v (k + 8)) (fun k => v (k + 11)) (fun k => v (k + 14)) ++ wP (fun k => o (k + 43)) cI cR (V 1) (V 1) (fun k => (V 1) (k + 5)) (fun k => (V 1) (k + 8)) (fun k => (V 1) (k + 11)) (fun k => (V 1) (k + 14)))) (w_pl2 o cI cR cS (va_up x 0 (va_up (x 0) 4 ((x 0 4) - 1))) v V 1) (o_fm (w_get2 o cI cR cS (va_up x 0 (va_up (x 0) 4 ((x 0 4) - 1))) v V (j := 1) (by decide)))) (hD.sub (ws' := (wP (fun k => o (k + 5)) cI cR v v (fun k => v (k + 5)) (fun k => v (k + 8)) (fun k => v (k + 11)) (fun k => v (k + 14)) ++ wP (fun k => o (k + 43)) cI cR (V 1) (V 1) (fun k => (V 1) (k + 5)) (fun k => (V 1) (k + 8)) (fun k => (V 1) (k + 11)) (fun k => (V 1) (k + 14)))) (w_pl2 o cI cR cS (va_up x 0 (va_up (x 0) 4 ((x 0 4) - 1))) v V 1) (w_nd2 o cI cR cS (va_up x 0 (va_up (x 0) 4 ((x 0 4) - 1))) v V (j := 1) (by decide)) (w_get2 o cI cR cS (va_up x 0 (va_up (x 0) 4 ((x 0 4) - 1))) v V (j := 1) (by decide)))) (va_recv hK hP (ci := 2) (q0 := 5) rfl rfl)) rfl rfl hl.1 rfl (lv_room (Nat.le_of_ble_eq_true rfl)) dX4_undo_44 ⟨Nat.zero_le _, Nat.zero_le _⟩) hP hD hS hA (w_pl2 o cI cR cS (va_up x 0 (va_up (x 0) 4 ((x 0 4) - 1))) v V 1) (w_nd2 o cI cR cS (va_up x 0 (va_up (x 0) 4 ((x 0 4) - 1))) v V (j := 1) (by decide)) (w_get2 o cI cR cS (va_up x 0 (va_up (x 0) 4 ((x 0 4) - 1))) v V (j := 1) (by decide)) (fun _ => rfl) (fun _ H locs e_10 hP hD hS => ?_)
      have E_11 : o_put (wO o cI cR cS (va_up x 0 (va_up (x 0) 4 ((x 0 4) - 1))) v (wV o cI cR V)) (w_pl2 o cI cR cS (va_up x 0 (va_up (x 0) 4 ((x 0 4) - 1))) v V 1) (wS (fun k => o (k + 5)) cI cR (V 1) ++ wS (fun k => o (k + 43)) cI cR (V 1)) = (wO o cI cR cS (va_up x 0 (va_up (x 0) 4 ((x 0 4) - 1))) (V 1) (wV o cI cR V)) := by exact w_put2 o cI cR cS (va_up x 0 (va_up (x 0) 4 ((x 0 4) - 1))) v (V 1) V (j := 1) (by decide)
      rw [E_11] at hP hD
      refine lv_aload_n hx hb dX4_undo_47 rfl (lv_at hl 0 rfl) ?_
      refine va_get (D := D) (ci := 4) (v := .int (nI ((x 0 4) - 1))) (C := RX4) (T := TX4) (N := 6) hx hb hts inX4_undo_X4 hown hK hP 0 rfl rfl 3 (by decide) (hts (.fieldLink RX4 152 "OddNotice" "savedCount" "I") (List.mem_of_getElem? (i := 3) (by decide +kernel))) (fun _ h9 => h9) rfl dX4_undo_48 ?_
      have w_12 : (wO o cI cR cS (va_up x 0 (va_up (x 0) 4 (x 0 4 - 1))) (V ((x 0 3 + (x 0 4 - 1)) % 6)) (wV o cI cR V)) = (wO o cI cR cS (va_up x 0 (va_up (x 0) 4 ((x 0 4) - 1))) (V 1) (wV o cI cR V)) := (by rw [hj])
      rw [← w_12] at hP
      exact W.iret (v := nI ((x 0 4) - 1)) hx hb hrt (fun t ht hW => ⟨⟨_, (), rfl, (by simp only [if_pos c_7]), by show va_P D vwCl _ t.heap; rw [ht]; exact hP⟩, hS.F ht⟩) hS.2.2 dX4_undo_51
    · skip
      exfalso
      omega
  · skip
    refine lv_aload_n hx hb dX4_undo_0 rfl (lv_at hl 0 rfl) ?_
    refine va_get (D := D) (ci := 4) (v := .int (nI (x 0 4))) (C := RX4) (T := TX4) (N := 6) hx hb hts inX4_undo_X4 hown hK hP 0 rfl rfl 3 (by decide) (hts (.fieldLink RX4 152 "OddNotice" "savedCount" "I") (List.mem_of_getElem? (i := 3) (by decide +kernel))) (fun _ h9 => h9) rfl dX4_undo_1 ?_
    refine o_if_gt (tgt := 17) hx hb dX4_undo_4 (by decide) (by omega) (fun c_13 => ?_) (fun c_13 => ?_)
    · skip
      refine lv_aload_n hx hb dX4_undo_17 rfl (lv_at hl 0 rfl) ?_
      refine lv_dup hx hb dX4_undo_18 rfl ?_
      refine va_get (D := D) (ci := 4) (v := .int (nI (x 0 4))) (C := RX4) (T := TX4) (N := 6) hx hb hts inX4_undo_X4 hown hK hP 0 rfl rfl 3 (by decide) (hts (.fieldLink RX4 152 "OddNotice" "savedCount" "I") (List.mem_of_getElem? (i := 3) (by decide +kernel))) (fun _ h9 => h9) rfl dX4_undo_19 ?_
      refine o_const (k := 1) hx hb dX4_undo_22 (by decide) ?_
      refine o_isub (a := (x 0 4)) (b := 1) (k := ((x 0 4) - 1)) hx hb dX4_undo_23 (by omega) rfl ?_
      refine va_put (D := D) (ci := 4) (v := .int (nI ((x 0 4) - 1))) (ty := .int) (C := RX4) (T := TX4) (N := 6) hx hb hts inX4_undo_X4 tyX4 tyX4_ok nmX4 hown hK hP hD hS 0 rfl rfl 3 (by decide) (hts (.fieldLink RX4 152 "OddNotice" "savedCount" "I") (List.mem_of_getElem? (i := 3) (by decide +kernel))) (fun _ h9 => h9) rfl (by decide +kernel) rfl rfl (Nat.le_of_ble_eq_true rfl) dX4_undo_24 (fun H locs hP hD hS => ?_)
      have hP : va_P D vwCl (wO o cI cR cS (va_up x 0 (va_up (x 0) 4 ((x 0 4) - 1))) v (wV o cI cR V)) H := hP
      have hD : va_D A (wO o cI cR cS (va_up x 0 (va_up (x 0) 4 ((x 0 4) - 1))) v (wV o cI cR V)) := hD
      refine lv_aload_n hx hb dX4_undo_27 rfl (lv_at hl 0 rfl) ?_
      refine va_get (D := D) (ci := 4) (v := .ref (o 5)) (C := RX4) (T := TX4) (N := 6) hx hb hts inX4_undo_X4 hown hK hP 0 rfl rfl 0 (by decide) (hts (.fieldLink RX4 10 "OddNotice" "now" "LOddNotice$State;") (List.mem_of_getElem? (i := 4) (by decide +kernel))) (fun _ h9 => h9) rfl dX4_undo_28 ?_
      refine lv_aload_n hx hb dX4_undo_31 rfl (lv_at hl 0 rfl) ?_
      refine va_get (D := D) (ci := 4) (v := .ref (o 1)) (C := RX4) (T := TX4) (N := 6) hx hb hts inX4_undo_X4 hown hK hP 0 rfl rfl 1 (by decide) (hts (.fieldLink RX4 16 "OddNotice" "saved" "[LOddNotice$State;") (List.mem_of_getElem? (i := 5) (by decide +kernel))) (fun _ h9 => h9) rfl dX4_undo_32 ?_
      refine lv_aload_n hx hb dX4_undo_35 rfl (lv_at hl 0 rfl) ?_
      refine lv_aload_n hx hb dX4_undo_36 rfl (lv_at hl 0 rfl) ?_
      refine va_get (D := D) (ci := 4) (v := .int (nI ((x 0 4) - 1))) (C := RX4) (T := TX4) (N := 6) hx hb hts inX4_undo_X4 hown hK hP 0 rfl rfl 3 (by decide) (hts (.fieldLink RX4 152 "OddNotice" "savedCount" "I") (List.mem_of_getElem? (i := 3) (by decide +kernel))) (fun _ h9 => h9) rfl dX4_undo_37 ?_
      refine o_ri (va_runV (As := [.int (nI ((x 0 4) - 1))]) (rest := [.ref (o 1), .ref (o 5)]) ⟨hx, hb, hml, hown, hts⟩ (k_X4_savedPlace l D cI cR cS cL o (va_up x 0 (va_up (x 0) 4 ((x 0 4) - 1))) v (wV o cI cR V) ((x 0 4) - 1) (by show x 0 3 < 6; first | assumption | omega) (by show ((x 0 4) - 1) ≤ 6; first | assumption | omega)) (cwV 1 hts gX4_undo_X4_savedPlace rfl rfl rfl (by decide +kernel) ⟨Nat.le_of_ble_eq_true rfl, Nat.le_of_ble_eq_true rfl⟩) (o_v (o_pR hK hN hP) (va_recv hK hP (ci := 4) (q0 := 0) rfl rfl)) rfl rfl hl.1 rfl (lv_room (Nat.le_of_ble_eq_true rfl)) dX4_undo_40 ⟨Nat.zero_le _, Nat.zero_le _⟩) (fun r_15 e_14 => ?_)
      have e_14 : r_15 = nI 2 := by rw [e_14]; exact congrArg nI hj
      subst e_14
      refine o_aldq (v := (o 62)) (C := "OddNotice$State") hx hb hK hP 1 2 rfl rfl (Nat.le_of_ble_eq_true rfl) (Nat.le_of_ble_eq_true rfl) rfl dX4_undo_43 ?_
      refine o_wv (va_runV (As := [.ref (o 62)]) (rest := []) ⟨hx, hb, hml, hown, hts⟩ (k_X2_copyFrom l D cI cR cS cL H.size (fun k => o (k + 5)) v (fun k => o (k + 62)) (V 2) b (hSI 2 (by omega)) (by show b < 2 ^ 28; first | assumption | omega)) (cwV 1 hts gX4_undo_X2_copyFrom rfl rfl rfl (by decide +kernel) ⟨Nat.le_of_ble_eq_true rfl, Nat.le_of_ble_eq_true rfl⟩) (o_v (o_pB hK hN (hP.sub (ws' := (wP (fun k => o (k + 5)) cI cR v v (fun k => v (k + 5)) (fun k => v (k + 8)) (fun k => v (k + 11)) (fun k => v (k + 14)) ++ wP (fun k => o (k + 62)) cI cR (V 2) (V 2) (fun k => (V 2) (k + 5)) (fun k => (V 2) (k + 8)) (fun k => (V 2) (k + 11)) (fun k => (V 2) (k + 14)))) (w_pl2 o cI cR cS (va_up x 0 (va_up (x 0) 4 ((x 0 4) - 1))) v V 2) (o_fm (w_get2 o cI cR cS (va_up x 0 (va_up (x 0) 4 ((x 0 4) - 1))) v V (j := 2) (by decide)))) (hD.sub (ws' := (wP (fun k => o (k + 5)) cI cR v v (fun k => v (k + 5)) (fun k => v (k + 8)) (fun k => v (k + 11)) (fun k => v (k + 14)) ++ wP (fun k => o (k + 62)) cI cR (V 2) (V 2) (fun k => (V 2) (k + 5)) (fun k => (V 2) (k + 8)) (fun k => (V 2) (k + 11)) (fun k => (V 2) (k + 14)))) (w_pl2 o cI cR cS (va_up x 0 (va_up (x 0) 4 ((x 0 4) - 1))) v V 2) (w_nd2 o cI cR cS (va_up x 0 (va_up (x 0) 4 ((x 0 4) - 1))) v V (j := 2) (by decide)) (w_get2 o cI cR cS (va_up x 0 (va_up (x 0) 4 ((x 0 4) - 1))) v V (j := 2) (by decide)))) (va_recv hK hP (ci := 2) (q0 := 5) rfl rfl)) rfl rfl hl.1 rfl (lv_room (Nat.le_of_ble_eq_true rfl)) dX4_undo_44 ⟨Nat.zero_le _, Nat.zero_le _⟩) hP hD hS hA (w_pl2 o cI cR cS (va_up x 0 (va_up (x 0) 4 ((x 0 4) - 1))) v V 2) (w_nd2 o cI cR cS (va_up x 0 (va_up (x 0) 4 ((x 0 4) - 1))) v V (j := 2) (by decide)) (w_get2 o cI cR cS (va_up x 0 (va_up (x 0) 4 ((x 0 4) - 1))) v V (j := 2) (by decide)) (fun _ => rfl) (fun _ H locs e_16 hP hD hS => ?_)
      have E_17 : o_put (wO o cI cR cS (va_up x 0 (va_up (x 0) 4 ((x 0 4) - 1))) v (wV o cI cR V)) (w_pl2 o cI cR cS (va_up x 0 (va_up (x 0) 4 ((x 0 4) - 1))) v V 2) (wS (fun k => o (k + 5)) cI cR (V 2) ++ wS (fun k => o (k + 62)) cI cR (V 2)) = (wO o cI cR cS (va_up x 0 (va_up (x 0) 4 ((x 0 4) - 1))) (V 2) (wV o cI cR V)) := by exact w_put2 o cI cR cS (va_up x 0 (va_up (x 0) 4 ((x 0 4) - 1))) v (V 2) V (j := 2) (by decide)
      rw [E_17] at hP hD
      refine lv_aload_n hx hb dX4_undo_47 rfl (lv_at hl 0 rfl) ?_
      refine va_get (D := D) (ci := 4) (v := .int (nI ((x 0 4) - 1))) (C := RX4) (T := TX4) (N := 6) hx hb hts inX4_undo_X4 hown hK hP 0 rfl rfl 3 (by decide) (hts (.fieldLink RX4 152 "OddNotice" "savedCount" "I") (List.mem_of_getElem? (i := 3) (by decide +kernel))) (fun _ h9 => h9) rfl dX4_undo_48 ?_
      have w_18 : (wO o cI cR cS (va_up x 0 (va_up (x 0) 4 (x 0 4 - 1))) (V ((x 0 3 + (x 0 4 - 1)) % 6)) (wV o cI cR V)) = (wO o cI cR cS (va_up x 0 (va_up (x 0) 4 ((x 0 4) - 1))) (V 2) (wV o cI cR V)) := (by rw [hj])
      rw [← w_18] at hP
      exact W.iret (v := nI ((x 0 4) - 1)) hx hb hrt (fun t ht hW => ⟨⟨_, (), rfl, (by simp only [if_pos c_13]), by show va_P D vwCl _ t.heap; rw [ht]; exact hP⟩, hS.F ht⟩) hS.2.2 dX4_undo_51
    · skip
      exfalso
      omega
  · skip
    refine lv_aload_n hx hb dX4_undo_0 rfl (lv_at hl 0 rfl) ?_
    refine va_get (D := D) (ci := 4) (v := .int (nI (x 0 4))) (C := RX4) (T := TX4) (N := 6) hx hb hts inX4_undo_X4 hown hK hP 0 rfl rfl 3 (by decide) (hts (.fieldLink RX4 152 "OddNotice" "savedCount" "I") (List.mem_of_getElem? (i := 3) (by decide +kernel))) (fun _ h9 => h9) rfl dX4_undo_1 ?_
    refine o_if_gt (tgt := 17) hx hb dX4_undo_4 (by decide) (by omega) (fun c_19 => ?_) (fun c_19 => ?_)
    · skip
      refine lv_aload_n hx hb dX4_undo_17 rfl (lv_at hl 0 rfl) ?_
      refine lv_dup hx hb dX4_undo_18 rfl ?_
      refine va_get (D := D) (ci := 4) (v := .int (nI (x 0 4))) (C := RX4) (T := TX4) (N := 6) hx hb hts inX4_undo_X4 hown hK hP 0 rfl rfl 3 (by decide) (hts (.fieldLink RX4 152 "OddNotice" "savedCount" "I") (List.mem_of_getElem? (i := 3) (by decide +kernel))) (fun _ h9 => h9) rfl dX4_undo_19 ?_
      refine o_const (k := 1) hx hb dX4_undo_22 (by decide) ?_
      refine o_isub (a := (x 0 4)) (b := 1) (k := ((x 0 4) - 1)) hx hb dX4_undo_23 (by omega) rfl ?_
      refine va_put (D := D) (ci := 4) (v := .int (nI ((x 0 4) - 1))) (ty := .int) (C := RX4) (T := TX4) (N := 6) hx hb hts inX4_undo_X4 tyX4 tyX4_ok nmX4 hown hK hP hD hS 0 rfl rfl 3 (by decide) (hts (.fieldLink RX4 152 "OddNotice" "savedCount" "I") (List.mem_of_getElem? (i := 3) (by decide +kernel))) (fun _ h9 => h9) rfl (by decide +kernel) rfl rfl (Nat.le_of_ble_eq_true rfl) dX4_undo_24 (fun H locs hP hD hS => ?_)
      have hP : va_P D vwCl (wO o cI cR cS (va_up x 0 (va_up (x 0) 4 ((x 0 4) - 1))) v (wV o cI cR V)) H := hP
      have hD : va_D A (wO o cI cR cS (va_up x 0 (va_up (x 0) 4 ((x 0 4) - 1))) v (wV o cI cR V)) := hD
      refine lv_aload_n hx hb dX4_undo_27 rfl (lv_at hl 0 rfl) ?_
      refine va_get (D := D) (ci := 4) (v := .ref (o 5)) (C := RX4) (T := TX4) (N := 6) hx hb hts inX4_undo_X4 hown hK hP 0 rfl rfl 0 (by decide) (hts (.fieldLink RX4 10 "OddNotice" "now" "LOddNotice$State;") (List.mem_of_getElem? (i := 4) (by decide +kernel))) (fun _ h9 => h9) rfl dX4_undo_28 ?_
      refine lv_aload_n hx hb dX4_undo_31 rfl (lv_at hl 0 rfl) ?_
      refine va_get (D := D) (ci := 4) (v := .ref (o 1)) (C := RX4) (T := TX4) (N := 6) hx hb hts inX4_undo_X4 hown hK hP 0 rfl rfl 1 (by decide) (hts (.fieldLink RX4 16 "OddNotice" "saved" "[LOddNotice$State;") (List.mem_of_getElem? (i := 5) (by decide +kernel))) (fun _ h9 => h9) rfl dX4_undo_32 ?_
      refine lv_aload_n hx hb dX4_undo_35 rfl (lv_at hl 0 rfl) ?_
      refine lv_aload_n hx hb dX4_undo_36 rfl (lv_at hl 0 rfl) ?_
      refine va_get (D := D) (ci := 4) (v := .int (nI ((x 0 4) - 1))) (C := RX4) (T := TX4) (N := 6) hx hb hts inX4_undo_X4 hown hK hP 0 rfl rfl 3 (by decide) (hts (.fieldLink RX4 152 "OddNotice" "savedCount" "I") (List.mem_of_getElem? (i := 3) (by decide +kernel))) (fun _ h9 => h9) rfl dX4_undo_37 ?_
      refine o_ri (va_runV (As := [.int (nI ((x 0 4) - 1))]) (rest := [.ref (o 1), .ref (o 5)]) ⟨hx, hb, hml, hown, hts⟩ (k_X4_savedPlace l D cI cR cS cL o (va_up x 0 (va_up (x 0) 4 ((x 0 4) - 1))) v (wV o cI cR V) ((x 0 4) - 1) (by show x 0 3 < 6; first | assumption | omega) (by show ((x 0 4) - 1) ≤ 6; first | assumption | omega)) (cwV 1 hts gX4_undo_X4_savedPlace rfl rfl rfl (by decide +kernel) ⟨Nat.le_of_ble_eq_true rfl, Nat.le_of_ble_eq_true rfl⟩) (o_v (o_pR hK hN hP) (va_recv hK hP (ci := 4) (q0 := 0) rfl rfl)) rfl rfl hl.1 rfl (lv_room (Nat.le_of_ble_eq_true rfl)) dX4_undo_40 ⟨Nat.zero_le _, Nat.zero_le _⟩) (fun r_21 e_20 => ?_)
      have e_20 : r_21 = nI 3 := by rw [e_20]; exact congrArg nI hj
      subst e_20
      refine o_aldq (v := (o 81)) (C := "OddNotice$State") hx hb hK hP 1 2 rfl rfl (Nat.le_of_ble_eq_true rfl) (Nat.le_of_ble_eq_true rfl) rfl dX4_undo_43 ?_
      refine o_wv (va_runV (As := [.ref (o 81)]) (rest := []) ⟨hx, hb, hml, hown, hts⟩ (k_X2_copyFrom l D cI cR cS cL H.size (fun k => o (k + 5)) v (fun k => o (k + 81)) (V 3) b (hSI 3 (by omega)) (by show b < 2 ^ 28; first | assumption | omega)) (cwV 1 hts gX4_undo_X2_copyFrom rfl rfl rfl (by decide +kernel) ⟨Nat.le_of_ble_eq_true rfl, Nat.le_of_ble_eq_true rfl⟩) (o_v (o_pB hK hN (hP.sub (ws' := (wP (fun k => o (k + 5)) cI cR v v (fun k => v (k + 5)) (fun k => v (k + 8)) (fun k => v (k + 11)) (fun k => v (k + 14)) ++ wP (fun k => o (k + 81)) cI cR (V 3) (V 3) (fun k => (V 3) (k + 5)) (fun k => (V 3) (k + 8)) (fun k => (V 3) (k + 11)) (fun k => (V 3) (k + 14)))) (w_pl2 o cI cR cS (va_up x 0 (va_up (x 0) 4 ((x 0 4) - 1))) v V 3) (o_fm (w_get2 o cI cR cS (va_up x 0 (va_up (x 0) 4 ((x 0 4) - 1))) v V (j := 3) (by decide)))) (hD.sub (ws' := (wP (fun k => o (k + 5)) cI cR v v (fun k => v (k + 5)) (fun k => v (k + 8)) (fun k => v (k + 11)) (fun k => v (k + 14)) ++ wP (fun k => o (k + 81)) cI cR (V 3) (V 3) (fun k => (V 3) (k + 5)) (fun k => (V 3) (k + 8)) (fun k => (V 3) (k + 11)) (fun k => (V 3) (k + 14)))) (w_pl2 o cI cR cS (va_up x 0 (va_up (x 0) 4 ((x 0 4) - 1))) v V 3) (w_nd2 o cI cR cS (va_up x 0 (va_up (x 0) 4 ((x 0 4) - 1))) v V (j := 3) (by decide)) (w_get2 o cI cR cS (va_up x 0 (va_up (x 0) 4 ((x 0 4) - 1))) v V (j := 3) (by decide)))) (va_recv hK hP (ci := 2) (q0 := 5) rfl rfl)) rfl rfl hl.1 rfl (lv_room (Nat.le_of_ble_eq_true rfl)) dX4_undo_44 ⟨Nat.zero_le _, Nat.zero_le _⟩) hP hD hS hA (w_pl2 o cI cR cS (va_up x 0 (va_up (x 0) 4 ((x 0 4) - 1))) v V 3) (w_nd2 o cI cR cS (va_up x 0 (va_up (x 0) 4 ((x 0 4) - 1))) v V (j := 3) (by decide)) (w_get2 o cI cR cS (va_up x 0 (va_up (x 0) 4 ((x 0 4) - 1))) v V (j := 3) (by decide)) (fun _ => rfl) (fun _ H locs e_22 hP hD hS => ?_)
      have E_23 : o_put (wO o cI cR cS (va_up x 0 (va_up (x 0) 4 ((x 0 4) - 1))) v (wV o cI cR V)) (w_pl2 o cI cR cS (va_up x 0 (va_up (x 0) 4 ((x 0 4) - 1))) v V 3) (wS (fun k => o (k + 5)) cI cR (V 3) ++ wS (fun k => o (k + 81)) cI cR (V 3)) = (wO o cI cR cS (va_up x 0 (va_up (x 0) 4 ((x 0 4) - 1))) (V 3) (wV o cI cR V)) := by exact w_put2 o cI cR cS (va_up x 0 (va_up (x 0) 4 ((x 0 4) - 1))) v (V 3) V (j := 3) (by decide)
      rw [E_23] at hP hD
      refine lv_aload_n hx hb dX4_undo_47 rfl (lv_at hl 0 rfl) ?_
      refine va_get (D := D) (ci := 4) (v := .int (nI ((x 0 4) - 1))) (C := RX4) (T := TX4) (N := 6) hx hb hts inX4_undo_X4 hown hK hP 0 rfl rfl 3 (by decide) (hts (.fieldLink RX4 152 "OddNotice" "savedCount" "I") (List.mem_of_getElem? (i := 3) (by decide +kernel))) (fun _ h9 => h9) rfl dX4_undo_48 ?_
      have w_24 : (wO o cI cR cS (va_up x 0 (va_up (x 0) 4 (x 0 4 - 1))) (V ((x 0 3 + (x 0 4 - 1)) % 6)) (wV o cI cR V)) = (wO o cI cR cS (va_up x 0 (va_up (x 0) 4 ((x 0 4) - 1))) (V 3) (wV o cI cR V)) := (by rw [hj])
      rw [← w_24] at hP
      exact W.iret (v := nI ((x 0 4) - 1)) hx hb hrt (fun t ht hW => ⟨⟨_, (), rfl, (by simp only [if_pos c_19]), by show va_P D vwCl _ t.heap; rw [ht]; exact hP⟩, hS.F ht⟩) hS.2.2 dX4_undo_51
    · skip
      exfalso
      omega
  · skip
    refine lv_aload_n hx hb dX4_undo_0 rfl (lv_at hl 0 rfl) ?_
    refine va_get (D := D) (ci := 4) (v := .int (nI (x 0 4))) (C := RX4) (T := TX4) (N := 6) hx hb hts inX4_undo_X4 hown hK hP 0 rfl rfl 3 (by decide) (hts (.fieldLink RX4 152 "OddNotice" "savedCount" "I") (List.mem_of_getElem? (i := 3) (by decide +kernel))) (fun _ h9 => h9) rfl dX4_undo_1 ?_
    refine o_if_gt (tgt := 17) hx hb dX4_undo_4 (by decide) (by omega) (fun c_25 => ?_) (fun c_25 => ?_)
    · skip
      refine lv_aload_n hx hb dX4_undo_17 rfl (lv_at hl 0 rfl) ?_
      refine lv_dup hx hb dX4_undo_18 rfl ?_
      refine va_get (D := D) (ci := 4) (v := .int (nI (x 0 4))) (C := RX4) (T := TX4) (N := 6) hx hb hts inX4_undo_X4 hown hK hP 0 rfl rfl 3 (by decide) (hts (.fieldLink RX4 152 "OddNotice" "savedCount" "I") (List.mem_of_getElem? (i := 3) (by decide +kernel))) (fun _ h9 => h9) rfl dX4_undo_19 ?_
      refine o_const (k := 1) hx hb dX4_undo_22 (by decide) ?_
      refine o_isub (a := (x 0 4)) (b := 1) (k := ((x 0 4) - 1)) hx hb dX4_undo_23 (by omega) rfl ?_
      refine va_put (D := D) (ci := 4) (v := .int (nI ((x 0 4) - 1))) (ty := .int) (C := RX4) (T := TX4) (N := 6) hx hb hts inX4_undo_X4 tyX4 tyX4_ok nmX4 hown hK hP hD hS 0 rfl rfl 3 (by decide) (hts (.fieldLink RX4 152 "OddNotice" "savedCount" "I") (List.mem_of_getElem? (i := 3) (by decide +kernel))) (fun _ h9 => h9) rfl (by decide +kernel) rfl rfl (Nat.le_of_ble_eq_true rfl) dX4_undo_24 (fun H locs hP hD hS => ?_)
      have hP : va_P D vwCl (wO o cI cR cS (va_up x 0 (va_up (x 0) 4 ((x 0 4) - 1))) v (wV o cI cR V)) H := hP
      have hD : va_D A (wO o cI cR cS (va_up x 0 (va_up (x 0) 4 ((x 0 4) - 1))) v (wV o cI cR V)) := hD
      refine lv_aload_n hx hb dX4_undo_27 rfl (lv_at hl 0 rfl) ?_
      refine va_get (D := D) (ci := 4) (v := .ref (o 5)) (C := RX4) (T := TX4) (N := 6) hx hb hts inX4_undo_X4 hown hK hP 0 rfl rfl 0 (by decide) (hts (.fieldLink RX4 10 "OddNotice" "now" "LOddNotice$State;") (List.mem_of_getElem? (i := 4) (by decide +kernel))) (fun _ h9 => h9) rfl dX4_undo_28 ?_
      refine lv_aload_n hx hb dX4_undo_31 rfl (lv_at hl 0 rfl) ?_
      refine va_get (D := D) (ci := 4) (v := .ref (o 1)) (C := RX4) (T := TX4) (N := 6) hx hb hts inX4_undo_X4 hown hK hP 0 rfl rfl 1 (by decide) (hts (.fieldLink RX4 16 "OddNotice" "saved" "[LOddNotice$State;") (List.mem_of_getElem? (i := 5) (by decide +kernel))) (fun _ h9 => h9) rfl dX4_undo_32 ?_
      refine lv_aload_n hx hb dX4_undo_35 rfl (lv_at hl 0 rfl) ?_
      refine lv_aload_n hx hb dX4_undo_36 rfl (lv_at hl 0 rfl) ?_
      refine va_get (D := D) (ci := 4) (v := .int (nI ((x 0 4) - 1))) (C := RX4) (T := TX4) (N := 6) hx hb hts inX4_undo_X4 hown hK hP 0 rfl rfl 3 (by decide) (hts (.fieldLink RX4 152 "OddNotice" "savedCount" "I") (List.mem_of_getElem? (i := 3) (by decide +kernel))) (fun _ h9 => h9) rfl dX4_undo_37 ?_
      refine o_ri (va_runV (As := [.int (nI ((x 0 4) - 1))]) (rest := [.ref (o 1), .ref (o 5)]) ⟨hx, hb, hml, hown, hts⟩ (k_X4_savedPlace l D cI cR cS cL o (va_up x 0 (va_up (x 0) 4 ((x 0 4) - 1))) v (wV o cI cR V) ((x 0 4) - 1) (by show x 0 3 < 6; first | assumption | omega) (by show ((x 0 4) - 1) ≤ 6; first | assumption | omega)) (cwV 1 hts gX4_undo_X4_savedPlace rfl rfl rfl (by decide +kernel) ⟨Nat.le_of_ble_eq_true rfl, Nat.le_of_ble_eq_true rfl⟩) (o_v (o_pR hK hN hP) (va_recv hK hP (ci := 4) (q0 := 0) rfl rfl)) rfl rfl hl.1 rfl (lv_room (Nat.le_of_ble_eq_true rfl)) dX4_undo_40 ⟨Nat.zero_le _, Nat.zero_le _⟩) (fun r_27 e_26 => ?_)
      have e_26 : r_27 = nI 4 := by rw [e_26]; exact congrArg nI hj
      subst e_26
      refine o_aldq (v := (o 100)) (C := "OddNotice$State") hx hb hK hP 1 2 rfl rfl (Nat.le_of_ble_eq_true rfl) (Nat.le_of_ble_eq_true rfl) rfl dX4_undo_43 ?_
      refine o_wv (va_runV (As := [.ref (o 100)]) (rest := []) ⟨hx, hb, hml, hown, hts⟩ (k_X2_copyFrom l D cI cR cS cL H.size (fun k => o (k + 5)) v (fun k => o (k + 100)) (V 4) b (hSI 4 (by omega)) (by show b < 2 ^ 28; first | assumption | omega)) (cwV 1 hts gX4_undo_X2_copyFrom rfl rfl rfl (by decide +kernel) ⟨Nat.le_of_ble_eq_true rfl, Nat.le_of_ble_eq_true rfl⟩) (o_v (o_pB hK hN (hP.sub (ws' := (wP (fun k => o (k + 5)) cI cR v v (fun k => v (k + 5)) (fun k => v (k + 8)) (fun k => v (k + 11)) (fun k => v (k + 14)) ++ wP (fun k => o (k + 100)) cI cR (V 4) (V 4) (fun k => (V 4) (k + 5)) (fun k => (V 4) (k + 8)) (fun k => (V 4) (k + 11)) (fun k => (V 4) (k + 14)))) (w_pl2 o cI cR cS (va_up x 0 (va_up (x 0) 4 ((x 0 4) - 1))) v V 4) (o_fm (w_get2 o cI cR cS (va_up x 0 (va_up (x 0) 4 ((x 0 4) - 1))) v V (j := 4) (by decide)))) (hD.sub (ws' := (wP (fun k => o (k + 5)) cI cR v v (fun k => v (k + 5)) (fun k => v (k + 8)) (fun k => v (k + 11)) (fun k => v (k + 14)) ++ wP (fun k => o (k + 100)) cI cR (V 4) (V 4) (fun k => (V 4) (k + 5)) (fun k => (V 4) (k + 8)) (fun k => (V 4) (k + 11)) (fun k => (V 4) (k + 14)))) (w_pl2 o cI cR cS (va_up x 0 (va_up (x 0) 4 ((x 0 4) - 1))) v V 4) (w_nd2 o cI cR cS (va_up x 0 (va_up (x 0) 4 ((x 0 4) - 1))) v V (j := 4) (by decide)) (w_get2 o cI cR cS (va_up x 0 (va_up (x 0) 4 ((x 0 4) - 1))) v V (j := 4) (by decide)))) (va_recv hK hP (ci := 2) (q0 := 5) rfl rfl)) rfl rfl hl.1 rfl (lv_room (Nat.le_of_ble_eq_true rfl)) dX4_undo_44 ⟨Nat.zero_le _, Nat.zero_le _⟩) hP hD hS hA (w_pl2 o cI cR cS (va_up x 0 (va_up (x 0) 4 ((x 0 4) - 1))) v V 4) (w_nd2 o cI cR cS (va_up x 0 (va_up (x 0) 4 ((x 0 4) - 1))) v V (j := 4) (by decide)) (w_get2 o cI cR cS (va_up x 0 (va_up (x 0) 4 ((x 0 4) - 1))) v V (j := 4) (by decide)) (fun _ => rfl) (fun _ H locs e_28 hP hD hS => ?_)
      have E_29 : o_put (wO o cI cR cS (va_up x 0 (va_up (x 0) 4 ((x 0 4) - 1))) v (wV o cI cR V)) (w_pl2 o cI cR cS (va_up x 0 (va_up (x 0) 4 ((x 0 4) - 1))) v V 4) (wS (fun k => o (k + 5)) cI cR (V 4) ++ wS (fun k => o (k + 100)) cI cR (V 4)) = (wO o cI cR cS (va_up x 0 (va_up (x 0) 4 ((x 0 4) - 1))) (V 4) (wV o cI cR V)) := by exact w_put2 o cI cR cS (va_up x 0 (va_up (x 0) 4 ((x 0 4) - 1))) v (V 4) V (j := 4) (by decide)
      rw [E_29] at hP hD
      refine lv_aload_n hx hb dX4_undo_47 rfl (lv_at hl 0 rfl) ?_
      refine va_get (D := D) (ci := 4) (v := .int (nI ((x 0 4) - 1))) (C := RX4) (T := TX4) (N := 6) hx hb hts inX4_undo_X4 hown hK hP 0 rfl rfl 3 (by decide) (hts (.fieldLink RX4 152 "OddNotice" "savedCount" "I") (List.mem_of_getElem? (i := 3) (by decide +kernel))) (fun _ h9 => h9) rfl dX4_undo_48 ?_
      have w_30 : (wO o cI cR cS (va_up x 0 (va_up (x 0) 4 (x 0 4 - 1))) (V ((x 0 3 + (x 0 4 - 1)) % 6)) (wV o cI cR V)) = (wO o cI cR cS (va_up x 0 (va_up (x 0) 4 ((x 0 4) - 1))) (V 4) (wV o cI cR V)) := (by rw [hj])
      rw [← w_30] at hP
      exact W.iret (v := nI ((x 0 4) - 1)) hx hb hrt (fun t ht hW => ⟨⟨_, (), rfl, (by simp only [if_pos c_25]), by show va_P D vwCl _ t.heap; rw [ht]; exact hP⟩, hS.F ht⟩) hS.2.2 dX4_undo_51
    · skip
      exfalso
      omega
  · skip
    refine lv_aload_n hx hb dX4_undo_0 rfl (lv_at hl 0 rfl) ?_
    refine va_get (D := D) (ci := 4) (v := .int (nI (x 0 4))) (C := RX4) (T := TX4) (N := 6) hx hb hts inX4_undo_X4 hown hK hP 0 rfl rfl 3 (by decide) (hts (.fieldLink RX4 152 "OddNotice" "savedCount" "I") (List.mem_of_getElem? (i := 3) (by decide +kernel))) (fun _ h9 => h9) rfl dX4_undo_1 ?_
    refine o_if_gt (tgt := 17) hx hb dX4_undo_4 (by decide) (by omega) (fun c_31 => ?_) (fun c_31 => ?_)
    · skip
      refine lv_aload_n hx hb dX4_undo_17 rfl (lv_at hl 0 rfl) ?_
      refine lv_dup hx hb dX4_undo_18 rfl ?_
      refine va_get (D := D) (ci := 4) (v := .int (nI (x 0 4))) (C := RX4) (T := TX4) (N := 6) hx hb hts inX4_undo_X4 hown hK hP 0 rfl rfl 3 (by decide) (hts (.fieldLink RX4 152 "OddNotice" "savedCount" "I") (List.mem_of_getElem? (i := 3) (by decide +kernel))) (fun _ h9 => h9) rfl dX4_undo_19 ?_
      refine o_const (k := 1) hx hb dX4_undo_22 (by decide) ?_
      refine o_isub (a := (x 0 4)) (b := 1) (k := ((x 0 4) - 1)) hx hb dX4_undo_23 (by omega) rfl ?_
      refine va_put (D := D) (ci := 4) (v := .int (nI ((x 0 4) - 1))) (ty := .int) (C := RX4) (T := TX4) (N := 6) hx hb hts inX4_undo_X4 tyX4 tyX4_ok nmX4 hown hK hP hD hS 0 rfl rfl 3 (by decide) (hts (.fieldLink RX4 152 "OddNotice" "savedCount" "I") (List.mem_of_getElem? (i := 3) (by decide +kernel))) (fun _ h9 => h9) rfl (by decide +kernel) rfl rfl (Nat.le_of_ble_eq_true rfl) dX4_undo_24 (fun H locs hP hD hS => ?_)
      have hP : va_P D vwCl (wO o cI cR cS (va_up x 0 (va_up (x 0) 4 ((x 0 4) - 1))) v (wV o cI cR V)) H := hP
      have hD : va_D A (wO o cI cR cS (va_up x 0 (va_up (x 0) 4 ((x 0 4) - 1))) v (wV o cI cR V)) := hD
      refine lv_aload_n hx hb dX4_undo_27 rfl (lv_at hl 0 rfl) ?_
      refine va_get (D := D) (ci := 4) (v := .ref (o 5)) (C := RX4) (T := TX4) (N := 6) hx hb hts inX4_undo_X4 hown hK hP 0 rfl rfl 0 (by decide) (hts (.fieldLink RX4 10 "OddNotice" "now" "LOddNotice$State;") (List.mem_of_getElem? (i := 4) (by decide +kernel))) (fun _ h9 => h9) rfl dX4_undo_28 ?_
      refine lv_aload_n hx hb dX4_undo_31 rfl (lv_at hl 0 rfl) ?_
      refine va_get (D := D) (ci := 4) (v := .ref (o 1)) (C := RX4) (T := TX4) (N := 6) hx hb hts inX4_undo_X4 hown hK hP 0 rfl rfl 1 (by decide) (hts (.fieldLink RX4 16 "OddNotice" "saved" "[LOddNotice$State;") (List.mem_of_getElem? (i := 5) (by decide +kernel))) (fun _ h9 => h9) rfl dX4_undo_32 ?_
      refine lv_aload_n hx hb dX4_undo_35 rfl (lv_at hl 0 rfl) ?_
      refine lv_aload_n hx hb dX4_undo_36 rfl (lv_at hl 0 rfl) ?_
      refine va_get (D := D) (ci := 4) (v := .int (nI ((x 0 4) - 1))) (C := RX4) (T := TX4) (N := 6) hx hb hts inX4_undo_X4 hown hK hP 0 rfl rfl 3 (by decide) (hts (.fieldLink RX4 152 "OddNotice" "savedCount" "I") (List.mem_of_getElem? (i := 3) (by decide +kernel))) (fun _ h9 => h9) rfl dX4_undo_37 ?_
      refine o_ri (va_runV (As := [.int (nI ((x 0 4) - 1))]) (rest := [.ref (o 1), .ref (o 5)]) ⟨hx, hb, hml, hown, hts⟩ (k_X4_savedPlace l D cI cR cS cL o (va_up x 0 (va_up (x 0) 4 ((x 0 4) - 1))) v (wV o cI cR V) ((x 0 4) - 1) (by show x 0 3 < 6; first | assumption | omega) (by show ((x 0 4) - 1) ≤ 6; first | assumption | omega)) (cwV 1 hts gX4_undo_X4_savedPlace rfl rfl rfl (by decide +kernel) ⟨Nat.le_of_ble_eq_true rfl, Nat.le_of_ble_eq_true rfl⟩) (o_v (o_pR hK hN hP) (va_recv hK hP (ci := 4) (q0 := 0) rfl rfl)) rfl rfl hl.1 rfl (lv_room (Nat.le_of_ble_eq_true rfl)) dX4_undo_40 ⟨Nat.zero_le _, Nat.zero_le _⟩) (fun r_33 e_32 => ?_)
      have e_32 : r_33 = nI 5 := by rw [e_32]; exact congrArg nI hj
      subst e_32
      refine o_aldq (v := (o 119)) (C := "OddNotice$State") hx hb hK hP 1 2 rfl rfl (Nat.le_of_ble_eq_true rfl) (Nat.le_of_ble_eq_true rfl) rfl dX4_undo_43 ?_
      refine o_wv (va_runV (As := [.ref (o 119)]) (rest := []) ⟨hx, hb, hml, hown, hts⟩ (k_X2_copyFrom l D cI cR cS cL H.size (fun k => o (k + 5)) v (fun k => o (k + 119)) (V 5) b (hSI 5 (by omega)) (by show b < 2 ^ 28; first | assumption | omega)) (cwV 1 hts gX4_undo_X2_copyFrom rfl rfl rfl (by decide +kernel) ⟨Nat.le_of_ble_eq_true rfl, Nat.le_of_ble_eq_true rfl⟩) (o_v (o_pB hK hN (hP.sub (ws' := (wP (fun k => o (k + 5)) cI cR v v (fun k => v (k + 5)) (fun k => v (k + 8)) (fun k => v (k + 11)) (fun k => v (k + 14)) ++ wP (fun k => o (k + 119)) cI cR (V 5) (V 5) (fun k => (V 5) (k + 5)) (fun k => (V 5) (k + 8)) (fun k => (V 5) (k + 11)) (fun k => (V 5) (k + 14)))) (w_pl2 o cI cR cS (va_up x 0 (va_up (x 0) 4 ((x 0 4) - 1))) v V 5) (o_fm (w_get2 o cI cR cS (va_up x 0 (va_up (x 0) 4 ((x 0 4) - 1))) v V (j := 5) (by decide)))) (hD.sub (ws' := (wP (fun k => o (k + 5)) cI cR v v (fun k => v (k + 5)) (fun k => v (k + 8)) (fun k => v (k + 11)) (fun k => v (k + 14)) ++ wP (fun k => o (k + 119)) cI cR (V 5) (V 5) (fun k => (V 5) (k + 5)) (fun k => (V 5) (k + 8)) (fun k => (V 5) (k + 11)) (fun k => (V 5) (k + 14)))) (w_pl2 o cI cR cS (va_up x 0 (va_up (x 0) 4 ((x 0 4) - 1))) v V 5) (w_nd2 o cI cR cS (va_up x 0 (va_up (x 0) 4 ((x 0 4) - 1))) v V (j := 5) (by decide)) (w_get2 o cI cR cS (va_up x 0 (va_up (x 0) 4 ((x 0 4) - 1))) v V (j := 5) (by decide)))) (va_recv hK hP (ci := 2) (q0 := 5) rfl rfl)) rfl rfl hl.1 rfl (lv_room (Nat.le_of_ble_eq_true rfl)) dX4_undo_44 ⟨Nat.zero_le _, Nat.zero_le _⟩) hP hD hS hA (w_pl2 o cI cR cS (va_up x 0 (va_up (x 0) 4 ((x 0 4) - 1))) v V 5) (w_nd2 o cI cR cS (va_up x 0 (va_up (x 0) 4 ((x 0 4) - 1))) v V (j := 5) (by decide)) (w_get2 o cI cR cS (va_up x 0 (va_up (x 0) 4 ((x 0 4) - 1))) v V (j := 5) (by decide)) (fun _ => rfl) (fun _ H locs e_34 hP hD hS => ?_)
      have E_35 : o_put (wO o cI cR cS (va_up x 0 (va_up (x 0) 4 ((x 0 4) - 1))) v (wV o cI cR V)) (w_pl2 o cI cR cS (va_up x 0 (va_up (x 0) 4 ((x 0 4) - 1))) v V 5) (wS (fun k => o (k + 5)) cI cR (V 5) ++ wS (fun k => o (k + 119)) cI cR (V 5)) = (wO o cI cR cS (va_up x 0 (va_up (x 0) 4 ((x 0 4) - 1))) (V 5) (wV o cI cR V)) := by exact w_put2 o cI cR cS (va_up x 0 (va_up (x 0) 4 ((x 0 4) - 1))) v (V 5) V (j := 5) (by decide)
      rw [E_35] at hP hD
      refine lv_aload_n hx hb dX4_undo_47 rfl (lv_at hl 0 rfl) ?_
      refine va_get (D := D) (ci := 4) (v := .int (nI ((x 0 4) - 1))) (C := RX4) (T := TX4) (N := 6) hx hb hts inX4_undo_X4 hown hK hP 0 rfl rfl 3 (by decide) (hts (.fieldLink RX4 152 "OddNotice" "savedCount" "I") (List.mem_of_getElem? (i := 3) (by decide +kernel))) (fun _ h9 => h9) rfl dX4_undo_48 ?_
      have w_36 : (wO o cI cR cS (va_up x 0 (va_up (x 0) 4 (x 0 4 - 1))) (V ((x 0 3 + (x 0 4 - 1)) % 6)) (wV o cI cR V)) = (wO o cI cR cS (va_up x 0 (va_up (x 0) 4 ((x 0 4) - 1))) (V 5) (wV o cI cR V)) := (by rw [hj])
      rw [← w_36] at hP
      exact W.iret (v := nI ((x 0 4) - 1)) hx hb hrt (fun t ht hW => ⟨⟨_, (), rfl, (by simp only [if_pos c_31]), by show va_P D vwCl _ t.heap; rw [ht]; exact hP⟩, hS.F ht⟩) hS.2.2 dX4_undo_51
    · skip
      exfalso
      omega
