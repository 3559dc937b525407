theorem inX4_savedPlace_X4 : ∀ w ∈ wsX40, w ∈ wsX4_savedPlace := by decide +kernel
set_option maxHeartbeats 4000000 in
set_option maxRecDepth 100000 in
theorem k_X4_savedPlace (l : Launch) (D : va_G) (cI cR cS cL : ClassId) (o : Nat → Nat) (x : Nat → Nat → Nat) (v : Nat → Nat → Nat) (tl : va_W) (k : Nat) (h3 : x 0 3 < 6) (hk : k ≤ 6) : Met l yX4_savedPlace wsX4_savedPlace ({ frames := 0, cells := 0, slots := 0, locals := 0 }) (va_Pc [.ref (o 0), .int (nI k)] (o_R D (o_T cI cR cS cL) (wO o cI cR cS x v tl))) (vp_Si (fun rz => rz = nI ((x 0 3 + k) % 6))) 0 0 (fun _ => False) := by
  refine Met.ofW (cc := cX4_savedPlace) (maxL := 2) (ret := (some .int)) (by decide) rfl ?_
  intro p e s m args below meth cd s₁ B hml hv
  obtain ⟨rfl, hP, hK, hN⟩ := hv
  have hx := B.exec
  have hb := B.bytes
  have hrt := B.returns
  have hts := atoms_spec (ws := wsX4_savedPlace) B.pre
  have hown : s.vm.findClass RX4 = some m.cls := findClass_of_methodNamed B.named
  have hlocks := B.notSynchronized
  have hl := lv_entry ([.ref (o 0), .int (nI k)]) (n := 2) (Nat.le_of_ble_eq_true rfl)
  rw [lg_entry_eq]
  generalize (lg_sl ([.ref (o 0), .int (nI k)]) ++ List.replicate (2 - (lg_sl ([.ref (o 0), .int (nI k)])).length) Slot.unset).toArray = ls at hl ⊢
  have hl : lv_has ls 2 [(0, .ref (o 0)), (1, .int (nI k))] := hl
  refine lv_aload_n hx hb dX4_savedPlace_0 rfl (lv_at hl 0 rfl) ?_
  refine va_get (D := D) (ci := 4) (v := .int (nI (x 0 3))) (C := RX4) (T := TX4) (N := 6) hx hb hts inX4_savedPlace_X4 hown hK hP 0 rfl rfl 2 (by decide) (hts (.fieldLink RX4 282 "OddNotice" "oldestSaved" "I") (List.mem_of_getElem? (i := 1) (by decide +kernel))) (fun _ h9 => h9) rfl dX4_savedPlace_1 ?_
  refine lv_iload_n hx hb dX4_savedPlace_4 rfl (lv_at hl 1 rfl) ?_
  refine o_iadd (a := (x 0 3)) (b := k) (k := ((x 0 3) + k)) hx hb dX4_savedPlace_5 rfl ?_
  refine o_bipush (k := 6) hx hb dX4_savedPlace_6 (by decide) ?_
  refine o_irem (a := ((x 0 3) + k)) (b := 6) (k := (((x 0 3) + k) % 6)) hx hb dX4_savedPlace_8 (by omega) (by decide) (Nat.le_of_ble_eq_true rfl) rfl ?_
  exact W.iret (v := nI (((x 0 3) + k) % 6)) hx hb hrt (fun t ht hW => ⟨_, rfl, rfl, ht⟩) (fun _ h => nomatch h) dX4_savedPlace_9
theorem inX4_saveState_X4 : ∀ w ∈ wsX40, w ∈ wsX4_saveState := by decide +kernel
set_option maxHeartbeats 4000000 in
set_option maxRecDepth 100000 in
theorem k_X4_saveState (l : Launch) (D : va_G) (cI cR cS cL : ClassId) (sz : Nat) (o : Nat → Nat) (x : Nat → Nat → Nat) (v : Nat → Nat → Nat) (V : Nat → Nat → Nat → Nat) (b : Nat) (hSI : s_I b v) (hb : b < 2 ^ 28) (h3 : x 0 3 < 6) (h4 : x 0 4 ≤ 6) : Met l yX4_saveState wsX4_saveState ({ frames := 3, cells := 0, slots := 0, locals := 61 }) (va_Pc [.ref (o 0)] (o_B D (o_T cI cR cS cL) (wO o cI cR cS x v (wV o cI cR V)) sz)) (va_Qv (fun (_ : Unit) => True) (fun (_ : Unit) t => va_P D vwCl (wO o cI cR cS (va_up x 0 (c_sv (x 0))) v (wV o cI cR (c_put V ((x 0 3 + x 0 4) % 6) v))) t.heap) (va_A (wO o cI cR cS x v (wV o cI cR V)) sz)) 0 0 (va_A (wO o cI cR cS x v (wV o cI cR V)) sz) := by
  refine Met.ofW (cc := cX4_saveState) (maxL := 1) (ret := none) (by decide) rfl ?_
  intro p e s m args below meth cd s₁ B hml hv
  obtain ⟨rfl, hsz, hP, hK, hD0, hN⟩ := hv
  have hx := B.exec
  have hb := B.bytes
  have hrt := B.returns
  have hts := atoms_spec (ws := wsX4_saveState) B.pre
  have hown : s.vm.findClass RX4 = some m.cls := findClass_of_methodNamed B.named
  have hlocks := B.notSynchronized
  subst hsz
  have hD := hD0.self (sz := s.heap.size)
  generalize hAe : va_A (wO o cI cR cS x v (wV o cI cR V)) s.heap.size = A at hD ⊢
  have hA : ∀ q : Nat, s.heap.size ≤ q → A q := fun q h => by rw [← hAe]; exact Or.inr h
  have hS : va_S A s.heap s.heap [] := va_S.rf
  have hl := lv_entry ([.ref (o 0)]) (n := 1) (Nat.le_of_ble_eq_true rfl)
  rw [lg_entry_eq]
  generalize (lg_sl ([.ref (o 0)]) ++ List.replicate (1 - (lg_sl ([.ref (o 0)])).length) Slot.unset).toArray = ls at hl ⊢
  have hl : lv_has ls 1 [(0, .ref (o 0))] := hl
  have hj6 : (x 0 3 + x 0 4) % 6 < 6 := (by omega); rcases o_lt6 hj6 with hj | hj | hj | hj | hj | hj
  · skip
    refine lv_aload_n hx hb dX4_saveState_0 rfl (lv_at hl 0 rfl) ?_
    refine va_get (D := D) (ci := 4) (v := .ref (o 1)) (C := RX4) (T := TX4) (N := 6) hx hb hts inX4_saveState_X4 hown hK hP 0 rfl rfl 1 (by decide) (hts (.fieldLink RX4 16 "OddNotice" "saved" "[LOddNotice$State;") (List.mem_of_getElem? (i := 1) (by decide +kernel))) (fun _ h9 => h9) rfl dX4_saveState_1 ?_
    refine lv_aload_n hx hb dX4_saveState_4 rfl (lv_at hl 0 rfl) ?_
    refine lv_aload_n hx hb dX4_saveState_5 rfl (lv_at hl 0 rfl) ?_
    refine va_get (D := D) (ci := 4) (v := .int (nI (x 0 4))) (C := RX4) (T := TX4) (N := 6) hx hb hts inX4_saveState_X4 hown hK hP 0 rfl rfl 3 (by decide) (hts (.fieldLink RX4 152 "OddNotice" "savedCount" "I") (List.mem_of_getElem? (i := 2) (by decide +kernel))) (fun _ h9 => h9) rfl dX4_saveState_6 ?_
    refine o_ri (va_runV (As := [.int (nI (x 0 4))]) (rest := [.ref (o 1)]) ⟨hx, hb, hml, hown, hts⟩ (k_X4_savedPlace l D cI cR cS cL o x v (wV o cI cR V) (x 0 4) (by show x 0 3 < 6; first | assumption | omega) (by show (x 0 4) ≤ 6; first | assumption | omega)) (cwV 1 hts gX4_saveState_X4_savedPlace rfl rfl rfl (by decide +kernel) ⟨Nat.le_of_ble_eq_true rfl, Nat.le_of_ble_eq_true rfl⟩) (o_v (o_pR hK hN hP) (va_recv hK hP (ci := 4) (q0 := 0) rfl rfl)) rfl rfl hl.1 rfl (lv_room (Nat.le_of_ble_eq_true rfl)) dX4_saveState_9 ⟨Nat.zero_le _, Nat.zero_le _⟩) (fun r_2 e_1 => ?_)
    have e_1 : r_2 = nI 0 := by rw [e_1, hj]
    subst e_1
    refine o_aldq (v := (o 24)) (C := "OddNotice$State") hx hb hK hP 1 2 rfl rfl (Nat.le_of_ble_eq_true rfl) (Nat.le_of_ble_eq_true rfl) rfl dX4_saveState_12 ?_
    refine lv_aload_n hx hb dX4_saveState_13 rfl (lv_at hl 0 rfl) ?_
    refine va_get (D := D) (ci := 4) (v := .ref (o 5)) (C := RX4) (T := TX4) (N := 6) hx hb hts inX4_saveState_X4 hown hK hP 0 rfl rfl 0 (by decide) (hts (.fieldLink RX4 10 "OddNotice" "now" "LOddNotice$State;") (List.mem_of_getElem? (i := 3) (by decide +kernel))) (fun _ h9 => h9) rfl dX4_saveState_14 ?_
    refine o_wv (va_runV (As := [.ref (o 5)]) (rest := []) ⟨hx, hb, hml, hown, hts⟩ (k_X2_copyFrom l D cI cR cS cL s.heap.size (fun k => o (k + 24)) (V 0) (fun k => o (k + 5)) v b (by show s_I b v; first | assumption | omega) (by show b < 2 ^ 28; first | assumption | omega)) (cwV 1 hts gX4_saveState_X2_copyFrom rfl rfl rfl (by decide +kernel) ⟨Nat.le_of_ble_eq_true rfl, Nat.le_of_ble_eq_true rfl⟩) (o_v (o_pB hK hN (hP.sub (ws' := (wP (fun k => o (k + 24)) cI cR (V 0) (V 0) (fun k => (V 0) (k + 5)) (fun k => (V 0) (k + 8)) (fun k => (V 0) (k + 11)) (fun k => (V 0) (k + 14)) ++ wP (fun k => o (k + 5)) cI cR v v (fun k => v (k + 5)) (fun k => v (k + 8)) (fun k => v (k + 11)) (fun k => v (k + 14)))) (w_pl o cI cR cS x v V 0) (o_fm (w_get o cI cR cS x v V (j := 0) (by decide)))) (hD.sub (ws' := (wP (fun k => o (k + 24)) cI cR (V 0) (V 0) (fun k => (V 0) (k + 5)) (fun k => (V 0) (k + 8)) (fun k => (V 0) (k + 11)) (fun k => (V 0) (k + 14)) ++ wP (fun k => o (k + 5)) cI cR v v (fun k => v (k + 5)) (fun k => v (k + 8)) (fun k => v (k + 11)) (fun k => v (k + 14)))) (w_pl o cI cR cS x v V 0) (w_nd o cI cR cS x v V (j := 0) (by decide)) (w_get o cI cR cS x v V (j := 0) (by decide)))) (va_recv hK hP (ci := 2) (q0 := 24) rfl rfl)) rfl rfl hl.1 rfl (lv_room (Nat.le_of_ble_eq_true rfl)) dX4_saveState_17 ⟨Nat.zero_le _, Nat.zero_le _⟩) hP hD hS hA (w_pl o cI cR cS x v V 0) (w_nd o cI cR cS x v V (j := 0) (by decide)) (w_get o cI cR cS x v V (j := 0) (by decide)) (fun _ => rfl) (fun _ H locs e_3 hP hD hS => ?_)
    have E_4 : o_put (wO o cI cR cS x v (wV o cI cR V)) (w_pl o cI cR cS x v V 0) (wS (fun k => o (k + 24)) cI cR v ++ wS (fun k => o (k + 5)) cI cR v) = (wO o cI cR cS x v (wV o cI cR (c_put V 0 v))) := by exact w_put o cI cR cS x v v v V (j := 0) (by decide)
    rw [E_4] at hP hD
    refine lv_aload_n hx hb dX4_saveState_20 rfl (lv_at hl 0 rfl) ?_
    refine va_get (D := D) (ci := 4) (v := .int (nI (x 0 4))) (C := RX4) (T := TX4) (N := 6) hx hb hts inX4_saveState_X4 hown hK hP 0 rfl rfl 3 (by decide) (hts (.fieldLink RX4 152 "OddNotice" "savedCount" "I") (List.mem_of_getElem? (i := 2) (by decide +kernel))) (fun _ h9 => h9) rfl dX4_saveState_21 ?_
    refine o_bipush (k := 6) hx hb dX4_saveState_24 (by decide) ?_
    refine o_icmp_ge (tgt := 42) hx hb dX4_saveState_26 (by decide) (by omega) (Nat.le_of_ble_eq_true rfl) (fun c_5 => ?_) (fun c_5 => ?_)
    · skip
      refine lv_aload_n hx hb dX4_saveState_42 rfl (lv_at hl 0 rfl) ?_
      refine lv_aload_n hx hb dX4_saveState_43 rfl (lv_at hl 0 rfl) ?_
      refine o_const (k := 1) hx hb dX4_saveState_44 (by decide) ?_
      refine o_ri (va_runV (As := [.int (nI 1)]) (rest := [.ref (o 0)]) ⟨hx, hb, hml, hown, hts⟩ (k_X4_savedPlace l D cI cR cS cL o x v (wV o cI cR (c_put V 0 v)) 1 (by show x 0 3 < 6; first | assumption | omega) (by show 1 ≤ 6; first | assumption | omega)) (cwV 1 hts gX4_saveState_X4_savedPlace rfl rfl rfl (by decide +kernel) ⟨Nat.le_of_ble_eq_true rfl, Nat.le_of_ble_eq_true rfl⟩) (o_v (o_pR hK hN hP) (va_recv hK hP (ci := 4) (q0 := 0) rfl rfl)) rfl rfl hl.1 rfl (lv_room (Nat.le_of_ble_eq_true rfl)) dX4_saveState_45 ⟨Nat.zero_le _, Nat.zero_le _⟩) (fun r_7 e_6 => ?_)
      have e_6 : r_7 = nI ((x 0 3 + 1) % 6) := e_6
      subst e_6
      refine va_put (D := D) (ci := 4) (v := .int (nI ((x 0 3 + 1) % 6))) (ty := .int) (C := RX4) (T := TX4) (N := 6) hx hb hts inX4_saveState_X4 tyX4 tyX4_ok nmX4 hown hK hP hD hS 0 rfl rfl 2 (by decide) (hts (.fieldLink RX4 282 "OddNotice" "oldestSaved" "I") (List.mem_of_getElem? (i := 4) (by decide +kernel))) (fun _ h9 => h9) rfl (by decide +kernel) rfl rfl (Nat.le_of_ble_eq_true rfl) dX4_saveState_48 (fun H locs hP hD hS => ?_)
      have hP : va_P D vwCl (wO o cI cR cS (va_up x 0 (va_up (x 0) 3 ((x 0 3 + 1) % 6))) v (wV o cI cR (c_put V 0 v))) H := hP
      have hD : va_D A (wO o cI cR cS (va_up x 0 (va_up (x 0) 3 ((x 0 3 + 1) % 6))) v (wV o cI cR (c_put V 0 v))) := hD
      have w_8 : (wO o cI cR cS (va_up x 0 (c_sv (x 0))) v (wV o cI cR (c_put V ((x 0 3 + x 0 4) % 6) v))) = (wO o cI cR cS (va_up x 0 (va_up (x 0) 3 ((x 0 3 + 1) % 6))) v (wV o cI cR (c_put V 0 v))) := (by rw [hj, show c_sv (x 0) = _ from if_neg c_5])
      rw [← w_8] at hP
      exact W.vret hx hb hrt (fun t ht hW => ⟨⟨(), rfl, trivial, by show va_P D vwCl _ t.heap; rw [ht]; exact hP⟩, hS.F ht⟩) hS.2.2 dX4_saveState_51
    · skip
      refine lv_aload_n hx hb dX4_saveState_29 rfl (lv_at hl 0 rfl) ?_
      refine lv_dup hx hb dX4_saveState_30 rfl ?_
      refine va_get (D := D) (ci := 4) (v := .int (nI (x 0 4))) (C := RX4) (T := TX4) (N := 6) hx hb hts inX4_saveState_X4 hown hK hP 0 rfl rfl 3 (by decide) (hts (.fieldLink RX4 152 "OddNotice" "savedCount" "I") (List.mem_of_getElem? (i := 2) (by decide +kernel))) (fun _ h9 => h9) rfl dX4_saveState_31 ?_
      refine o_const (k := 1) hx hb dX4_saveState_34 (by decide) ?_
      refine o_iadd (a := (x 0 4)) (b := 1) (k := ((x 0 4) + 1)) hx hb dX4_saveState_35 rfl ?_
      refine va_put (D := D) (ci := 4) (v := .int (nI ((x 0 4) + 1))) (ty := .int) (C := RX4) (T := TX4) (N := 6) hx hb hts inX4_saveState_X4 tyX4 tyX4_ok nmX4 hown hK hP hD hS 0 rfl rfl 3 (by decide) (hts (.fieldLink RX4 152 "OddNotice" "savedCount" "I") (List.mem_of_getElem? (i := 2) (by decide +kernel))) (fun _ h9 => h9) rfl (by decide +kernel) rfl rfl (Nat.le_of_ble_eq_true rfl) dX4_saveState_36 (fun H locs hP hD hS => ?_)
      have hP : va_P D vwCl (wO o cI cR cS (va_up x 0 (va_up (x 0) 4 ((x 0 4) + 1))) v (wV o cI cR (c_put V 0 v))) H := hP
      have hD : va_D A (wO o cI cR cS (va_up x 0 (va_up (x 0) 4 ((x 0 4) + 1))) v (wV o cI cR (c_put V 0 v))) := hD
      refine lv_goto (tgt := 51) hx hb dX4_saveState_39 (by decide) ?_
      have w_9 : (wO o cI cR cS (va_up x 0 (c_sv (x 0))) v (wV o cI cR (c_put V ((x 0 3 + x 0 4) % 6) v))) = (wO o cI cR cS (va_up x 0 (va_up (x 0) 4 ((x 0 4) + 1))) v (wV o cI cR (c_put V 0 v))) := (by rw [hj, show c_sv (x 0) = _ from if_pos c_5])
      rw [← w_9] at hP
      exact W.vret hx hb hrt (fun t ht hW => ⟨⟨(), rfl, trivial, by show va_P D vwCl _ t.heap; rw [ht]; exact hP⟩, hS.F ht⟩) hS.2.2 dX4_saveState_51
  · skip
    refine lv_aload_n hx hb dX4_saveState_0 rfl (lv_at hl 0 rfl) ?_
    refine va_get (D := D) (ci := 4) (v := .ref (o 1)) (C := RX4) (T := TX4) (N := 6) hx hb hts inX4_saveState_X4 hown hK hP 0 rfl rfl 1 (by decide) (hts (.fieldLink RX4 16 "OddNotice" "saved" "[LOddNotice$State;") (List.mem_of_getElem? (i := 1) (by decide +kernel))) (fun _ h9 => h9) rfl dX4_saveState_1 ?_
    refine lv_aload_n hx hb dX4_saveState_4 rfl (lv_at hl 0 rfl) ?_
    refine lv_aload_n hx hb dX4_saveState_5 rfl (lv_at hl 0 rfl) ?_
    refine va_get (D := D) (ci := 4) (v := .int (nI (x 0 4))) (C := RX4) (T := TX4) (N := 6) hx hb hts inX4_saveState_X4 hown hK hP 0 rfl rfl 3 (by decide) (hts (.fieldLink RX4 152 "OddNotice" "savedCount" "I") (List.mem_of_getElem? (i := 2) (by decide +kernel))) (fun _ h9 => h9) rfl dX4_saveState_6 ?_
    refine o_ri (va_runV (As := [.int (nI (x 0 4))]) (rest := [.ref (o 1)]) ⟨hx, hb, hml, hown, hts⟩ (k_X4_savedPlace l D cI cR cS cL o x v (wV o cI cR V) (x 0 4) (by show x 0 3 < 6; first | assumption | omega) (by show (x 0 4) ≤ 6; first | assumption | omega)) (cwV 1 hts gX4_saveState_X4_savedPlace rfl rfl rfl (by decide +kernel) ⟨Nat.le_of_ble_eq_true rfl, Nat.le_of_ble_eq_true rfl⟩) (o_v (o_pR hK hN hP) (va_recv hK hP (ci := 4) (q0 := 0) rfl rfl)) rfl rfl hl.1 rfl (lv_room (Nat.le_of_ble_eq_true rfl)) dX4_saveState_9 ⟨Nat.zero_le _, Nat.zero_le _⟩) (fun r_11 e_10 => ?_)
    have e_10 : r_11 = nI 1 := by rw [e_10, hj]
    subst e_10
    refine o_aldq (v := (o 43)) (C := "OddNotice$State") hx hb hK hP 1 2 rfl rfl (Nat.le_of_ble_eq_true rfl) (Nat.le_of_ble_eq_true rfl) rfl dX4_saveState_12 ?_
    refine lv_aload_n hx hb dX4_saveState_13 rfl (lv_at hl 0 rfl) ?_
    refine va_get (D := D) (ci := 4) (v := .ref (o 5)) (C := RX4) (T := TX4) (N := 6) hx hb hts inX4_saveState_X4 hown hK hP 0 rfl rfl 0 (by decide) (hts (.fieldLink RX4 10 "OddNotice" "now" "LOddNotice$State;") (List.mem_of_getElem? (i := 3) (by decide +kernel))) (fun _ h9 => h9) rfl dX4_saveState_14 ?_
    refine o_wv (va_runV (As := [.ref (o 5)]) (rest := []) ⟨hx, hb, hml, hown, hts⟩ (k_X2_copyFrom l D cI cR cS cL s.heap.size (fun k => o (k + 43)) (V 1) (fun k => o (k + 5)) v b (by show s_I b v; first | assumption | omega) (by show b < 2 ^ 28; first | assumption | omega)) (cwV 1 hts gX4_saveState_X2_copyFrom rfl rfl rfl (by decide +kernel) ⟨Nat.le_of_ble_eq_true rfl, Nat.le_of_ble_eq_true rfl⟩) (o_v (o_pB hK hN (hP.sub (ws' := (wP (fun k => o (k + 43)) cI cR (V 1) (V 1) (fun k => (V 1) (k + 5)) (fun k => (V 1) (k + 8)) (fun k => (V 1) (k + 11)) (fun k => (V 1) (k + 14)) ++ wP (fun k => o (k + 5)) cI cR v v (fun k => v (k + 5)) (fun k => v (k + 8)) (fun k => v (k + 11)) (fun k => v (k + 14)))) (w_pl o cI cR cS x v V 1) (o_fm (w_get o cI cR cS x v V (j := 1) (by decide)))) (hD.sub (ws' := (wP (fun k => o (k + 43)) cI cR (V 1) (V 1) (fun k => (V 1) (k + 5)) (fun k => (V 1) (k + 8)) (fun k => (V 1) (k + 11)) (fun k => (V 1) (k + 14)) ++ wP (fun k => o (k + 5)) cI cR v v (fun k => v (k + 5)) (fun k => v (k + 8)) (fun k => v (k + 11)) (fun k => v (k + 14)))) (w_pl o cI cR cS x v V 1) (w_nd o cI cR cS x v V (j := 1) (by decide)) (w_get o cI cR cS x v V (j := 1) (by decide)))) (va_recv hK hP (ci := 2) (q0 := 43) rfl rfl)) rfl rfl hl.1 rfl (lv_room (Nat.le_of_ble_eq_true rfl)) dX4_saveState_17 ⟨Nat.zero_le _, Nat.zero_le _⟩) hP hD hS hA (w_pl o cI cR cS x v V 1) (w_nd o cI cR cS x v V (j := 1) (by decide)) (w_get o cI cR cS x v V (j := 1) (by decide)) (fun _ => rfl) (fun _ H locs e_12 hP hD hS => ?_)
    have E_13 : o_put (wO o cI cR cS x v (wV o cI cR V)) (w_pl o cI cR cS x v V 1) (wS (fun k => o (k + 43)) cI cR v ++ wS (fun k => o (k + 5)) cI cR v) = (wO o cI cR cS x v (wV o cI cR (c_put V 1 v))) := by exact w_put o cI cR cS x v v v V (j := 1) (by decide)
    rw [E_13] at hP hD
    refine lv_aload_n hx hb dX4_saveState_20 rfl (lv_at hl 0 rfl) ?_
    refine va_get (D := D) (ci := 4) (v := .int (nI (x 0 4))) (C := RX4) (T := TX4) (N := 6) hx hb hts inX4_saveState_X4 hown hK hP 0 rfl rfl 3 (by decide) (hts (.fieldLink RX4 152 "OddNotice" "savedCount" "I") (List.mem_of_getElem? (i := 2) (by decide +kernel))) (fun _ h9 => h9) rfl dX4_saveState_21 ?_
    refine o_bipush (k := 6) hx hb dX4_saveState_24 (by decide) ?_
    refine o_icmp_ge (tgt := 42) hx hb dX4_saveState_26 (by decide) (by omega) (Nat.le_of_ble_eq_true rfl) (fun c_14 => ?_) (fun c_14 => ?_)
    · skip
      refine lv_aload_n hx hb dX4_saveState_42 rfl (lv_at hl 0 rfl) ?_
      refine lv_aload_n hx hb dX4_saveState_43 rfl (lv_at hl 0 rfl) ?_
      refine o_const (k := 1) hx hb dX4_saveState_44 (by decide) ?_
      refine o_ri (va_runV (As := [.int (nI 1)]) (rest := [.ref (o 0)]) ⟨hx, hb, hml, hown, hts⟩ (k_X4_savedPlace l D cI cR cS cL o x v (wV o cI cR (c_put V 1 v)) 1 (by show x 0 3 < 6; first | assumption | omega) (by show 1 ≤ 6; first | assumption | omega)) (cwV 1 hts gX4_saveState_X4_savedPlace rfl rfl rfl (by decide +kernel) ⟨Nat.le_of_ble_eq_true rfl, Nat.le_of_ble_eq_true rfl⟩) (o_v (o_pR hK hN hP) (va_recv hK hP (ci := 4) (q0 := 0) rfl rfl)) rfl rfl hl.1 rfl (lv_room (Nat.le_of_ble_eq_true rfl)) dX4_saveState_45 ⟨Nat.zero_le _, Nat.zero_le _⟩) (fun r_16 e_15 => ?_)
      have e_15 : r_16 = nI ((x 0 3 + 1) % 6) := e_15
      subst e_15
      refine va_put (D := D) (ci := 4) (v := .int (nI ((x 0 3 + 1) % 6))) (ty := .int) (C := RX4) (T := TX4) (N := 6) hx hb hts inX4_saveState_X4 tyX4 tyX4_ok nmX4 hown hK hP hD hS 0 rfl rfl 2 (by decide) (hts (.fieldLink RX4 282 "OddNotice" "oldestSaved" "I") (List.mem_of_getElem? (i := 4) (by decide +kernel))) (fun _ h9 => h9) rfl (by decide +kernel) rfl rfl (Nat.le_of_ble_eq_true rfl) dX4_saveState_48 (fun H locs hP hD hS => ?_)
      have hP : va_P D vwCl (wO o cI cR cS (va_up x 0 (va_up (x 0) 3 ((x 0 3 + 1) % 6))) v (wV o cI cR (c_put V 1 v))) H := hP
      have hD : va_D A (wO o cI cR cS (va_up x 0 (va_up (x 0) 3 ((x 0 3 + 1) % 6))) v (wV o cI cR (c_put V 1 v))) := hD
      have w_17 : (wO o cI cR cS (va_up x 0 (c_sv (x 0))) v (wV o cI cR (c_put V ((x 0 3 + x 0 4) % 6) v))) = (wO o cI cR cS (va_up x 0 (va_up (x 0) 3 ((x 0 3 + 1) % 6))) v (wV o cI cR (c_put V 1 v))) := (by rw [hj, show c_sv (x 0) = _ from if_neg c_14])
      rw [← w_17] at hP
      exact W.vret hx hb hrt (fun t ht hW => ⟨⟨(), rfl, trivial, by show va_P D vwCl _ t.heap; rw [ht]; exact hP⟩, hS.F ht⟩) hS.2.2 dX4_saveState_51
    · skip
      refine lv_aload_n hx hb dX4_saveState_29 rfl (lv_at hl 0 rfl) ?_
      refine lv_dup hx hb dX4_saveState_30 rfl ?_
      refine va_get (D := D) (ci := 4) (v := .int (nI (x 0 4))) (C := RX4) (T := TX4) (N := 6) hx hb hts inX4_saveState_X4 hown hK hP 0 rfl rfl 3 (by decide) (hts (.fieldLink RX4 152 "OddNotice" "savedCount" "I") (List.mem_of_getElem? (i := 2) (by decide +kernel))) (fun _ h9 => h9) rfl dX4_saveState_31 ?_
      refine o_const (k := 1) hx hb dX4_saveState_34 (by decide) ?_
      refine o_iadd (a := (x 0 4)) (b := 1) (k := ((x 0 4) + 1)) hx hb dX4_saveState_35 rfl ?_
      refine va_put (D := D) (ci := 4) (v := .int (nI ((x 0 4) + 1))) (ty := .int) (C := RX4) (T := TX4) (N := 6) hx hb hts inX4_saveState_X4 tyX4 tyX4_ok nmX4 hown hK hP hD hS 0 rfl rfl 3 (by decide) (hts (.fieldLink RX4 152 "OddNotice" "savedCount" "I") (List.mem_of_getElem? (i := 2) (by decide +kernel))) (fun _ h9 => h9) rfl (by decide +kernel) rfl rfl (Nat.le_of_ble_eq_true rfl) dX4_saveState_36 (fun H locs hP hD hS => ?_)
      have hP : va_P D vwCl (wO o cI cR cS (va_up x 0 (va_up (x 0) 4 ((x 0 4) + 1))) v (wV o cI cR (c_put V 1 v))) H := hP
      have hD : va_D A (wO o cI cR cS (va_up x 0 (va_up (x 0) 4 ((x 0 4) + 1))) v (wV o cI cR (c_put V 1 v))) := hD
      refine lv_goto (tgt := 51) hx hb dX4_saveState_39 (by decide) ?_
      have w_18 : (wO o cI cR cS (va_up x 0 (c_sv (x 0))) v (wV o cI cR (c_put V ((x 0 3 + x 0 4) % 6) v))) = (wO o cI cR cS (va_up x 0 (va_up (x 0) 4 ((x 0 4) + 1))) v (wV o cI cR (c_put V 1 v))) := (by rw [hj, show c_sv (x 0) = _ from if_pos c_14])
      rw [← w_18] at hP
      exact W.vret hx hb hrt (fun t ht hW => ⟨⟨(), rfl, trivial, by show va_P D vwCl _ t.heap; rw [ht]; exact hP⟩, hS.F ht⟩) hS.2.2 dX4_saveState_51
  · skip
    refine lv_aload_n hx hb dX4_saveState_0 rfl (lv_at hl 0 rfl) ?_
    refine va_get (D := D) (ci := 4) (v := .ref (o 1)) (C := RX4) (T := TX4) (N := 6) hx hb hts inX4_saveState_X4 hown hK hP 0 rfl rfl 1 (by decide) (hts (.fieldLink RX4 16 "OddNotice" "saved" "[LOddNotice$State;") (List.mem_of_getElem? (i := 1) (by decide +kernel))) (fun _ h9 => h9) rfl dX4_saveState_1 ?_
    refine lv_aload_n hx hb dX4_saveState_4 rfl (lv_at hl 0 rfl) ?_
    refine lv_aload_n hx hb dX4_saveState_5 rfl (lv_at hl 0 rfl) ?_
    refine va_get (D := D) (ci := 4) (v := .int (nI (x 0 4))) (C := RX4) (T := TX4) (N := 6) hx hb hts inX4_saveState_X4 hown hK hP 0 rfl rfl 3 (by decide) (hts (.fieldLink RX4 152 "OddNotice" "savedCount" "I") (List.mem_of_getElem? (i := 2) (by decide +kernel))) (fun _ h9 => h9) rfl dX4_saveState_6 ?_
    refine o_ri (va_runV (As := [.int (nI (x 0 4))]) (rest := [.ref (o 1)]) ⟨hx, hb, hml, hown, hts⟩ (k_X4_savedPlace l D cI cR cS cL o x v (wV o cI cR V) (x 0 4) (by show x 0 3 < 6; first | assumption | omega) (by show (x 0 4) ≤ 6; first | assumption | omega)) (cwV 1 hts gX4_saveState_X4_savedPlace rfl rfl rfl (by decide +kernel) ⟨Nat.le_of_ble_eq_true rfl, Nat.le_of_ble_eq_true rfl⟩) (o_v (o_pR hK hN hP) (va_recv hK hP (ci := 4) (q0 := 0) rfl rfl)) rfl rfl hl.1 rfl (lv_room (Nat.le_of_ble_eq_true rfl)) dX4_saveState_9 ⟨Nat.zero_le _, Nat.zero_le _⟩) (fun r_20 e_19 => ?_)
    have e_19 : r_20 = nI 2 := by rw [e_19, hj]
    subst e_19
    refine o_aldq (v := (o 62)) (C := "OddNotice$State") hx hb hK hP 1 2 rfl rfl (Nat.le_of_ble_eq_true rfl) (Nat.le_of_ble_eq_true rfl) rfl dX4_saveState_12 ?_
    refine lv_aload_n hx hb dX4_saveState_13 rfl (lv_at hl 0 rfl) ?_
    refine va_get (D := D) (ci := 4) (v := .ref (o 5)) (C := RX4) (T := TX4) (N := 6) hx hb hts inX4_saveState_X4 hown hK hP 0 rfl rfl 0 (by decide) (hts (.fieldLink RX4 10 "OddNotice" "now" "LOddNotice$State;") (List.mem_of_getElem? (i := 3) (by decide +kernel))) (fun _ h9 => h9) rfl dX4_saveState_14 ?_
    refine o_wv (va_runV (As := [.ref (o 5)]) (rest := []) ⟨hx, hb, hml, hown, hts⟩ (k_X2_copyFrom l D cI cR cS cL s.heap.size (fun k => o (k + 62)) (V 2) (fun k => o (k + 5)) v b (by show s_I b v; first | assumption | omega) (by show b < 2 ^ 28; first | assumption | omega)) (cwV 1 hts gX4_saveState_X2_copyFrom rfl rfl rfl (by decide +kernel) ⟨Nat.le_of_ble_eq_true rfl, Nat.le_of_ble_eq_true rfl⟩) (o_v (o_pB hK hN (hP.sub (ws' := (wP (fun k => o (k + 62)) cI cR (V 2) (V 2) (fun k => (V 2) (k + 5)) (fun k => (V 2) (k + 8)) (fun k => (V 2) (k + 11)) (fun k => (V 2) (k + 14)) ++ wP (fun k => o (k + 5)) cI cR v v (fun k => v (k + 5)) (fun k => v (k + 8)) (fun k => v (k + 11)) (fun k => v (k + 14)))) (w_pl o cI cR cS x v V 2) (o_fm (w_get o cI cR cS x v V (j := 2) (by decide)))) (hD.sub (ws' := (wP (fun k => o (k + 62)) cI cR (V 2) (V 2) (fun k => (V 2) (k + 5)) (fun k => (V 2) (k + 8)) (fun k => (V 2) (k + 11)) (fun k => (V 2) (k + 14)) ++ wP (fun k => o (k + 5)) cI cR v v (fun k => v (k + 5)) (fun k => v (k + 8)) (fun k => v (k + 11)) (fun k => v (k + 14)))) (w_pl o cI cR cS x v V 2) (w_nd o cI cR cS x v V (j := 2) (by decide)) (w_get o cI cR cS x v V (j := 2) (by decide)))) (va_recv hK hP (ci := 2) (q0 := 62) rfl rfl)) rfl rfl hl.1 rfl (lv_room (Nat.le_of_ble_eq_true rfl)) dX4_saveState_17 ⟨Nat.zero_le _, Nat.zero_le _⟩) hP hD hS hA (w_pl o cI cR cS x v V 2) (w_nd o cI cR cS x v V (j := 2) (by decide)) (w_get o cI cR cS x v V (j := 2) (by decide)) (fun _ => rfl) (fun _ H locs e_21 hP hD hS => ?_)
    have E_22 : o_put (wO o cI cR cS x v (wV o cI cR V)) (w_pl o cI cR cS x v V 2) (wS (fun k => o (k + 62)) cI cR v ++ wS (fun k => o (k + 5)) cI cR v) = (wO o cI cR cS x v (wV o cI cR (c_put V 2 v))) := by exact w_put o cI cR cS x v v v V (j := 2) (by decide)
    rw [E_22] at hP hD
    refine lv_aload_n hx hb dX4_saveState_20 rfl (lv_at hl 0 rfl) ?_
    refine va_get (D := D) (ci := 4) (v := .int (nI (x 0 4))) (C := RX4) (T := TX4) (N := 6) hx hb hts inX4_saveState_X4 hown hK hP 0 rfl rfl 3 (by decide) (hts (.fieldLink RX4 152 "OddNotice" "savedCount" "I") (List.mem_of_getElem? (i := 2) (by decide +kernel))) (fun _ h9 => h9) rfl dX4_saveState_21 ?_
    refine o_bipush (k := 6) hx hb dX4_saveState_24 (by decide) ?_
    refine o_icmp_ge (tgt := 42) hx hb dX4_saveState_26 (by decide) (by omega) (Nat.le_of_ble_eq_true rfl) (fun c_23 => ?_) (fun c_23 => ?_)
    · skip
      refine lv_aload_n hx hb dX4_saveState_42 rfl (lv_at hl 0 rfl) ?_
      refine lv_aload_n hx hb dX4_saveState_43 rfl (lv_at hl 0 rfl) ?_
      refine o_const (k := 1) hx hb dX4_saveState_44 (by decide) ?_
      refine o_ri (va_runV (As := [.int (nI 1)]) (rest := [.ref (o 0)]) ⟨hx, hb, hml, hown, hts⟩ (k_X4_savedPlace l D cI cR cS cL o x v (wV o cI cR (c_put V 2 v)) 1 (by show x 0 3 < 6; first | assumption | omega) (by show 1 ≤ 6; first | assumption | omega)) (cwV 1 hts gX4_saveState_X4_savedPlace rfl rfl rfl (by decide +kernel) ⟨Nat.le_of_ble_eq_true rfl, Nat.le_of_ble_eq_true rfl⟩) (o_v (o_pR hK hN hP) (va_recv hK hP (ci := 4) (q0 := 0) rfl rfl)) rfl rfl hl.1 rfl (lv_room (Nat.le_of_ble_eq_true rfl)) dX4_saveState_45 ⟨Nat.zero_le _, Nat.zero_le _⟩) (fun r_25 e_24 => ?_)
      have e_24 : r_25 = nI ((x 0 3 + 1) % 6) := e_24
      subst e_24
      refine va_put (D := D) (ci := 4) (v := .int (nI ((x 0 3 + 1) % 6))) (ty := .int) (C := RX4) (T := TX4) (N := 6) hx hb hts inX4_saveState_X4 tyX4 tyX4_ok nmX4 hown hK hP hD hS 0 rfl rfl 2 (by decide) (hts (.fieldLink RX4 282 "OddNotice" "oldestSaved" "I") (List.mem_of_getElem? (i := 4) (by decide +kernel))) (fun _ h9 => h9) rfl (by decide +kernel) rfl rfl (Nat.le_of_ble_eq_true rfl) dX4_saveState_48 (fun H locs hP hD hS => ?_)
      have hP : va_P D vwCl (wO o cI cR cS (va_up x 0 (va_up (x 0) 3 ((x 0 3 + 1) % 6))) v (wV o cI cR (c_put V 2 v))) H := hP
      have hD : va_D A (wO o cI cR cS (va_up x 0 (va_up (x 0) 3 ((x 0 3 + 1) % 6))) v (wV o cI cR (c_put V 2 v))) := hD
      have w_26 : (wO o cI cR cS (va_up x 0 (c_sv (x 0))) v (wV o cI cR (c_put V ((x 0 3 + x 0 4) % 6) v))) = (wO o cI cR cS (va_up x 0 (va_up (x 0) 3 ((x 0 3 + 1) % 6))) v (wV o cI cR (c_put V 2 v))) := (by rw [hj, show c_sv (x 0) = _ from if_neg c_23])
      rw [← w_26] at hP
      exact W.vret hx hb hrt (fun t ht hW => ⟨⟨(), rfl, trivial, by show va_P D vwCl _ t.heap; rw [ht]; exact hP⟩, hS.F ht⟩) hS.2.2 dX4_saveState_51
    · skip
      refine lv_aload_n hx hb dX4_saveState_29 rfl (lv_at hl 0 rfl) ?_
      refine lv_dup hx hb dX4_saveState_30 rfl ?_
      refine va_get (D := D) (ci := 4) (v := .int (nI (x 0 4))) (C := RX4) (T := TX4) (N := 6) hx hb hts inX4_saveState_X4 hown hK hP 0 rfl rfl 3 (by decide) (hts (.fieldLink RX4 152 "OddNotice" "savedCount" "I") (List.mem_of_getElem? (i := 2) (by decide +kernel))) (fun _ h9 => h9) rfl dX4_saveState_31 ?_
      refine o_const (k := 1) hx hb dX4_saveState_34 (by decide) ?_
      refine o_iadd (a := (x 0 4)) (b := 1) (k := ((x 0 4) + 1)) hx hb dX4_saveState_35 rfl ?_
      refine va_put (D := D) (ci := 4) (v := .int (nI ((x 0 4) + 1))) (ty := .int) (C := RX4) (T := TX4) (N := 6) hx hb hts inX4_saveState_X4 tyX4 tyX4_ok nmX4 hown hK hP hD hS 0 rfl rfl 3 (by decide) (hts (.fieldLink RX4 152 "OddNotice" "savedCount" "I") (List.mem_of_getElem? (i := 2) (by decide +kernel))) (fun _ h9 => h9) rfl (by decide +kernel) rfl rfl (Nat.le_of_ble_eq_true rfl) dX4_saveState_36 (fun H locs hP hD hS => ?_)
      have hP : va_P D vwCl (wO o cI cR cS (va_up x 0 (va_up (x 0) 4 ((x 0 4) + 1))) v (wV o cI cR (c_put V 2 v))) H := hP
      have hD : va_D A (wO o cI cR cS (va_up x 0 (va_up (x 0) 4 ((x 0 4) + 1))) v (wV o cI cR (c_put V 2 v))) := hD
      refine lv_goto (tgt := 51) hx hb dX4_saveState_39 (by decide) ?_
      have w_27 : (wO o cI cR cS (va_up x 0 (c_sv (x 0))) v (wV o cI cR (c_put V ((x 0 3 + x 0 4) % 6) v))) = (wO o cI cR cS (va_up x 0 (va_up (x 0) 4 ((x 0 4) + 1))) v (wV o cI cR (c_put V 2 v))) := (by rw [hj, show c_sv (x 0) = _ from if_pos c_23])
      rw [← w_27] at hP
      exact W.vret hx hb hrt (fun t ht hW => ⟨⟨(), rfl, trivial, by show va_P D vwCl _ t.heap; rw [ht]; exact hP⟩, hS.F ht⟩) hS.2.2 dX4_saveState_51
  · skip
    refine lv_aload_n hx hb dX4_saveState_0 rfl (lv_at hl 0 rfl) ?_
    refine va_get (D := D) (ci := 4) (v := .ref (o 1)) (C := RX4) (T := TX4) (N := 6) hx hb hts inX4_saveState_X4 hown hK hP 0 rfl rfl 1 (by decide) (hts (.fieldLink RX4 16 "OddNotice" "saved" "[LOddNotice$State;") (List.mem_of_getElem? (i := 1) (by decide +kernel))) (fun _ h9 => h9) rfl dX4_saveState_1 ?_
    refine lv_aload_n hx hb dX4_saveState_4 rfl (lv_at hl 0 rfl) ?_
    refine lv_aload_n hx hb dX4_saveState_5 rfl (lv_at hl 0 rfl) ?_
    refine va_get (D := D) (ci := 4) (v := .int (nI (x 0 4))) (C := RX4) (T := TX4) (N := 6) hx hb hts inX4_saveState_X4 hown hK hP 0 rfl rfl 3 (by decide) (hts (.fieldLink RX4 152 "OddNotice" "savedCount" "I") (List.mem_of_getElem? (i := 2) (by decide +kernel))) (fun _ h9 => h9) rfl dX4_saveState_6 ?_
    refine o_ri (va_runV (As := [.int (nI (x 0 4))]) (rest := [.ref (o 1)]) ⟨hx, hb, hml, hown, hts⟩ (k_X4_savedPlace l D cI cR cS cL o x v (wV o cI cR V) (x 0 4) (by show x 0 3 < 6; first | assumption | omega) (by show (x 0 4) ≤ 6; first | assumption | omega)) (cwV 1 hts gX4_saveState_X4_savedPlace rfl rfl rfl (by decide +kernel) ⟨Nat.le_of_ble_eq_true rfl, Nat.le_of_ble_eq_true rfl⟩) (o_v (o_pR hK hN hP) (va_recv hK hP (ci := 4) (q0 := 0) rfl rfl)) rfl rfl hl.1 rfl (lv_room (Nat.le_of_ble_eq_true rfl)) dX4_saveState_9 ⟨Nat.zero_le _, Nat.zero_le _⟩) (fun r_29 e_28 => ?_)
    have e_28 : r_29 = nI 3 := by rw [e_28, hj]
    subst e_28
    refine o_aldq (v := (o 81)) (C := "OddNotice$State") hx hb hK hP 1 2 rfl rfl (Nat.le_of_ble_eq_true rfl) (Nat.le_of_ble_eq_true rfl) rfl dX4_saveState_12 ?_
    refine lv_aload_n hx hb dX4_saveState_13 rfl (lv_at hl 0 rfl) ?_
    refine va_get (D := D) (ci := 4) (v := .ref (o 5)) (C := RX4) (T := TX4) (N := 6) hx hb hts inX4_saveState_X4 hown hK hP 0 rfl rfl 0 (by decide) (hts (.fieldLink RX4 10 "OddNotice" "now" "LOddNotice$State;") (List.mem_of_getElem? (i := 3) (by decide +kernel))) (fun _ h9 => h9) rfl dX4_saveState_14 ?_
    refine o_wv (va_runV (As := [.ref (o 5)]) (rest := []) ⟨hx, hb, hml, hown, hts⟩ (k_X2_copyFrom l D cI cR cS cL s.heap.size (fun k => o (k + 81)) (V 3) (fun k => o (k + 5)) v b (by show s_I b v; first | assumption | omega) (by show b < 2 ^ 28; first | assumption | omega)) (cwV 1 hts gX4_saveState_X2_copyFrom rfl rfl rfl (by decide +kernel) ⟨Nat.le_of_ble_eq_true rfl, Nat.le_of_ble_eq_true rfl⟩) (o_v (o_pB hK hN (hP.sub (ws' := (wP (fun k => o (k + 81)) cI cR (V 3) (V 3) (fun k => (V 3) (k + 5)) (fun k => (V 3) (k + 8)) (fun k => (V 3) (k + 11)) (fun k => (V 3) (k + 14)) ++ wP (fun k => o (k + 5)) cI cR v v (fun k => v (k + 5)) (fun k => v (k + 8)) (fun k => v (k + 11)) (fun k => v (k + 14)))) (w_pl o cI cR cS x v V 3) (o_fm (w_get o cI cR cS x v V (j := 3) (by decide)))) (hD.sub (ws' := (wP (fun k => o (k + 81)) cI cR (V 3) (V 3) (fun k => (V 3) (k + 5)) (fun k => (V 3) (k + 8)) (fun k => (V 3) (k + 11)) (fun k => (V 3) (k + 14)) ++ wP (fun k => o (k + 5)) cI cR v v (fun k => v (k + 5)) (fun k => v (k + 8)) (fun k => v (k + 11)) (fun k => v (k + 14)))) (w_pl o cI cR cS x v V 3) (w_nd o cI cR cS x v V (j := 3) (by decide)) (w_get o cI cR cS x v V (j := 3) (by decide)))) (va_recv hK hP (ci := 2) (q0 := 81) rfl rfl)) rfl rfl hl.1 rfl (lv_room (Nat.le_of_ble_eq_true rfl)) dX4_saveState_17 ⟨Nat.zero_le _, Nat.zero_le _⟩) hP hD hS hA (w_pl o cI cR cS x v V 3) (w_nd o cI cR cS x v V (j := 3) (by decide)) (w_get o cI cR cS x v V (j := 3) (by decide)) (fun _ => rfl) (fun _ H locs e_30 hP hD hS => ?_)
    have E_31 : o_put (wO o cI cR cS x v (wV o cI cR V)) (w_pl o cI cR cS x v V 3) (wS (fun k => o (k + 81)) cI cR v ++ wS (fun k => o (k + 5)) cI cR v) = (wO o cI cR cS x v (wV o cI cR (c_put V 3 v))) := by exact w_put o cI cR cS x v v v V (j := 3) (by decide)
    rw [E_31] at hP hD
    refine lv_aload_n hx hb dX4_saveState_20 rfl (lv_at hl 0 rfl) ?_
    refine va_get (D := D) (ci := 4) (v := .int (nI (x 0 4))) (C := RX4) (T := TX4) (N := 6) hx hb hts inX4_saveState_X4 hown hK hP 0 rfl rfl 3 (by decide) (hts (.fieldLink RX4 152 "OddNotice" "savedCount" "I") (List.mem_of_getElem? (i := 2) (by decide +kernel))) (fun _ h9 => h9) rfl dX4_saveState_21 ?_
    refine o_bipush (k := 6) hx hb dX4_saveState_24 (by decide) ?_
    refine o_icmp_ge (tgt := 42) hx hb dX4_saveState_26 (by decide) (by omega) (Nat.le_of_ble_eq_true rfl) (fun c_32 => ?_) (fun c_32 => ?_)
    · skip
      refine lv_aload_n hx hb dX4_saveState_42 rfl (lv_at hl 0 rfl) ?_
      refine lv_aload_n hx hb dX4_saveState_43 rfl (lv_at hl 0 rfl) ?_
      refine o_const (k := 1) hx hb dX4_saveState_44 (by decide) ?_
      refine o_ri (va_runV (As := [.int (nI 1)]) (rest := [.ref (o 0)]) ⟨hx, hb, hml, hown, hts⟩ (k_X4_savedPlace l D cI cR cS cL o x v (wV o cI cR (c_put V 3 v)) 1 (by show x 0 3 < 6; first | assumption | omega) (by show 1 ≤ 6; first | assumption | omega)) (cwV 1 hts gX4_saveState_X4_savedPlace rfl rfl rfl (by decide +kernel) ⟨Nat.le_of_ble_eq_true rfl, Nat.le_of_ble_eq_true rfl⟩) (o_v (o_pR hK hN hP) (va_recv hK hP (ci := 4) (q0 := 0) rfl rfl)) rfl rfl hl.1 rfl (lv_room (Nat.le_of_ble_eq_true rfl)) dX4_saveState_45 ⟨Nat.zero_le _, Nat.zero_le _⟩) (fun r_34 e_33 => ?_)
      have e_33 : r_34 = nI ((x 0 3 + 1) % 6) := e_33
      subst e_33
      refine va_put (D := D) (ci := 4) (v := .int (nI ((x 0 3 + 1) % 6))) (ty := .int) (C := RX4) (T := TX4) (N := 6) hx hb hts inX4_saveState_X4 tyX4 tyX4_ok nmX4 hown hK hP hD hS 0 rfl rfl 2 (by decide) (hts (.fieldLink RX4 282 "OddNotice" "oldestSaved" "I") (List.mem_of_getElem? (i := 4) (by decide +kernel))) (fun _ h9 => h9) rfl (by decide +kernel) rfl rfl (Nat.le_of_ble_eq_true rfl) dX4_saveState_48 (fun H locs hP hD hS => ?_)
      have hP : va_P D vwCl (wO o cI cR cS (va_up x 0 (va_up (x 0) 3 ((x 0 3 + 1) % 6))) v (wV o cI cR (c_put V 3 v))) H := hP
      have hD : va_D A (wO o cI cR cS (va_up x 0 (va_up (x 0) 3 ((x 0 3 + 1) % 6))) v (wV o cI cR (c_put V 3 v))) := hD
      have w_35 : (wO o cI cR cS (va_up x 0 (c_sv (x 0))) v (wV o cI cR (c_put V ((x 0 3 + x 0 4) % 6) v))) = (wO o cI cR cS (va_up x 0 (va_up (x 0) 3 ((x 0 3 + 1) % 6))) v (wV o cI cR (c_put V 3 v))) := (by rw [hj, show c_sv (x 0) = _ from if_neg c_32])
      rw [← w_35] at hP
      exact W.vret hx hb hrt (fun t ht hW => ⟨⟨(), rfl, trivial, by show va_P D vwCl _ t.heap; rw [ht]; exact hP⟩, hS.F ht⟩) hS.2.2 dX4_saveState_51
    · skip
      refine lv_aload_n hx hb dX4_saveState_29 rfl (lv_at hl 0 rfl) ?_
      refine lv_dup hx hb dX4_saveState_30 rfl ?_
      refine va_get (D := D) (ci := 4) (v := .int (nI (x 0 4))) (C := RX4) (T := TX4) (N := 6) hx hb hts inX4_saveState_X4 hown hK hP 0 rfl rfl 3 (by decide) (hts (.fieldLink RX4 152 "OddNotice" "savedCount" "I") (List.mem_of_getElem? (i := 2) (by decide +kernel))) (fun _ h9 => h9) rfl dX4_saveState_31 ?_
      refine o_const (k := 1) hx hb dX4_saveState_34 (by decide) ?_
      refine o_iadd (a := (x 0 4)) (b := 1) (k := ((x 0 4) + 1)) hx hb dX4_saveState_35 rfl ?_
      refine va_put (D := D) (ci := 4) (v := .int (nI ((x 0 4) + 1))) (ty := .int) (C := RX4) (T := TX4) (N := 6) hx hb hts inX4_saveState_X4 tyX4 tyX4_ok nmX4 hown hK hP hD hS 0 rfl rfl 3 (by decide) (hts (.fieldLink RX4 152 "OddNotice" "savedCount" "I") (List.mem_of_getElem? (i := 2) (by decide +kernel))) (fun _ h9 => h9) rfl (by decide +kernel) rfl rfl (Nat.le_of_ble_eq_true rfl) dX4_saveState_36 (fun H locs hP hD hS => ?_)
      have hP : va_P D vwCl (wO o cI cR cS (va_up x 0 (va_up (x 0) 4 ((x 0 4) + 1))) v (wV o cI cR (c_put V 3 v))) H := hP
      have hD : va_D A (wO o cI cR cS (va_up x 0 (va_up (x 0) 4 ((x 0 4) + 1))) v (wV o cI cR (c_put V 3 v))) := hD
      refine lv_goto (tgt := 51) hx hb dX4_saveState_39 (by decide) ?_
      have w_36 : (wO o cI cR cS (va_up x 0 (c_sv (x 0))) v (wV o cI cR (c_put V ((x 0 3 + x 0 4) % 6) v))) = (wO o cI cR cS (va_up x 0 (va_up (x 0) 4 ((x 0 4) + 1))) v (wV o cI cR (c_put V 3 v))) := (by rw [hj, show c_sv (x 0) = _ from if_pos c_32])
      rw [← w_36] at hP
      exact W.vret hx hb hrt (fun t ht hW => ⟨⟨(), rfl, trivial, by show va_P D vwCl _ t.heap; rw [ht]; exact hP⟩, hS.F ht⟩) hS.2.2 dX4_saveState_51
  · skip
    refine lv_aload_n hx hb dX4_saveState_0 rfl (lv_at hl 0 rfl) ?_
    refine va_get (D := D) (ci := 4) (v := .ref (o 1)) (C := RX4) (T := TX4) (N := 6) hx hb hts inX4_saveState_X4 hown hK hP 0 rfl rfl 1 (by decide) (hts (.fieldLink RX4 16 "OddNotice" "saved" "[LOddNotice$State;") (List.mem_of_getElem? (i := 1) (by decide +kernel))) (fun _ h9 => h9) rfl dX4_saveState_1 ?_
    refine lv_aload_n hx hb dX4_saveState_4 rfl (lv_at hl 0 rfl) ?_
    refine lv_aload_n hx hb dX4_saveState_5 rfl (lv_at hl 0 rfl) ?_
    refine va_get (D := D) (ci := 4) (v := .int (nI (x 0 4))) (C := RX4) (T := TX4) (N := 6) hx hb hts inX4_saveState_X4 hown hK hP 0 rfl rfl 3 (by decide) (hts (.fieldLink RX4 152 "OddNotice" "savedCount" "I") (List.mem_of_getElem? (i := 2) (by decide +kernel))) (fun _ h9 => h9) rfl dX4_saveState_6 ?_
    refine o_ri (va_runV (As := [.int (nI (x 0 4))]) (rest := [.ref (o 1)]) ⟨hx, hb, hml, hown, hts⟩ (k_X4_savedPlace l D cI cR cS cL o x v (wV o cI cR V) (x 0 4) (by show x 0 3 < 6; first | assumption | omega) (by show (x 0 4) ≤ 6; first | assumption | omega)) (cwV 1 hts gX4_saveState_X4_savedPlace rfl rfl rfl (by decide +kernel) ⟨Nat.le_of_ble_eq_true rfl, Nat.le_of_ble_eq_true rfl⟩) (o_v (o_pR hK hN hP) (va_recv hK hP (ci := 4) (q0 := 0) rfl rfl)) rfl rfl hl.1 rfl (lv_room (Nat.le_of_ble_eq_true rfl)) dX4_saveState_9 ⟨Nat.zero_le _, Nat.zero_le _⟩) (fun r_38 e_37 => ?_)
    have e_37 : r_38 = nI 4 := by rw [e_37, hj]
    subst e_37
    refine o_aldq (v := (o 100)) (C := "OddNotice$State") hx hb hK hP 1 2 rfl rfl (Nat.le_of_ble_eq_true rfl) (Nat.le_of_ble_eq_true rfl) rfl dX4_saveState_12 ?_
    refine lv_aload_n hx hb dX4_saveState_13 rfl (lv_at hl 0 rfl) ?_
    refine va_get (D := D) (ci := 4) (v := .ref (o 5)) (C := RX4) (T := TX4) (N := 6) hx hb hts inX4_saveState_X4 hown hK hP 0 rfl rfl 0 (by decide) (hts (.fieldLink RX4 10 "OddNotice" "now" "LOddNotice$State;") (List.mem_of_getElem? (i := 3) (by decide +kernel))) (fun _ h9 => h9) rfl dX4_saveState_14 ?_
    refine o_wv (va_runV (As := [.ref (o 5)]) (rest := []) ⟨hx, hb, hml, hown, hts⟩ (k_X2_copyFrom l D cI cR cS cL s.heap.size (fun k => o (k + 100)) (V 4) (fun k => o (k + 5)) v b (by show s_I b v; first | assumption | omega) (by show b < 2 ^ 28; first | assumption | omega)) (cwV 1 hts gX4_saveState_X2_copyFrom rfl rfl rfl (by decide +kernel) ⟨Nat.le_of_ble_eq_true rfl, Nat.le_of_ble_eq_true rfl⟩) (o_v (o_pB hK hN (hP.sub (ws' := (wP (fun k => o (k + 100)) cI cR (V 4) (V 4) (fun k => (V 4) (k + 5)) (fun k => (V 4) (k + 8)) (fun k => (V 4) (k + 11)) (fun k => (V 4) (k + 14)) ++ wP (fun k => o (k + 5)) cI cR v v (fun k => v (k + 5)) (fun k => v (k + 8)) (fun k => v (k + 11)) (fun k => v (k + 14)))) (w_pl o cI cR cS x v V 4) (o_fm (w_get o cI cR cS x v V (j := 4) (by decide)))) (hD.sub (ws' := (wP (fun k => o (k + 100)) cI cR (V 4) (V 4) (fun k => (V 4) (k + 5)) (fun k => (V 4) (k + 8)) (fun k => (V 4) (k + 11)) (fun k => (V 4) (k + 14)) ++ wP (fun k => o (k + 5)) cI cR v v (fun k => v (k + 5)) (fun k => v (k + 8)) (fun k => v (k + 11)) (fun k => v (k + 14)))) (w_pl o cI cR cS x v V 4) (w_nd o cI cR cS x v V (j := 4) (by decide)) (w_get o cI cR cS x v V (j := 4) (by decide)))) (va_recv hK hP (ci := 2) (q0 := 100) rfl rfl)) rfl rfl hl.1 rfl (lv_room (Nat.le_of_ble_eq_true rfl)) dX4_saveState_17 ⟨Nat.zero_le _, Nat.zero_le _⟩) hP hD hS hA (w_pl o cI cR cS x v V 4) (w_nd o cI cR cS x v V (j := 4) (by decide)) (w_get o cI cR cS x v V (j := 4) (by decide)) (fun _ => rfl) (fun _ H locs e_39 hP hD hS => ?_)
    have E_40 : o_put (wO o cI cR cS x v (wV o cI cR V)) (w_pl o cI cR cS x v V 4) (wS (fun k => o (k + 100)) cI cR v ++ wS (fun k => o (k + 5)) cI cR v) = (wO o cI cR cS x v (wV o cI cR (c_put V 4 v))) := by exact w_put o cI cR cS x v v v V (j := 4) (by decide)
    rw [E_40] at hP hD
    refine lv_aload_n hx hb dX4_saveState_20 rfl (lv_at hl 0 rfl) ?_
    refine va_get (D := D) (ci := 4) (v := .int (nI (x 0 4))) (C := RX4) (T := TX4) (N := 6) hx hb hts inX4_saveState_X4 hown hK hP 0 rfl rfl 3 (by decide) (hts (.fieldLink RX4 152 "OddNotice" "savedCount" "I") (List.mem_of_getElem? (i := 2) (by decide +kernel))) (fun _ h9 => h9) rfl dX4_saveState_21 ?_
    refine o_bipush (k := 6) hx hb dX4_saveState_24 (by decide) ?_
    refine o_icmp_ge (tgt := 42) hx hb dX4_saveState_26 (by decide) (by omega) (Nat.le_of_ble_eq_true rfl) (fun c_41 => ?_) (fun c_41 => ?_)
    · skip
      refine lv_aload_n hx hb dX4_saveState_42 rfl (lv_at hl 0 rfl) ?_
      refine lv_aload_n hx hb dX4_saveState_43 rfl (lv_at hl 0 rfl) ?_
      refine o_const (k := 1) hx hb dX4_saveState_44 (by decide) ?_
      refine o_ri (va_runV (As := [.int (nI 1)]) (rest := [.ref (o 0)]) ⟨hx, hb, hml, hown, hts⟩ (k_X4_savedPlace l D cI cR cS cL o x v (wV o cI cR (c_put V 4 v)) 1 (by show x 0 3 < 6; first | assumption | omega) (by show 1 ≤ 6; first | assumption | omega)) (cwV 1 hts gX4_saveState_X4_savedPlace rfl rfl rfl (by decide +kernel) ⟨Nat.le_of_ble_eq_true rfl, Nat.le_of_ble_eq_true rfl⟩) (o_v (o_pR hK hN hP) (va_recv hK hP (ci := 4) (q0 := 0) rfl rfl)) rfl rfl hl.1 rfl (lv_room (Nat.le_of_ble_eq_true rfl)) dX4_saveState_45 ⟨Nat.zero_le _, Nat.zero_le _⟩) (fun r_43 e_42 => ?_)
      have e_42 : r_43 = nI ((x 0 3 + 1) % 6) := e_42
      subst e_42
      refine va_put (D := D) (ci := 4) (v := .int (nI ((x 0 3 + 1) % 6))) (ty := .int) (C := RX4) (T := TX4) (N := 6) hx hb hts inX4_saveState_X4 tyX4 tyX4_ok nmX4 hown hK hP hD hS 0 rfl rfl 2 (by decide) (hts (.fieldLink RX4 282 "OddNotice" "oldestSaved" "I") (List.mem_of_getElem? (i := 4) (by decide +kernel))) (fun _ h9 => h9) rfl (by decide +kernel) rfl rfl (Nat.le_of_ble_eq_true rfl) dX4_saveState_48 (fun H locs hP hD hS => ?_)
      have hP : va_P D vwCl (wO o cI cR cS (va_up x 0 (va_up (x 0) 3 ((x 0 3 + 1) % 6))) v (wV o cI cR (c_put V 4 v))) H := hP
      have hD : va_D A (wO o cI cR cS (va_up x 0 (va_up (x 0) 3 ((x 0 3 + 1) % 6))) v (wV o cI cR (c_put V 4 v))) := hD
      have w_44 : (wO o cI cR cS (va_up x 0 (c_sv (x 0))) v (wV o cI cR (c_put V ((x 0 3 + x 0 4) % 6) v))) = (wO o cI cR cS (va_up x 0 (va_up (x 0) 3 ((x 0 3 + 1) % 6))) v (wV o cI cR (c_put V 4 v))) := (by rw [hj, show c_sv (x 0) = _ from if_neg c_41])
      rw [← w_44] at hP
      exact W.vret hx hb hrt (fun t ht hW => ⟨⟨(), rfl, trivial, by show va_P D vwCl _ t.heap; rw [ht]; exact hP⟩, hS.F ht⟩) hS.2.2 dX4_saveState_51
    · skip
      refine lv_aload_n hx hb dX4_saveState_29 rfl (lv_at hl 0 rfl) ?_
      refine lv_dup hx hb dX4_saveState_30 rfl ?_
      refine va_get (D := D) (ci := 4) (v := .int (nI (x 0 4))) (C := RX4) (T := TX4) (N := 6) hx hb hts inX4_saveState_X4 hown hK hP 0 rfl rfl 3 (by decide) (hts (.fieldLink RX4 152 "OddNotice" "savedCount" "I") (List.mem_of_getElem? (i := 2) (by decide +kernel))) (fun _ h9 => h9) rfl dX4_saveState_31 ?_
      refine o_const (k := 1) hx hb dX4_saveState_34 (by decide) ?_
      refine o_iadd (a := (x 0 4)) (b := 1) (k := ((x 0 4) + 1)) hx hb dX4_saveState_35 rfl ?_
      refine va_put (D := D) (ci := 4) (v := .int (nI ((x 0 4) + 1))) (ty := .int) (C := RX4) (T := TX4) (N := 6) hx hb hts inX4_saveState_X4 tyX4 tyX4_ok nmX4 hown hK hP hD hS 0 rfl rfl 3 (by decide) (hts (.fieldLink RX4 152 "OddNotice" "savedCount" "I") (List.mem_of_getElem? (i := 2) (by decide +kernel))) (fun _ h9 => h9) rfl (by decide +kernel) rfl rfl (Nat.le_of_ble_eq_true rfl) dX4_saveState_36 (fun H locs hP hD hS => ?_)
      have hP : va_P D vwCl (wO o cI cR cS (va_up x 0 (va_up (x 0) 4 ((x 0 4) + 1))) v (wV o cI cR (c_put V 4 v))) H := hP
      have hD : va_D A (wO o cI cR cS (va_up x 0 (va_up (x 0) 4 ((x 0 4) + 1))) v (wV o cI cR (c_put V 4 v))) := hD
      refine lv_goto (tgt := 51) hx hb dX4_saveState_39 (by decide) ?_
      have w_45 : (wO o cI cR cS (va_up x 0 (c_sv (x 0))) v (wV o cI cR (c_put V ((x 0 3 + x 0 4) % 6) v))) = (wO o cI cR cS (va_up x 0 (va_up (x 0) 4 ((x 0 4) + 1))) v (wV o cI cR (c_put V 4 v))) := (by rw [hj, show c_sv (x 0) = _ from if_pos c_41])
      rw [← w_45] at hP
      exact W.vret hx hb hrt (fun t ht hW => ⟨⟨(), rfl, trivial, by show va_P D vwCl _ t.heap; rw [ht]; exact hP⟩, hS.F ht⟩) hS.2.2 dX4_saveState_51
  · skip
    refine lv_aload_n hx hb dX4_saveState_0 rfl (lv_at hl 0 rfl) ?_
    refine va_get (D := D) (ci := 4) (v := .ref (o 1)) (C := RX4) (T := TX4) (N := 6) hx hb hts inX4_saveState_X4 hown hK hP 0 rfl rfl 1 (by decide) (hts (.fieldLink RX4 16 "OddNotice" "saved" "[LOddNotice$State;") (List.mem_of_getElem? (i := 1) (by decide +kernel))) (fun _ h9 => h9) rfl dX4_saveState_1 ?_
    refine lv_aload_n hx hb dX4_saveState_4 rfl (lv_at hl 0 rfl) ?_
    refine lv_aload_n hx hb dX4_saveState_5 rfl (lv_at hl 0 rfl) ?_
    refine va_get (D := D) (ci := 4) (v := .int (nI (x 0 4))) (C := RX4) (T := TX4) (N := 6) hx hb hts inX4_saveState_X4 hown hK hP 0 rfl rfl 3 (by decide) (hts (.fieldLink RX4 152 "OddNotice" "savedCount" "I") (List.mem_of_getElem? (i := 2) (by decide +kernel))) (fun _ h9 => h9) rfl dX4_saveState_6 ?_
    refine o_ri (va_runV (As := [.int (nI (x 0 4))]) (rest := [.ref (o 1)]) ⟨hx, hb, hml, hown, hts⟩ (k_X4_savedPlace l D cI cR cS cL o x v (wV o cI cR V) (x 0 4) (by show x 0 3 < 6; first | assumption | omega) (by show (x 0 4) ≤ 6; first | assumption | omega)) (cwV 1 hts gX4_saveState_X4_savedPlace rfl rfl rfl (by decide +kernel) ⟨Nat.le_of_ble_eq_true rfl, Nat.le_of_ble_eq_true rfl⟩) (o_v (o_pR hK hN hP) (va_recv hK hP (ci := 4) (q0 := 0) rfl rfl)) rfl rfl hl.1 rfl (lv_room (Nat.le_of_ble_eq_true rfl)) dX4_saveState_9 ⟨Nat.zero_le _, Nat.zero_le _⟩) (fun r_47 e_46 => ?_)
    have e_46 : r_47 = nI 5 := by rw [e_46, hj]
    subst e_46
    refine o_aldq (v := (o 119)) (C := "OddNotice$State") hx hb hK hP 1 2 rfl rfl (Nat.le_of_ble_eq_true rfl) (Nat.le_of_ble_eq_true rfl) rfl dX4_saveState_12 ?_
    refine lv_aload_n hx hb dX4_saveState_13 rfl (lv_at hl 0 rfl) ?_
    refine va_get (D := D) (ci := 4) (v := .ref (o 5)) (C := RX4) (T := TX4) (N := 6) hx hb hts inX4_saveState_X4 hown hK hP 0 rfl rfl 0 (by decide) (hts (.fieldLink RX4 10 "OddNotice" "now" "LOddNotice$State;") (List.mem_of_getElem? (i := 3) (by decide +kernel))) (fun _ h9 => h9) rfl dX4_saveState_14 ?_
    refine o_wv (va_runV (As := [.ref (o 5)]) (rest := []) ⟨hx, hb, hml, hown, hts⟩ (k_X2_copyFrom l D cI cR cS cL s.heap.size (fun k => o (k + 119)) (V 5) (fun k => o (k + 5)) v b (by show s_I b v; first | assumption | omega) (by show b < 2 ^ 28; first | assumption | omega)) (cwV 1 hts gX4_saveState_X2_copyFrom rfl rfl rfl (by decide +kernel) ⟨Nat.le_of_ble_eq_true rfl, Nat.le_of_ble_eq_true rfl⟩) (o_v (o_pB hK hN (hP.sub (ws' := (wP (fun k => o (k + 119)) cI cR (V 5) (V 5) (fun k => (V 5) (k + 5)) (fun k => (V 5) (k + 8)) (fun k => (V 5) (k + 11)) (fun k => (V 5) (k + 14)) ++ wP (fun k => o (k + 5)) cI cR v v (fun k => v (k + 5)) (fun k => v (k + 8)) (fun k => v (k + 11)) (fun k => v (k + 14)))) (w_pl o cI cR cS x v V 5) (o_fm (w_get o cI cR cS x v V (j := 5) (by decide)))) (hD.sub (ws' := (wP (fun k => o (k + 119)) cI cR (V 5) (V 5) (fun k => (V 5) (k + 5)) (fun k => (V 5) (k + 8)) (fun k => (V 5) (k + 11)) (fun k => (V 5) (k + 14)) ++ wP (fun k => o (k + 5)) cI cR v v (fun k => v (k + 5)) (fun k => v (k + 8)) (fun k => v (k + 11)) (fun k => v (k + 14)))) (w_pl o cI cR cS x v V 5) (w_nd o cI cR cS x v V (j := 5) (by decide)) (w_get o cI cR cS x v V (j := 5) (by decide)))) (va_recv hK hP (ci := 2) (q0 := 119) rfl rfl)) rfl rfl hl.1 rfl (lv_room (Nat.le_of_ble_eq_true rfl)) dX4_saveState_17 ⟨Nat.zero_le _, Nat.zero_le _⟩) hP hD hS hA (w_pl o cI cR cS x v V 5) (w_nd o cI cR cS x v V (j := 5) (by decide)) (w_get o cI cR cS x v V (j := 5) (by decide)) (fun _ => rfl) (fun _ H locs e_48 hP hD hS => ?_)
    have E_49 : o_put (wO o cI cR cS x v (wV o cI cR V)) (w_pl o cI cR cS x v V 5) (wS (fun k => o (k + 119)) cI cR v ++ wS (fun k => o (k + 5)) cI cR v) = (wO o cI cR cS x v (wV o cI cR (c_put V 5 v))) := by exact w_put o cI cR cS x v v v V (j := 5) (by decide)
    rw [E_49] at hP hD
    refine lv_aload_n hx hb dX4_saveState_20 rfl (lv_at hl 0 rfl) ?_
    refine va_get (D := D) (ci := 4) (v := .int (nI (x 0 4))) (C := RX4) (T := TX4) (N := 6) hx hb hts inX4_saveState_X4 hown hK hP 0 rfl rfl 3 (by decide) (hts (.fieldLink RX4 152 "OddNotice" "savedCount" "I") (List.mem_of_getElem? (i := 2) (by decide +kernel))) (fun _ h9 => h9) rfl dX4_saveState_21 ?_
    refine o_bipush (k := 6) hx hb dX4_saveState_24 (by decide) ?_
    refine o_icmp_ge (tgt := 42) hx hb dX4_saveState_26 (by decide) (by omega) (Nat.le_of_ble_eq_true rfl) (fun c_50 => ?_) (fun c_50 => ?_)
    · skip
      refine lv_aload_n hx hb dX4_saveState_42 rfl (lv_at hl 0 rfl) ?_
      refine lv_aload_n hx hb dX4_saveState_43 rfl (lv_at hl 0 rfl) ?_
      refine o_const (k := 1) hx hb dX4_saveState_44 (by decide) ?_
      refine o_ri (va_runV (As := [.int (nI 1)]) (rest := [.ref (o 0)]) ⟨hx, hb, hml, hown, hts⟩ (k_X4_savedPlace l D cI cR cS cL o x v (wV o cI cR (c_put V 5 v)) 1 (by show x 0 3 < 6; first | assumption | omega) (by show 1 ≤ 6; first | assumption | omega)) (cwV 1 hts gX4_saveState_X4_savedPlace rfl rfl rfl (by decide +kernel) ⟨Nat.le_of_ble_eq_true rfl, Nat.le_of_ble_eq_true rfl⟩) (o_v (o_pR hK hN hP) (va_recv hK hP (ci := 4) (q0 := 0) rfl rfl)) rfl rfl hl.1 rfl (lv_room (Nat.le_of_ble_eq_true rfl)) dX4_saveState_45 ⟨Nat.zero_le _, Nat.zero_le _⟩) (fun r_52 e_51 => ?_)
      have e_51 : r_52 = nI ((x 0 3 + 1) % 6) := e_51
      subst e_51
      refine va_put (D := D) (ci := 4) (v := .int (nI ((x 0 3 + 1) % 6))) (ty := .int) (C := RX4) (T := TX4) (N := 6) hx hb hts inX4_saveState_X4 tyX4 tyX4_ok nmX4 hown hK hP hD hS 0 rfl rfl 2 (by decide) (hts (.fieldLink RX4 282 "OddNotice" "oldestSaved" "I") (List.mem_of_getElem? (i := 4) (by decide +kernel))) (fun _ h9 => h9) rfl (by decide +kernel) rfl rfl (Nat.le_of_ble_eq_true rfl) dX4_saveState_48 (fun H locs hP hD hS => ?_)
      have hP : va_P D vwCl (wO o cI cR cS (va_up x 0 (va_up (x 0) 3 ((x 0 3 + 1) % 6))) v (wV o cI cR (c_put V 5 v))) H := hP
      have hD : va_D A (wO o cI cR cS (va_up x 0 (va_up (x 0) 3 ((x 0 3 + 1) % 6))) v (wV o cI cR (c_put V 5 v))) := hD
      have w_53 : (wO o cI cR cS (va_up x 0 (c_sv (x 0))) v (wV o cI cR (c_put V ((x 0 3 + x 0 4) % 6) v))) = (wO o cI cR cS (va_up x 0 (va_up (x 0) 3 ((x 0 3 + 1) % 6))) v (wV o cI cR (c_put V 5 v))) := (by rw [hj, show c_sv (x 0) = _ from if_neg c_50])
      rw [← w_53] at hP
      exact W.vret hx hb hrt (fun t ht hW => ⟨⟨(), rfl, trivial, by show va_P D vwCl _ t.heap; rw [ht]; exact hP⟩, hS.F ht⟩) hS.2.2 dX4_saveState_51
    · skip
      refine lv_aload_n hx hb dX4_saveState_29 rfl (lv_at hl 0 rfl) ?_
      refine lv_dup hx hb dX4_saveState_30 rfl ?_
      refine va_get (D := D) (ci := 4) (v := .int (nI (x 0 4))) (C := RX4) (T := TX4) (N := 6) hx hb hts inX4_saveState_X4 hown hK hP 0 rfl rfl 3 (by decide) (hts (.fieldLink RX4 152 "OddNotice" "savedCount" "I") (List.mem_of_getElem? (i := 2) (by decide +kernel))) (fun _ h9 => h9) rfl dX4_saveState_31 ?_
      refine o_const (k := 1) hx hb dX4_saveState_34 (by decide) ?_
      refine o_iadd (a := (x 0 4)) (b := 1) (k := ((x 0 4) + 1)) hx hb dX4_saveState_35 rfl ?_
      refine va_put (D := D) (ci := 4) (v := .int (nI ((x 0 4) + 1))) (ty := .int) (C := RX4) (T := TX4) (N := 6) hx hb hts inX4_saveState_X4 tyX4 tyX4_ok nmX4 hown hK hP hD hS 0 rfl rfl 3 (by decide) (hts (.fieldLink RX4 152 "OddNotice" "savedCount" "I") (List.mem_of_getElem? (i := 2) (by decide +kernel))) (fun _ h9 => h9) rfl (by decide +kernel) rfl rfl (Nat.le_of_ble_eq_true rfl) dX4_saveState_36 (fun H locs hP hD hS => ?_)
      have hP : va_P D vwCl (wO o cI cR cS (va_up x 0 (va_up (x 0) 4 ((x 0 4) + 1))) v (wV o cI cR (c_put V 5 v))) H := hP
      have hD : va_D A (wO o cI cR cS (va_up x 0 (va_up (x 0) 4 ((x 0 4) + 1))) v (wV o cI cR (c_put V 5 v))) := hD
      refine lv_goto (tgt := 51) hx hb dX4_saveState_39 (by decide) ?_
      have w_54 : (wO o cI cR cS (va_up x 0 (c_sv (x 0))) v (wV o cI cR (c_put V ((x 0 3 + x 0 4) % 6) v))) = (wO o cI cR cS (va_up x 0 (va_up (x 0) 4 ((x 0 4) + 1))) v (wV o cI cR (c_put V 5 v))) := (by rw [hj, show c_sv (x 0) = _ from if_pos c_50])
      rw [← w_54] at hP
      exact W.vret hx hb hrt (fun t ht hW => ⟨⟨(), rfl, trivial, by show va_P D vwCl _ t.heap; rw [ht]; exact hP⟩, hS.F ht⟩) hS.2.2 dX4_saveState_51
