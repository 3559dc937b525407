theorem inX4_come_X4 : ∀ w ∈ wsX40, w ∈ wsX4_come := by decide +kernel
theorem inX4_come_X2 : ∀ w ∈ wsX20, w ∈ wsX4_come := by decide +kernel
set_option maxHeartbeats 4000000 in
set_option maxRecDepth 100000 in
theorem k_X4_come (l : Launch) (D : va_G) (cI cR cS cL : ClassId) (sz : Nat) (o : Nat → Nat) (x : Nat → Nat → Nat) (v : Nat → Nat → Nat) (V : Nat → Nat → Nat → Nat) (b : Nat) (c : Nat) (hSI : s_I b v) (hb : b < 2 ^ 28) (h3 : x 0 3 < 6) (h4 : x 0 4 ≤ 6) (hc : c < 3) (ha : v 3 c = 4294967295) : Met l yX4_come wsX4_come ({ frames := 4, cells := 0, slots := 0, locals := 81 }) (va_Pc [.ref (o 0), .int (nI c)] (o_B D (o_T cI cR cS cL) (wO o cI cR cS x v (wV o cI cR V)) sz)) (va_Qi (fun rz (_ : Unit) => rz = nI (b_inl (v 3))) (fun (_ : Unit) t => va_P D vwCl (wO o cI cR cS (va_up x 0 (c_sv (x 0))) (b_enter v c) (wV o cI cR (c_put V ((x 0 3 + x 0 4) % 6) v))) t.heap) (va_A (wO o cI cR cS x v (wV o cI cR V)) sz)) 0 0 (va_A (wO o cI cR cS x v (wV o cI cR V)) sz) := by
  refine Met.ofW (cc := cX4_come) (maxL := 2) (ret := (some .int)) (by decide) rfl ?_
  intro p e s m args below meth cd s₁ B hml hv
  obtain ⟨rfl, hsz, hP, hK, hD0, hN⟩ := hv
  have hx := B.exec
  have hb := B.bytes
  have hrt := B.returns
  have hts := atoms_spec (ws := wsX4_come) B.pre
  have hown : s.vm.findClass RX4 = some m.cls := findClass_of_methodNamed B.named
  have hlocks := B.notSynchronized
  subst hsz
  have hD := hD0.self (sz := s.heap.size)
  generalize hAe : va_A (wO o cI cR cS x v (wV o cI cR V)) s.heap.size = A at hD ⊢
  have hA : ∀ q : Nat, s.heap.size ≤ q → A q := fun q h => by rw [← hAe]; exact Or.inr h
  have hS : va_S A s.heap s.heap [] := va_S.rf
  have hl := lv_entry ([.ref (o 0), .int (nI c)]) (n := 2) (Nat.le_of_ble_eq_true rfl)
  rw [lg_entry_eq]
  generalize (lg_sl ([.ref (o 0), .int (nI c)]) ++ List.replicate (2 - (lg_sl ([.ref (o 0), .int (nI c)])).length) Slot.unset).toArray = ls at hl ⊢
  have hl : lv_has ls 2 [(0, .ref (o 0)), (1, .int (nI c))] := hl
  have hSc := hSI
  obtain ⟨⟨i1, i2, i3, hpl⟩, i5⟩ := hSI
  refine lv_iload_n hx hb dX4_come_0 rfl (lv_at hl 1 rfl) ?_
  refine o_const (k := 3) hx hb dX4_come_1 (by decide) ?_
  refine o_ri (va_runS (As := [.int (nI c), .int (nI 3)]) (rest := []) ⟨hx, hb, hml, hown, hts⟩ (k_X4_isBelow l D cI cR cS cL c 3 (by show c < 2 ^ 32; first | assumption | omega) (by show 3 < 2 ^ 31; first | assumption | omega)) (va_cwS 2 hts gX4_come_X4_isBelow rfl rfl rfl (by decide +kernel) ⟨Nat.le_of_ble_eq_true rfl, Nat.le_of_ble_eq_true rfl⟩) (o_pR hK hN (hP.sub (ws' := []) [] rfl)) rfl rfl hl.1 rfl (lv_room (Nat.le_of_ble_eq_true rfl)) dX4_come_2 ⟨Nat.zero_le _, Nat.zero_le _⟩) (fun r_2 e_1 => ?_)
  have e_1 : r_2 = nI (bn (c < 3)) := e_1
  subst e_1
  refine o_ifnz (tgt := 18) hx hb dX4_come_5 (by decide) (fun c_3 => ?_) (fun c_3 => ?_)
  · skip
    refine lv_aload_n hx hb dX4_come_18 rfl (lv_at hl 0 rfl) ?_
    refine va_get (D := D) (ci := 4) (v := .ref (o 5)) (C := RX4) (T := TX4) (N := 6) hx hb hts inX4_come_X4 hown hK hP 0 rfl rfl 0 (by decide) (hts (.fieldLink RX4 10 "OddNotice" "now" "LOddNotice$State;") (List.mem_of_getElem? (i := 5) (by decide +kernel))) (fun _ h9 => h9) rfl dX4_come_19 ?_
    refine va_get (D := D) (ci := 2) (v := .ref (o 6)) (C := RX2) (T := TX2) (N := 4) hx hb hts inX4_come_X2 hown hK hP 5 rfl rfl 0 (by decide) (hts (.fieldLink RX4 42 "OddNotice$State" "board" "LOddNotice$Board;") (List.mem_of_getElem? (i := 6) (by decide +kernel))) (fun _ h9 => h9) rfl dX4_come_22 ?_
    refine lv_iload_n hx hb dX4_come_25 rfl (lv_at hl 1 rfl) ?_
    refine o_ri (va_runV (As := [.int (nI c)]) (rest := []) ⟨hx, hb, hml, hown, hts⟩ (k_X0_isAway l D cI cR cS cL (fun k => o (k + 6)) v c (by show c < 3; first | assumption | omega) (by have := hpl c (by omega); omega)) (cwV 1 hts gX4_come_X0_isAway rfl rfl rfl (by decide +kernel) ⟨Nat.le_of_ble_eq_true rfl, Nat.le_of_ble_eq_true rfl⟩) (o_v (o_pR hK hN (hP.sub (ws' := (wB (fun k => o (k + 6)) cI v)) [7, 8, 9, 10, 11] rfl)) (va_recv hK hP (ci := 0) (q0 := 7) rfl rfl)) rfl rfl hl.1 rfl (lv_room (Nat.le_of_ble_eq_true rfl)) dX4_come_26 ⟨Nat.zero_le _, Nat.zero_le _⟩) (fun r_5 e_4 => ?_)
    have e_4 : r_5 = nI (bn (v 3 c = 4294967295)) := e_4
    subst e_4
    refine o_ifnz (tgt := 42) hx hb dX4_come_29 (by decide) (fun c_6 => ?_) (fun c_6 => ?_)
    · skip
      refine lv_aload_n hx hb dX4_come_42 rfl (lv_at hl 0 rfl) ?_
      refine o_wvA (va_runV (As := []) (rest := []) ⟨hx, hb, hml, hown, hts⟩ (k_X4_saveState l D cI cR cS cL s.heap.size o x v V b (hSc) (by show b < 2 ^ 28; first | assumption | omega) (by show x 0 3 < 6; first | assumption | omega) (by show x 0 4 ≤ 6; first | assumption | omega)) (cwV 0 hts gX4_come_X4_saveState rfl rfl rfl (by decide +kernel) ⟨Nat.le_of_ble_eq_true rfl, Nat.le_of_ble_eq_true rfl⟩) (o_v (o_pB hK hN hP hD) (va_recv hK hP (ci := 4) (q0 := 0) rfl rfl)) rfl rfl hl.1 rfl (lv_room (Nat.le_of_ble_eq_true rfl)) dX4_come_43 ⟨Nat.zero_le _, Nat.zero_le _⟩) hD hS hA (fun _ => rfl) (fun _ H locs e_7 hP hD hS => ?_)
      have hP : va_P D vwCl (wO o cI cR cS (va_up x 0 (c_sv (x 0))) v (wV o cI cR (c_put V ((x 0 3 + x 0 4) % 6) v))) H := hP
      have hD : va_D A (wO o cI cR cS (va_up x 0 (c_sv (x 0))) v (wV o cI cR (c_put V ((x 0 3 + x 0 4) % 6) v))) := hD
      refine lv_aload_n hx hb dX4_come_46 rfl (lv_at hl 0 rfl) ?_
      refine va_get (D := D) (ci := 4) (v := .ref (o 5)) (C := RX4) (T := TX4) (N := 6) hx hb hts inX4_come_X4 hown hK hP 0 rfl rfl 0 (by decide) (hts (.fieldLink RX4 10 "OddNotice" "now" "LOddNotice$State;") (List.mem_of_getElem? (i := 5) (by decide +kernel))) (fun _ h9 => h9) rfl dX4_come_47 ?_
      refine va_get (D := D) (ci := 2) (v := .ref (o 6)) (C := RX2) (T := TX2) (N := 4) hx hb hts inX4_come_X2 hown hK hP 5 rfl rfl 0 (by decide) (hts (.fieldLink RX4 42 "OddNotice$State" "board" "LOddNotice$Board;") (List.mem_of_getElem? (i := 6) (by decide +kernel))) (fun _ h9 => h9) rfl dX4_come_50 ?_
      refine lv_iload_n hx hb dX4_come_53 rfl (lv_at hl 1 rfl) ?_
      refine o_wi (va_runV (As := [.int (nI c)]) (rest := []) ⟨hx, hb, hml, hown, hts⟩ (k_X0_enter l D cI cR cS cL H.size (fun k => o (k + 6)) v c (by show c < 3; first | assumption | omega) (fun c hc => by have := hpl c hc; omega)) (cwV 1 hts gX4_come_X0_enter rfl rfl rfl (by decide +kernel) ⟨Nat.le_of_ble_eq_true rfl, Nat.le_of_ble_eq_true rfl⟩) (o_v (o_pB hK hN (hP.sub (ws' := (wB (fun k => o (k + 6)) cI v)) [7, 8, 9, 10, 11] rfl) (hD.sub (ws' := (wB (fun k => o (k + 6)) cI v)) [7, 8, 9, 10, 11] (by decide) rfl)) (va_recv hK hP (ci := 0) (q0 := 7) rfl rfl)) rfl rfl hl.1 rfl (lv_room (Nat.le_of_ble_eq_true rfl)) dX4_come_54 ⟨Nat.zero_le _, Nat.zero_le _⟩) hP hD hS hA [7, 8, 9, 10, 11] (by decide) rfl (fun _ => rfl) (fun r_9 _ H locs e_8 hP hD hS => ?_)
      have e_8 : r_9 = nI (b_inl (v 3)) := e_8
      subst e_8
      have hP : va_P D vwCl (wO o cI cR cS (va_up x 0 (c_sv (x 0))) (va_up (va_up v 0 (va_up (v 0) 0 (if b_inl (v 3) = 0 then v 0 0 + 1 else v 0 0))) 3 (va_up (v 3) c (b_inl (v 3)))) (wV o cI cR (c_put V ((x 0 3 + x 0 4) % 6) v))) H := hP
      have hD : va_D A (wO o cI cR cS (va_up x 0 (c_sv (x 0))) (va_up (va_up v 0 (va_up (v 0) 0 (if b_inl (v 3) = 0 then v 0 0 + 1 else v 0 0))) 3 (va_up (v 3) c (b_inl (v 3)))) (wV o cI cR (c_put V ((x 0 3 + x 0 4) % 6) v))) := hD
      have w_10 : (wO o cI cR cS (va_up x 0 (c_sv (x 0))) (b_enter v c) (wV o cI cR (c_put V ((x 0 3 + x 0 4) % 6) v))) = (wO o cI cR cS (va_up x 0 (c_sv (x 0))) (va_up (va_up v 0 (va_up (v 0) 0 (if b_inl (v 3) = 0 then v 0 0 + 1 else v 0 0))) 3 (va_up (v 3) c (b_inl (v 3)))) (wV o cI cR (c_put V ((x 0 3 + x 0 4) % 6) v))) := rfl
      rw [← w_10] at hP
      exact W.iret (v := nI (b_inl (v 3))) hx hb hrt (fun t ht hW => ⟨⟨_, (), rfl, rfl, by show va_P D vwCl _ t.heap; rw [ht]; exact hP⟩, hS.F ht⟩) hS.2.2 dX4_come_57
    · skip
      exfalso
      omega
  · skip
    exfalso
    omega
theorem inX4_chalk_X4 : ∀ w ∈ wsX40, w ∈ wsX4_chalk := by decide +kernel
theorem inX4_chalk_X2 : ∀ w ∈ wsX20, w ∈ wsX4_chalk := by decide +kernel
set_option maxHeartbeats 4000000 in
set_option maxRecDepth 100000 in
theorem k_X4_chalk (l : Launch) (D : va_G) (cI cR cS cL : ClassId) (sz : Nat) (o : Nat → Nat) (x : Nat → Nat → Nat) (v : Nat → Nat → Nat) (V : Nat → Nat → Nat → Nat) (b : Nat) (f : Nat) (y : Nat) (hSI : s_I b v) (hb : b < 2 ^ 28) (h3 : x 0 3 < 6) (h4 : x 0 4 ≤ 6) (hf : f < 5) (hy0 : y < 100) (ho : v 0 0 % 2 = 1) : Met l yX4_chalk wsX4_chalk ({ frames := 4, cells := 0, slots := 0, locals := 81 }) (va_Pc [.ref (o 0), .int (nI f), .int (nI y)] (o_B D (o_T cI cR cS cL) (wO o cI cR cS x v (wV o cI cR V)) sz)) (va_Qi (fun rz (_ : Unit) => rz = nI (v 1 f)) (fun (_ : Unit) t => va_P D vwCl (wO o cI cR cS (va_up x 0 (c_sv (x 0))) (b_write v f y) (wV o cI cR (c_put V ((x 0 3 + x 0 4) % 6) v))) t.heap) (va_A (wO o cI cR cS x v (wV o cI cR V)) sz)) 0 0 (va_A (wO o cI cR cS x v (wV o cI cR V)) sz) := by
  refine Met.ofW (cc := cX4_chalk) (maxL := 3) (ret := (some .int)) (by decide) rfl ?_
  intro p e s m args below meth cd s₁ B hml hv
  obtain ⟨rfl, hsz, hP, hK, hD0, hN⟩ := hv
  have hx := B.exec
  have hb := B.bytes
  have hrt := B.returns
  have hts := atoms_spec (ws := wsX4_chalk) B.pre
  have hown : s.vm.findClass RX4 = some m.cls := findClass_of_methodNamed B.named
  have hlocks := B.notSynchronized
  subst hsz
  have hD := hD0.self (sz := s.heap.size)
  generalize hAe : va_A (wO o cI cR cS x v (wV o cI cR V)) s.heap.size = A at hD ⊢
  have hA : ∀ q : Nat, s.heap.size ≤ q → A q := fun q h => by rw [← hAe]; exact Or.inr h
  have hS : va_S A s.heap s.heap [] := va_S.rf
  have hl := lv_entry ([.ref (o 0), .int (nI f), .int (nI y)]) (n := 3) (Nat.le_of_ble_eq_true rfl)
  rw [lg_entry_eq]
  generalize (lg_sl ([.ref (o 0), .int (nI f), .int (nI y)]) ++ List.replicate (3 - (lg_sl ([.ref (o 0), .int (nI f), .int (nI y)])).length) Slot.unset).toArray = ls at hl ⊢
  have hl : lv_has ls 3 [(0, .ref (o 0)), (1, .int (nI f)), (2, .int (nI y))] := hl
  have hSc := hSI
  obtain ⟨⟨i1, i2, i3, hpl⟩, i5⟩ := hSI
  refine lv_iload_n hx hb dX4_chalk_0 rfl (lv_at hl 1 rfl) ?_
  refine o_const (k := 5) hx hb dX4_chalk_1 (by decide) ?_
  refine o_ri (va_runS (As := [.int (nI f), .int (nI 5)]) (rest := []) ⟨hx, hb, hml, hown, hts⟩ (k_X4_isBelow l D cI cR cS cL f 5 (by show f < 2 ^ 32; first | assumption | omega) (by show 5 < 2 ^ 31; first | assumption | omega)) (va_cwS 2 hts gX4_chalk_X4_isBelow rfl rfl rfl (by decide +kernel) ⟨Nat.le_of_ble_eq_true rfl, Nat.le_of_ble_eq_true rfl⟩) (o_pR hK hN (hP.sub (ws' := []) [] rfl)) rfl rfl hl.1 rfl (lv_room (Nat.le_of_ble_eq_true rfl)) dX4_chalk_2 ⟨Nat.zero_le _, Nat.zero_le _⟩) (fun r_2 e_1 => ?_)
  have e_1 : r_2 = nI (bn (f < 5)) := e_1
  subst e_1
  refine o_ifnz (tgt := 18) hx hb dX4_chalk_5 (by decide) (fun c_3 => ?_) (fun c_3 => ?_)
  · skip
    refine lv_iload_n hx hb dX4_chalk_18 rfl (lv_at hl 2 rfl) ?_
    refine o_bipush (k := 100) hx hb dX4_chalk_19 (by decide) ?_
    refine o_ri (va_runS (As := [.int (nI y), .int (nI 100)]) (rest := []) ⟨hx, hb, hml, hown, hts⟩ (k_X4_isBelow l D cI cR cS cL y 100 (by show y < 2 ^ 32; first | assumption | omega) (by show 100 < 2 ^ 31; first | assumption | omega)) (va_cwS 2 hts gX4_chalk_X4_isBelow rfl rfl rfl (by decide +kernel) ⟨Nat.le_of_ble_eq_true rfl, Nat.le_of_ble_eq_true rfl⟩) (o_pR hK hN (hP.sub (ws' := []) [] rfl)) rfl rfl hl.1 rfl (lv_room (Nat.le_of_ble_eq_true rfl)) dX4_chalk_21 ⟨Nat.zero_le _, Nat.zero_le _⟩) (fun r_5 e_4 => ?_)
    have e_4 : r_5 = nI (bn (y < 100)) := e_4
    subst e_4
    refine o_ifnz (tgt := 37) hx hb dX4_chalk_24 (by decide) (fun c_6 => ?_) (fun c_6 => ?_)
    · skip
      refine lv_aload_n hx hb dX4_chalk_37 rfl (lv_at hl 0 rfl) ?_
      refine va_get (D := D) (ci := 4) (v := .ref (o 5)) (C := RX4) (T := TX4) (N := 6) hx hb hts inX4_chalk_X4 hown hK hP 0 rfl rfl 0 (by decide) (hts (.fieldLink RX4 10 "OddNotice" "now" "LOddNotice$State;") (List.mem_of_getElem? (i := 7) (by decide +kernel))) (fun _ h9 => h9) rfl dX4_chalk_38 ?_
      refine va_get (D := D) (ci := 2) (v := .ref (o 6)) (C := RX2) (T := TX2) (N := 4) hx hb hts inX4_chalk_X2 hown hK hP 5 rfl rfl 0 (by decide) (hts (.fieldLink RX4 42 "OddNotice$State" "board" "LOddNotice$Board;") (List.mem_of_getElem? (i := 8) (by decide +kernel))) (fun _ h9 => h9) rfl dX4_chalk_41 ?_
      refine o_ri (va_runV (As := []) (rest := []) ⟨hx, hb, hml, hown, hts⟩ (k_X0_isOdd l D cI cR cS cL (fun k => o (k + 6)) v (by show v 0 0 < 2 ^ 31; first | assumption | omega)) (cwV 0 hts gX4_chalk_X0_isOdd rfl rfl rfl (by decide +kernel) ⟨Nat.le_of_ble_eq_true rfl, Nat.le_of_ble_eq_true rfl⟩) (o_v (o_pR hK hN (hP.sub (ws' := (wB (fun k => o (k + 6)) cI v)) [7, 8, 9, 10, 11] rfl)) (va_recv hK hP (ci := 0) (q0 := 7) rfl rfl)) rfl rfl hl.1 rfl (lv_room (Nat.le_of_ble_eq_true rfl)) dX4_chalk_44 ⟨Nat.zero_le _, Nat.zero_le _⟩) (fun r_8 e_7 => ?_)
      have e_7 : r_8 = nI (bn (v 0 0 % 2 = 1)) := e_7
      subst e_7
      refine o_ifnz (tgt := 60) hx hb dX4_chalk_47 (by decide) (fun c_9 => ?_) (fun c_9 => ?_)
      · skip
        refine lv_aload_n hx hb dX4_chalk_60 rfl (lv_at hl 0 rfl) ?_
        refine o_wvA (va_runV (As := []) (rest := []) ⟨hx, hb, hml, hown, hts⟩ (k_X4_saveState l D cI cR cS cL s.heap.size o x v V b (hSc) (by show b < 2 ^ 28; first | assumption | omega) (by show x 0 3 < 6; first | assumption | omega) (by show x 0 4 ≤ 6; first | assumption | omega)) (cwV 0 hts gX4_chalk_X4_saveState rfl rfl rfl (by decide +kernel) ⟨Nat.le_of_ble_eq_true rfl, Nat.le_of_ble_eq_true rfl⟩) (o_v (o_pB hK hN hP hD) (va_recv hK hP (ci := 4) (q0 := 0) rfl rfl)) rfl rfl hl.1 rfl (lv_room (Nat.le_of_ble_eq_true rfl)) dX4_chalk_61 ⟨Nat.zero_le _, Nat.zero_le _⟩) hD hS hA (fun _ => rfl) (fun _ H locs e_10 hP hD hS => ?_)
        have hP : va_P D vwCl (wO o cI cR cS (va_up x 0 (c_sv (x 0))) v (wV o cI cR (c_put V ((x 0 3 + x 0 4) % 6) v))) H := hP
        have hD : va_D A (wO o cI cR cS (va_up x 0 (c_sv (x 0))) v (wV o cI cR (c_put V ((x 0 3 + x 0 4) % 6) v))) := hD
        refine lv_aload_n hx hb dX4_chalk_64 rfl (lv_at hl 0 rfl) ?_
        refine va_get (D := D) (ci := 4) (v := .ref (o 5)) (C := RX4) (T := TX4) (N := 6) hx hb hts inX4_chalk_X4 hown hK hP 0 rfl rfl 0 (by decide) (hts (.fieldLink RX4 10 "OddNotice" "now" "LOddNotice$State;") (List.mem_of_getElem? (i := 7) (by decide +kernel))) (fun _ h9 => h9) rfl dX4_chalk_65 ?_
        refine va_get (D := D) (ci := 2) (v := .ref (o 6)) (C := RX2) (T := TX2) (N := 4) hx hb hts inX4_chalk_X2 hown hK hP 5 rfl rfl 0 (by decide) (hts (.fieldLink RX4 42 "OddNotice$State" "board" "LOddNotice$Board;") (List.mem_of_getElem? (i := 8) (by decide +kernel))) (fun _ h9 => h9) rfl dX4_chalk_68 ?_
        refine lv_iload_n hx hb dX4_chalk_71 rfl (lv_at hl 1 rfl) ?_
        refine lv_iload_n hx hb dX4_chalk_72 rfl (lv_at hl 2 rfl) ?_
        refine o_wi (va_runV (As := [.int (nI f), .int (nI y)]) (rest := []) ⟨hx, hb, hml, hown, hts⟩ (k_X0_write l D cI cR cS cL H.size (fun k => o (k + 6)) v f y (by show f < 5; first | assumption | omega)) (cwV 2 hts gX4_chalk_X0_write rfl rfl rfl (by decide +kernel) ⟨Nat.le_of_ble_eq_true rfl, Nat.le_of_ble_eq_true rfl⟩) (o_v (o_pB hK hN (hP.sub (ws' := (wB (fun k => o (k + 6)) cI v)) [7, 8, 9, 10, 11] rfl) (hD.sub (ws' := (wB (fun k => o (k + 6)) cI v)) [7, 8, 9, 10, 11] (by decide) rfl)) (va_recv hK hP (ci := 0) (q0 := 7) rfl rfl)) rfl rfl hl.1 rfl (lv_room (Nat.le_of_ble_eq_true rfl)) dX4_chalk_73 ⟨Nat.zero_le _, Nat.zero_le _⟩) hP hD hS hA [7, 8, 9, 10, 11] (by decide) rfl (fun _ => rfl) (fun r_12 _ H locs e_11 hP hD hS => ?_)
        have e_11 : r_12 = nI (v 1 f) := e_11
        subst e_11
        have hP : va_P D vwCl (wO o cI cR cS (va_up x 0 (c_sv (x 0))) (va_up v 1 (va_up (v 1) f y)) (wV o cI cR (c_put V ((x 0 3 + x 0 4) % 6) v))) H := hP
        have hD : va_D A (wO o cI cR cS (va_up x 0 (c_sv (x 0))) (va_up v 1 (va_up (v 1) f y)) (wV o cI cR (c_put V ((x 0 3 + x 0 4) % 6) v))) := hD
        have w_13 : (wO o cI cR cS (va_up x 0 (c_sv (x 0))) (b_write v f y) (wV o cI cR (c_put V ((x 0 3 + x 0 4) % 6) v))) = (wO o cI cR cS (va_up x 0 (c_sv (x 0))) (va_up v 1 (va_up (v 1) f y)) (wV o cI cR (c_put V ((x 0 3 + x 0 4) % 6) v))) := rfl
        rw [← w_13] at hP
        exact W.iret (v := nI (v 1 f)) hx hb hrt (fun t ht hW => ⟨⟨_, (), rfl, rfl, by show va_P D vwCl _ t.heap; rw [ht]; exact hP⟩, hS.F ht⟩) hS.2.2 dX4_chalk_76
      · skip
        exfalso
        omega
    · skip
      exfalso
      omega
  · skip
    exfalso
    omega
theorem inX4_done_X4 : ∀ w ∈ wsX40, w ∈ wsX4_done := by decide +kernel
theorem inX4_done_X2 : ∀ w ∈ wsX20, w ∈ wsX4_done := by decide +kernel
set_option maxHeartbeats 4000000 in
set_option maxRecDepth 100000 in
theorem k_X4_done (l : Launch) (D : va_G) (cI cR cS cL : ClassId) (sz : Nat) (o : Nat → Nat) (x : Nat → Nat → Nat) (v : Nat → Nat → Nat) (V : Nat → Nat → Nat → Nat) (b : Nat) (c : Nat) (hSI : s_I b v) (hb : b < 2 ^ 28) (h3 : x 0 3 < 6) (h4 : x 0 4 ≤ 6) (hc : c < 3) (ha : v 3 c = 0) : Met l yX4_done wsX4_done ({ frames := 4, cells := 0, slots := 0, locals := 84 }) (va_Pc [.ref (o 0), .int (nI c)] (o_B D (o_T cI cR cS cL) (wO o cI cR cS x v (wV o cI cR V)) sz)) (va_Qi (fun rz (_ : Unit) => rz = nI ((v 0 0 + 1) / 2)) (fun (_ : Unit) t => va_P D vwCl (wO o cI cR cS (va_up x 0 (c_sv (x 0))) (b_leave v c) (wV o cI cR (c_put V ((x 0 3 + x 0 4) % 6) v))) t.heap) (va_A (wO o cI cR cS x v (wV o cI cR V)) sz)) 0 0 (va_A (wO o cI cR cS x v (wV o cI cR V)) sz) := by
  refine Met.ofW (cc := cX4_done) (maxL := 2) (ret := (some .int)) (by decide) rfl ?_
  intro p e s m args below meth cd s₁ B hml hv
  obtain ⟨rfl, hsz, hP, hK, hD0, hN⟩ := hv
  have hx := B.exec
  have hb := B.bytes
  have hrt := B.returns
  have hts := atoms_spec (ws := wsX4_done) B.pre
  have hown : s.vm.findClass RX4 = some m.cls := findClass_of_methodNamed B.named
  have hlocks := B.notSynchronized
  subst hsz
  have hD := hD0.self (sz := s.heap.size)
  generalize hAe : va_A (wO o cI cR cS x v (wV o cI cR V)) s.heap.size = A at hD ⊢
  have hA : ∀ q : Nat, s.heap.size ≤ q → A q := fun q h => by rw [← hAe]; exact Or.inr h
  have hS : va_S A s.heap s.heap [] := va_S.rf
  have hl := lv_entry ([.ref (o 0), .int (nI c)]) (n := 2) (Nat.le_of_ble_eq_true rfl)
  rw [lg_entry_eq]
  generalize (lg_sl ([.ref (o 0), .int (nI c)]) ++ List.replicate (2 - (lg_sl ([.ref (o 0), .int (nI c)])).length) Slot.unset).toArray = ls at hl ⊢
  have hl : lv_has ls 2 [(0, .ref (o 0)), (1, .int (nI c))] := hl
  have hSc := hSI
  obtain ⟨⟨i1, i2, i3, hpl⟩, i5⟩ := hSI
  refine lv_iload_n hx hb dX4_done_0 rfl (lv_at hl 1 rfl) ?_
  refine o_const (k := 3) hx hb dX4_done_1 (by decide) ?_
  refine o_ri (va_runS (As := [.int (nI c), .int (nI 3)]) (rest := []) ⟨hx, hb, hml, hown, hts⟩ (k_X4_isBelow l D cI cR cS cL c 3 (by show c < 2 ^ 32; first | assumption | omega) (by show 3 < 2 ^ 31; first | assumption | omega)) (va_cwS 2 hts gX4_done_X4_isBelow rfl rfl rfl (by decide +kernel) ⟨Nat.le_of_ble_eq_true rfl, Nat.le_of_ble_eq_true rfl⟩) (o_pR hK hN (hP.sub (ws' := []) [] rfl)) rfl rfl hl.1 rfl (lv_room (Nat.le_of_ble_eq_true rfl)) dX4_done_2 ⟨Nat.zero_le _, Nat.zero_le _⟩) (fun r_2 e_1 => ?_)
  have e_1 : r_2 = nI (bn (c < 3)) := e_1
  subst e_1
  refine o_ifnz (tgt := 18) hx hb dX4_done_5 (by decide) (fun c_3 => ?_) (fun c_3 => ?_)
  · skip
    refine lv_aload_n hx hb dX4_done_18 rfl (lv_at hl 0 rfl) ?_
    refine va_get (D := D) (ci := 4) (v := .ref (o 5)) (C := RX4) (T := TX4) (N := 6) hx hb hts inX4_done_X4 hown hK hP 0 rfl rfl 0 (by decide) (hts (.fieldLink RX4 10 "OddNotice" "now" "LOddNotice$State;") (List.mem_of_getElem? (i := 5) (by decide +kernel))) (fun _ h9 => h9) rfl dX4_done_19 ?_
    refine va_get (D := D) (ci := 2) (v := .ref (o 6)) (C := RX2) (T := TX2) (N := 4) hx hb hts inX4_done_X2 hown hK hP 5 rfl rfl 0 (by decide) (hts (.fieldLink RX4 42 "OddNotice$State" "board" "LOddNotice$Board;") (List.mem_of_getElem? (i := 6) (by decide +kernel))) (fun _ h9 => h9) rfl dX4_done_22 ?_
    refine lv_iload_n hx hb dX4_done_25 rfl (lv_at hl 1 rfl) ?_
    refine o_ri (va_runV (As := [.int (nI c)]) (rest := []) ⟨hx, hb, hml, hown, hts⟩ (k_X0_isChalking l D cI cR cS cL (fun k => o (k + 6)) v c (by show c < 3; first | assumption | omega) (by have := hpl c (by omega); omega)) (cwV 1 hts gX4_done_X0_isChalking rfl rfl rfl (by decide +kernel) ⟨Nat.le_of_ble_eq_true rfl, Nat.le_of_ble_eq_true rfl⟩) (o_v (o_pR hK hN (hP.sub (ws' := (wB (fun k => o (k + 6)) cI v)) [7, 8, 9, 10, 11] rfl)) (va_recv hK hP (ci := 0) (q0 := 7) rfl rfl)) rfl rfl hl.1 rfl (lv_room (Nat.le_of_ble_eq_true rfl)) dX4_done_26 ⟨Nat.zero_le _, Nat.zero_le _⟩) (fun r_5 e_4 => ?_)
    have e_4 : r_5 = nI (bn (v 3 c = 0)) := e_4
    subst e_4
    refine o_ifnz (tgt := 42) hx hb dX4_done_29 (by decide) (fun c_6 => ?_) (fun c_6 => ?_)
    · skip
      refine lv_aload_n hx hb dX4_done_42 rfl (lv_at hl 0 rfl) ?_
      refine o_wvA (va_runV (As := []) (rest := []) ⟨hx, hb, hml, hown, hts⟩ (k_X4_saveState l D cI cR cS cL s.heap.size o x v V b (hSc) (by show b < 2 ^ 28; first | assumption | omega) (by show x 0 3 < 6; first | assumption | omega) (by show x 0 4 ≤ 6; first | assumption | omega)) (cwV 0 hts gX4_done_X4_saveState rfl rfl rfl (by decide +kernel) ⟨Nat.le_of_ble_eq_true rfl, Nat.le_of_ble_eq_true rfl⟩) (o_v (o_pB hK hN hP hD) (va_recv hK hP (ci := 4) (q0 := 0) rfl rfl)) rfl rfl hl.1 rfl (lv_room (Nat.le_of_ble_eq_true rfl)) dX4_done_43 ⟨Nat.zero_le _, Nat.zero_le _⟩) hD hS hA (fun _ => rfl) (fun _ H locs e_7 hP hD hS => ?_)
      have hP : va_P D vwCl (wO o cI cR cS (va_up x 0 (c_sv (x 0))) v (wV o cI cR (c_put V ((x 0 3 + x 0 4) % 6) v))) H := hP
      have hD : va_D A (wO o cI cR cS (va_up x 0 (c_sv (x 0))) v (wV o cI cR (c_put V ((x 0 3 + x 0 4) % 6) v))) := hD
      refine lv_aload_n hx hb dX4_done_46 rfl (lv_at hl 0 rfl) ?_
      refine va_get (D := D) (ci := 4) (v := .ref (o 5)) (C := RX4) (T := TX4) (N := 6) hx hb hts inX4_done_X4 hown hK hP 0 rfl rfl 0 (by decide) (hts (.fieldLink RX4 10 "OddNotice" "now" "LOddNotice$State;") (List.mem_of_getElem? (i := 5) (by decide +kernel))) (fun _ h9 => h9) rfl dX4_done_47 ?_
      refine va_get (D := D) (ci := 2) (v := .ref (o 6)) (C := RX2) (T := TX2) (N := 4) hx hb hts inX4_done_X2 hown hK hP 5 rfl rfl 0 (by decide) (hts (.fieldLink RX4 42 "OddNotice$State" "board" "LOddNotice$Board;") (List.mem_of_getElem? (i := 6) (by decide +kernel))) (fun _ h9 => h9) rfl dX4_done_50 ?_
      refine lv_iload_n hx hb dX4_done_53 rfl (lv_at hl 1 rfl) ?_
      refine o_wi (va_runV (As := [.int (nI c)]) (rest := []) ⟨hx, hb, hml, hown, hts⟩ (k_X0_leave l D cI cR cS cL H.size (fun k => o (k + 6)) v c (by show c < 3; first | assumption | omega) (by show v 0 0 < 2 ^ 30; first | assumption | omega) (fun c hc => by have := hpl c hc; omega)) (cwV 1 hts gX4_done_X0_leave rfl rfl rfl (by decide +kernel) ⟨Nat.le_of_ble_eq_true rfl, Nat.le_of_ble_eq_true rfl⟩) (o_v (o_pB hK hN (hP.sub (ws' := (wB (fun k => o (k + 6)) cI v)) [7, 8, 9, 10, 11] rfl) (hD.sub (ws' := (wB (fun k => o (k + 6)) cI v)) [7, 8, 9, 10, 11] (by decide) rfl)) (va_recv hK hP (ci := 0) (q0 := 7) rfl rfl)) rfl rfl hl.1 rfl (lv_room (Nat.le_of_ble_eq_true rfl)) dX4_done_54 ⟨Nat.zero_le _, Nat.zero_le _⟩) hP hD hS hA [7, 8, 9, 10, 11] (by decide) rfl (fun _ => rfl) (fun r_9 _ H locs e_8 hP hD hS => ?_)
      have e_8 : r_9 = nI ((v 0 0 + 1) / 2) := e_8
      subst e_8
      have hP : va_P D vwCl (wO o cI cR cS (va_up x 0 (c_sv (x 0))) (va_up (va_up (va_up (va_up v 0 (va_up (v 0) 0 (if 0 < b_inl (b_stpf (v 3)) then v 0 0 + 2 else v 0 0 + 1))) 2 (va_up (v 2) c (v 2 c + 1))) 3 (b_stpf (v 3))) 4 (va_cpy (v 1) (v 4) 0 ((v 0 0 + 1) / 2 % 16 * 5) 5)) (wV o cI cR (c_put V ((x 0 3 + x 0 4) % 6) v))) H := hP
      have hD : va_D A (wO o cI cR cS (va_up x 0 (c_sv (x 0))) (va_up (va_up (va_up (va_up v 0 (va_up (v 0) 0 (if 0 < b_inl (b_stpf (v 3)) then v 0 0 + 2 else v 0 0 + 1))) 2 (va_up (v 2) c (v 2 c + 1))) 3 (b_stpf (v 3))) 4 (va_cpy (v 1) (v 4) 0 ((v 0 0 + 1) / 2 % 16 * 5) 5)) (wV o cI cR (c_put V ((x 0 3 + x 0 4) % 6) v))) := hD
      have w_10 : (wO o cI cR cS (va_up x 0 (c_sv (x 0))) (b_leave v c) (wV o cI cR (c_put V ((x 0 3 + x 0 4) % 6) v))) = (wO o cI cR cS (va_up x 0 (c_sv (x 0))) (va_up (va_up (va_up (va_up v 0 (va_up (v 0) 0 (if 0 < b_inl (b_stpf (v 3)) then v 0 0 + 2 else v 0 0 + 1))) 2 (va_up (v 2) c (v 2 c + 1))) 3 (b_stpf (v 3))) 4 (va_cpy (v 1) (v 4) 0 ((v 0 0 + 1) / 2 % 16 * 5) 5)) (wV o cI cR (c_put V ((x 0 3 + x 0 4) % 6) v))) := rfl
      rw [← w_10] at hP
      exact W.iret (v := nI ((v 0 0 + 1) / 2)) hx hb hrt (fun t ht hW => ⟨⟨_, (), rfl, rfl, by show va_P D vwCl _ t.heap; rw [ht]; exact hP⟩, hS.F ht⟩) hS.2.2 dX4_done_57
    · skip
      exfalso
      omega
  · skip
    exfalso
    omega
theorem inX4_set_X4 : ∀ w ∈ wsX40, w ∈ wsX4_set := by decide +kernel
theorem inX4_set_X2 : ∀ w ∈ wsX20, w ∈ wsX4_set := by decide +kernel
set_option maxHeartbeats 4000000 in
set_option maxRecDepth 100000 in
theorem k_X4_set (l : Launch) (D : va_G) (cI cR cS cL : ClassId) (sz : Nat) (o : Nat → Nat) (x : Nat → Nat → Nat) (v : Nat → Nat → Nat) (V : Nat → Nat → Nat → Nat) (b : Nat) (y : Nat) (hSI : s_I b v) (hb : b < 2 ^ 28) (h3 : x 0 3 < 6) (h4 : x 0 4 ≤ 6) (hy1 : 1 ≤ y) (hy2 : y ≤ 20) : Met l yX4_set wsX4_set ({ frames := 4, cells := 0, slots := 0, locals := 81 }) (va_Pc [.ref (o 0), .int (nI y)] (o_B D (o_T cI cR cS cL) (wO o cI cR cS x v (wV o cI cR V)) sz)) (va_Qi (fun rz (_ : Unit) => rz = nI (v 0 2)) (fun (_ : Unit) t => va_P D vwCl (wO o cI cR cS (va_up x 0 (c_sv (x 0))) (va_up v 0 (va_up (v 0) 2 y)) (wV o cI cR (c_put V ((x 0 3 + x 0 4) % 6) v))) t.heap) (va_A (wO o cI cR cS x v (wV o cI cR V)) sz)) 0 0 (va_A (wO o cI cR cS x v (wV o cI cR V)) sz) := by
  refine Met.ofW (cc := cX4_set) (maxL := 3) (ret := (some .int)) (by decide) rfl ?_
  intro p e s m args below meth cd s₁ B hml hv
  obtain ⟨rfl, hsz, hP, hK, hD0, hN⟩ := hv
  have hx := B.exec
  have hb := B.bytes
  have hrt := B.returns
  have hts := atoms_spec (ws := wsX4_set) B.pre
  have hown : s.vm.findClass RX4 = some m.cls := findClass_of_methodNamed B.named
  have hlocks := B.notSynchronized
  subst hsz
  have hD := hD0.self (sz := s.heap.size)
  generalize hAe : va_A (wO o cI cR cS x v (wV o cI cR V)) s.heap.size = A at hD ⊢
  have hA : ∀ q : Nat, s.heap.size ≤ q → A q := fun q h => by rw [← hAe]; exact Or.inr h
  have hS : va_S A s.heap s.heap [] := va_S.rf
  have hl := lv_entry ([.ref (o 0), .int (nI y)]) (n := 3) (Nat.le_of_ble_eq_true rfl)
  rw [lg_entry_eq]
  generalize (lg_sl ([.ref (o 0), .int (nI y)]) ++ List.replicate (3 - (lg_sl ([.ref (o 0), .int (nI y)])).length) Slot.unset).toArray = ls at hl ⊢
  have hl : lv_has ls 3 [(0, .ref (o 0)), (1, .int (nI y))] := hl
  have hSc := hSI
  obtain ⟨⟨i1, i2, i3, hpl⟩, i5⟩ := hSI
  refine lv_iload_n hx hb dX4_set_0 rfl (lv_at hl 1 rfl) ?_
  refine o_const (k := 1) hx hb dX4_set_1 (by decide) ?_
  refine o_icmp_lt (tgt := 11) hx hb dX4_set_2 (by decide) (by omega) (Nat.le_of_ble_eq_true rfl) (fun c_1 => ?_) (fun c_1 => ?_)
  · skip
    exfalso
    omega
  · skip
    refine lv_iload_n hx hb dX4_set_5 rfl (lv_at hl 1 rfl) ?_
    refine o_bipush (k := 20) hx hb dX4_set_6 (by decide) ?_
    refine o_icmp_le (tgt := 21) hx hb dX4_set_8 (by decide) (by omega) (Nat.le_of_ble_eq_true rfl) (fun c_2 => ?_) (fun c_2 => ?_)
    · skip
      refine lv_aload_n hx hb dX4_set_21 rfl (lv_at hl 0 rfl) ?_
      refine o_wvA (va_runV (As := []) (rest := []) ⟨hx, hb, hml, hown, hts⟩ (k_X4_saveState l D cI cR cS cL s.heap.size o x v V b (hSc) (by show b < 2 ^ 28; first | assumption | omega) (by show x 0 3 < 6; first | assumption | omega) (by show x 0 4 ≤ 6; first | assumption | omega)) (cwV 0 hts gX4_set_X4_saveState rfl rfl rfl (by decide +kernel) ⟨Nat.le_of_ble_eq_true rfl, Nat.le_of_ble_eq_true rfl⟩) (o_v (o_pB hK hN hP hD) (va_recv hK hP (ci := 4) (q0 := 0) rfl rfl)) rfl rfl hl.1 rfl (lv_room (Nat.le_of_ble_eq_true rfl)) dX4_set_22 ⟨Nat.zero_le _, Nat.zero_le _⟩) hD hS hA (fun _ => rfl) (fun _ H locs e_3 hP hD hS => ?_)
      have hP : va_P D vwCl (wO o cI cR cS (va_up x 0 (c_sv (x 0))) v (wV o cI cR (c_put V ((x 0 3 + x 0 4) % 6) v))) H := hP
      have hD : va_D A (wO o cI cR cS (va_up x 0 (c_sv (x 0))) v (wV o cI cR (c_put V ((x 0 3 + x 0 4) % 6) v))) := hD
      refine lv_aload_n hx hb dX4_set_25 rfl (lv_at hl 0 rfl) ?_
      refine va_get (D := D) (ci := 4) (v := .ref (o 5)) (C := RX4) (T := TX4) (N := 6) hx hb hts inX4_set_X4 hown hK hP 0 rfl rfl 0 (by decide) (hts (.fieldLink RX4 10 "OddNotice" "now" "LOddNotice$State;") (List.mem_of_getElem? (i := 3) (by decide +kernel))) (fun _ h9 => h9) rfl dX4_set_26 ?_
      refine va_get (D := D) (ci := 2) (v := .int (nI (v 0 2))) (C := RX2) (T := TX2) (N := 4) hx hb hts inX4_set_X2 hown hK hP 5 rfl rfl 3 (by decide) (hts (.fieldLink RX4 122 "OddNotice$State" "setting" "I") (List.mem_of_getElem? (i := 4) (by decide +kernel))) (fun _ h9 => h9) rfl dX4_set_29 ?_
      refine lv_istore_n (lv' := [(2, .int (nI (v 0 2))), (0, .ref (o 0)), (1, .int (nI y))]) hx hb dX4_set_32 rfl hl (by decide) rfl (fun ls hl => ?_)
      refine lv_aload_n hx hb dX4_set_33 rfl (lv_at hl 1 rfl) ?_
      refine va_get (D := D) (ci := 4) (v := .ref (o 5)) (C := RX4) (T := TX4) (N := 6) hx hb hts inX4_set_X4 hown hK hP 0 rfl rfl 0 (by decide) (hts (.fieldLink RX4 10 "OddNotice" "now" "LOddNotice$State;") (List.mem_of_getElem? (i := 3) (by decide +kernel))) (fun _ h9 => h9) rfl dX4_set_34 ?_
      refine lv_iload_n hx hb dX4_set_37 rfl (lv_at hl 2 rfl) ?_
      refine va_put (D := D) (ci := 2) (v := .int (nI y)) (ty := .int) (C := RX2) (T := TX2) (N := 4) hx hb hts inX4_set_X2 tyX2 tyX2_ok nmX2 hown hK hP hD hS 5 rfl rfl 3 (by decide) (hts (.fieldLink RX4 122 "OddNotice$State" "setting" "I") (List.mem_of_getElem? (i := 4) (by decide +kernel))) (fun _ h9 => h9) rfl (by decide +kernel) rfl rfl (Nat.le_of_ble_eq_true rfl) dX4_set_38 (fun H locs hP hD hS => ?_)
      have hP : va_P D vwCl (wO o cI cR cS (va_up x 0 (c_sv (x 0))) (va_up v 0 (va_up (v 0) 2 y)) (wV o cI cR (c_put V ((x 0 3 + x 0 4) % 6) v))) H := hP
      have hD : va_D A (wO o cI cR cS (va_up x 0 (c_sv (x 0))) (va_up v 0 (va_up (v 0) 2 y)) (wV o cI cR (c_put V ((x 0 3 + x 0 4) % 6) v))) := hD
      refine lv_iload_n hx hb dX4_set_41 rfl (lv_at hl 0 rfl) ?_
      exact W.iret (v := nI (v 0 2)) hx hb hrt (fun t ht hW => ⟨⟨_, (), rfl, rfl, by show va_P D vwCl _ t.heap; rw [ht]; exact hP⟩, hS.F ht⟩) hS.2.2 dX4_set_42
    · skip
      exfalso
      omega
