theorem inX4_wouldBeHalf_X4 : ∀ w ∈ wsX40, w ∈ wsX4_wouldBeHalf := by decide +kernel
theorem inX4_wouldBeHalf_X2 : ∀ w ∈ wsX20, w ∈ wsX4_wouldBeHalf := by decide +kernel
set_option maxHeartbeats 4000000 in
set_option maxRecDepth 100000 in
theorem k_X4_wouldBeHalf (l : Launch) (D : va_G) (cI cR cS cL : ClassId) (sz : Nat) (o : Nat → Nat) (x : Nat → Nat → Nat) (v : Nat → Nat → Nat) (tl : va_W) (b : Nat) (r : Nat) (hSI : s_I b v) (hb : b < 2 ^ 28) (hr : r < 4) : Met l yX4_wouldBeHalf wsX4_wouldBeHalf ({ frames := 3, cells := 0, slots := 0, locals := 65 }) (va_Pc [.ref (o 0), .int (nI r)] (o_B D (o_T cI cR cS cL) (wO o cI cR cS x v tl) sz)) (va_Qi (fun rz (_ : Unit) => rz = nI (c_half v r)) (fun (_ : Unit) t => va_P D vwCl (wO o cI cR cS (va_up x 2 (c_wtf v r (x 2))) v tl) t.heap) (va_A (wO o cI cR cS x v tl) sz)) 0 0 (va_A (wO o cI cR cS x v tl) sz) := by
  refine Met.ofW (cc := cX4_wouldBeHalf) (maxL := 2) (ret := (some .int)) (by decide) rfl ?_
  intro p e s m args below meth cd s₁ B hml hv
  obtain ⟨rfl, hsz, hP, hK, hD0, hN⟩ := hv
  have hx := B.exec
  have hb := B.bytes
  have hrt := B.returns
  have hts := atoms_spec (ws := wsX4_wouldBeHalf) B.pre
  have hown : s.vm.findClass RX4 = some m.cls := findClass_of_methodNamed B.named
  have hlocks := B.notSynchronized
  subst hsz
  have hD := hD0.self (sz := s.heap.size)
  generalize hAe : va_A (wO o cI cR cS x v tl) s.heap.size = A at hD ⊢
  have hA : ∀ q : Nat, s.heap.size ≤ q → A q := fun q h => by rw [← hAe]; exact Or.inr h
  have hS : va_S A s.heap s.heap [] := va_S.rf
  have hl := lv_entry ([.ref (o 0), .int (nI r)]) (n := 2) (Nat.le_of_ble_eq_true rfl)
  rw [lg_entry_eq]
  generalize (lg_sl ([.ref (o 0), .int (nI r)]) ++ List.replicate (2 - (lg_sl ([.ref (o 0), .int (nI r)])).length) Slot.unset).toArray = ls at hl ⊢
  have hl : lv_has ls 2 [(0, .ref (o 0)), (1, .int (nI r))] := hl
  rcases o_lt4 hr with rfl | rfl | rfl | rfl
  · skip
    have hSc := hSI
    obtain ⟨⟨i1, i2, i3, hpl⟩, i5⟩ := hSI
    have i12 := i5 0 (by omega)
    unfold s_IR at i12
    simp only [Nat.reduceMul, Nat.reduceAdd] at i12
    have hor := s_out_or v 0
    refine lv_iload_n hx hb dX4_wouldBeHalf_0 rfl (lv_at hl 1 rfl) ?_
    refine o_const (k := 4) hx hb dX4_wouldBeHalf_1 (by decide) ?_
    refine o_ri (va_runS (As := [.int (nI 0), .int (nI 4)]) (rest := []) ⟨hx, hb, hml, hown, hts⟩ (k_X4_isBelow l D cI cR cS cL 0 4 (by show 0 < 2 ^ 32; first | assumption | omega) (by show 4 < 2 ^ 31; first | assumption | omega)) (va_cwS 2 hts gX4_wouldBeHalf_X4_isBelow rfl rfl rfl (by decide +kernel) ⟨Nat.le_of_ble_eq_true rfl, Nat.le_of_ble_eq_true rfl⟩) (o_pR hK hN (hP.sub (ws' := []) [] rfl)) rfl rfl hl.1 rfl (lv_room (Nat.le_of_ble_eq_true rfl)) dX4_wouldBeHalf_2 ⟨Nat.zero_le _, Nat.zero_le _⟩) (fun r_2 e_1 => ?_)
    have e_1 : r_2 = nI (bn (0 < 4)) := e_1
    subst e_1
    refine o_ifnz (tgt := 18) hx hb dX4_wouldBeHalf_5 (by decide) (fun c_3 => ?_) (fun c_3 => ?_)
    · skip
      refine lv_aload_n hx hb dX4_wouldBeHalf_18 rfl (lv_at hl 0 rfl) ?_
      refine va_get (D := D) (ci := 4) (v := .ref (o 5)) (C := RX4) (T := TX4) (N := 6) hx hb hts inX4_wouldBeHalf_X4 hown hK hP 0 rfl rfl 0 (by decide) (hts (.fieldLink RX4 10 "OddNotice" "now" "LOddNotice$State;") (List.mem_of_getElem? (i := 3) (by decide +kernel))) (fun _ h9 => h9) rfl dX4_wouldBeHalf_19 ?_
      refine lv_iload_n hx hb dX4_wouldBeHalf_22 rfl (lv_at hl 1 rfl) ?_
      refine o_ri (va_runV (As := [.int (nI 0)]) (rest := []) ⟨hx, hb, hml, hown, hts⟩ (k_X2_outcome l D cI cR cS cL (fun k => o (k + 5)) v b 0 (by show s_I b v; first | assumption | omega) (by show b < 2 ^ 28; first | assumption | omega) (by show 0 < 4; first | assumption | omega)) (cwV 1 hts gX4_wouldBeHalf_X2_outcome rfl rfl rfl (by decide +kernel) ⟨Nat.le_of_ble_eq_true rfl, Nat.le_of_ble_eq_true rfl⟩) (o_v (o_pR hK hN (hP.sub (ws' := (wS (fun k => o (k + 5)) cI cR v)) [5, 6, 7, 8, 9, 10, 11, 12, 13, 14, 15, 16, 17, 18, 19, 20, 21, 22, 23] rfl)) (va_recv hK hP (ci := 2) (q0 := 5) rfl rfl)) rfl rfl hl.1 rfl (lv_room (Nat.le_of_ble_eq_true rfl)) dX4_wouldBeHalf_23 ⟨Nat.zero_le _, Nat.zero_le _⟩) (fun r_5 e_4 => ?_)
      have e_4 : r_5 = nI (s_out v 0) := e_4
      subst e_4
      refine o_const (k := 1) hx hb dX4_wouldBeHalf_26 (by decide) ?_
      refine o_icmp_eq (tgt := 32) hx hb dX4_wouldBeHalf_27 (by decide) (by omega) (Nat.le_of_ble_eq_true rfl) (fun c_6 => ?_) (fun c_6 => ?_)
      · skip
        refine lv_aload_n hx hb dX4_wouldBeHalf_32 rfl (lv_at hl 0 rfl) ?_
        refine va_get (D := D) (ci := 4) (v := .ref (o 5)) (C := RX4) (T := TX4) (N := 6) hx hb hts inX4_wouldBeHalf_X4 hown hK hP 0 rfl rfl 0 (by decide) (hts (.fieldLink RX4 10 "OddNotice" "now" "LOddNotice$State;") (List.mem_of_getElem? (i := 3) (by decide +kernel))) (fun _ h9 => h9) rfl dX4_wouldBeHalf_33 ?_
        refine va_get (D := D) (ci := 2) (v := .ref (o 11)) (C := RX2) (T := TX2) (N := 4) hx hb hts inX4_wouldBeHalf_X2 hown hK hP 5 rfl rfl 1 (by decide) (hts (.fieldLink RX4 91 "OddNotice$State" "readers" "[LOddNotice$Reader;") (List.mem_of_getElem? (i := 4) (by decide +kernel))) (fun _ h9 => h9) rfl dX4_wouldBeHalf_36 ?_
        refine lv_iload_n hx hb dX4_wouldBeHalf_39 rfl (lv_at hl 1 rfl) ?_
        refine o_aldq (v := (o 12)) (C := "OddNotice$Reader") hx hb hK hP 6 1 rfl rfl (Nat.le_of_ble_eq_true rfl) (Nat.le_of_ble_eq_true rfl) rfl dX4_wouldBeHalf_40 ?_
        refine lv_aload_n hx hb dX4_wouldBeHalf_41 rfl (lv_at hl 0 rfl) ?_
        refine va_get (D := D) (ci := 4) (v := .ref (o 4)) (C := RX4) (T := TX4) (N := 6) hx hb hts inX4_wouldBeHalf_X4 hown hK hP 0 rfl rfl 5 (by decide) (hts (.fieldLink RX4 27 "OddNotice" "wouldTake" "[I") (List.mem_of_getElem? (i := 5) (by decide +kernel))) (fun _ h9 => h9) rfl dX4_wouldBeHalf_42 ?_
        refine lv_aload_n hx hb dX4_wouldBeHalf_45 rfl (lv_at hl 0 rfl) ?_
        refine va_get (D := D) (ci := 4) (v := .ref (o 5)) (C := RX4) (T := TX4) (N := 6) hx hb hts inX4_wouldBeHalf_X4 hown hK hP 0 rfl rfl 0 (by decide) (hts (.fieldLink RX4 10 "OddNotice" "now" "LOddNotice$State;") (List.mem_of_getElem? (i := 3) (by decide +kernel))) (fun _ h9 => h9) rfl dX4_wouldBeHalf_46 ?_
        refine va_get (D := D) (ci := 2) (v := .ref (o 6)) (C := RX2) (T := TX2) (N := 4) hx hb hts inX4_wouldBeHalf_X2 hown hK hP 5 rfl rfl 0 (by decide) (hts (.fieldLink RX4 42 "OddNotice$State" "board" "LOddNotice$Board;") (List.mem_of_getElem? (i := 6) (by decide +kernel))) (fun _ h9 => h9) rfl dX4_wouldBeHalf_49 ?_
        refine o_wv (va_runV (As := [.ref (o 4), .ref (o 6)]) (rest := []) ⟨hx, hb, hml, hown, hts⟩ (k_X1_fillWouldTake l D cI cR cS cL s.heap.size (fun k => o (k + 12)) (fun k => v (k + 5)) (fun k => o (k + 6)) v (o 4) (x 2) (by show (v 5 1) < 2 ^ 31; first | assumption | omega) (by show (v 5 4) < 2 ^ 31; first | assumption | omega)) (cwV 2 hts gX4_wouldBeHalf_X1_fillWouldTake rfl rfl rfl (by decide +kernel) ⟨Nat.le_of_ble_eq_true rfl, Nat.le_of_ble_eq_true rfl⟩) (o_v (o_pB hK hN (hP.sub (ws' := (wR (fun k => o (k + 12)) cI (fun k => v (k + 5)) ++ (wB (fun k => o (k + 6)) cI v ++ [oa cI (o 4) 5 (x 2)]))) [12, 13, 14, 7, 8, 9, 10, 11, 4] rfl) (hD.sub (ws' := (wR (fun k => o (k + 12)) cI (fun k => v (k + 5)) ++ (wB (fun k => o (k + 6)) cI v ++ [oa cI (o 4) 5 (x 2)]))) [12, 13, 14, 7, 8, 9, 10, 11, 4] (by decide) rfl)) (va_recv hK hP (ci := 1) (q0 := 12) rfl rfl)) rfl rfl hl.1 rfl (lv_room (Nat.le_of_ble_eq_true rfl)) dX4_wouldBeHalf_52 ⟨Nat.zero_le _, Nat.zero_le _⟩) hP hD hS hA [12, 13, 14, 7, 8, 9, 10, 11, 4] (by decide) rfl (fun _ => rfl) (fun _ H locs e_7 hP hD hS => ?_)
        have hP : va_P D vwCl (wO o cI cR cS (va_up x 2 (r_fill (fun k => v (k + 5)) v (x 2) 5)) v tl) H := hP
        have hD : va_D A (wO o cI cR cS (va_up x 2 (r_fill (fun k => v (k + 5)) v (x 2) 5)) v tl) := hD
        refine lv_aload_n hx hb dX4_wouldBeHalf_55 rfl (lv_at hl 0 rfl) ?_
        refine va_get (D := D) (ci := 4) (v := .ref (o 5)) (C := RX4) (T := TX4) (N := 6) hx hb hts inX4_wouldBeHalf_X4 hown hK hP 0 rfl rfl 0 (by decide) (hts (.fieldLink RX4 10 "OddNotice" "now" "LOddNotice$State;") (List.mem_of_getElem? (i := 3) (by decide +kernel))) (fun _ h9 => h9) rfl dX4_wouldBeHalf_56 ?_
        refine va_get (D := D) (ci := 2) (v := .ref (o 6)) (C := RX2) (T := TX2) (N := 4) hx hb hts inX4_wouldBeHalf_X2 hown hK hP 5 rfl rfl 0 (by decide) (hts (.fieldLink RX4 42 "OddNotice$State" "board" "LOddNotice$Board;") (List.mem_of_getElem? (i := 6) (by decide +kernel))) (fun _ h9 => h9) rfl dX4_wouldBeHalf_59 ?_
        refine lv_aload_n hx hb dX4_wouldBeHalf_62 rfl (lv_at hl 0 rfl) ?_
        refine va_get (D := D) (ci := 4) (v := .ref (o 4)) (C := RX4) (T := TX4) (N := 6) hx hb hts inX4_wouldBeHalf_X4 hown hK hP 0 rfl rfl 5 (by decide) (hts (.fieldLink RX4 27 "OddNotice" "wouldTake" "[I") (List.mem_of_getElem? (i := 5) (by decide +kernel))) (fun _ h9 => h9) rfl dX4_wouldBeHalf_63 ?_
        refine o_ri (va_runV (As := [.ref (o 4)]) (rest := []) ⟨hx, hb, hml, hown, hts⟩ (k_X0_latestSame l D cI cR cS cL (fun k => o (k + 6)) v (o 4) (r_fill (fun k => v (k + 5)) v (x 2) 5) (by show v 0 0 < 2 ^ 30; first | assumption | omega)) (cwV 1 hts gX4_wouldBeHalf_X0_latestSame rfl rfl rfl (by decide +kernel) ⟨Nat.le_of_ble_eq_true rfl, Nat.le_of_ble_eq_true rfl⟩) (o_v (o_pR hK hN (hP.sub (ws' := (wB (fun k => o (k + 6)) cI v ++ [oa cI (o 4) 5 (r_fill (fun k => v (k + 5)) v (x 2) 5)])) [7, 8, 9, 10, 11, 4] rfl)) (va_recv hK hP (ci := 0) (q0 := 7) rfl rfl)) rfl rfl hl.1 rfl (lv_room (Nat.le_of_ble_eq_true rfl)) dX4_wouldBeHalf_66 ⟨Nat.zero_le _, Nat.zero_le _⟩) (fun r_9 e_8 => ?_)
        have e_8 : r_9 = nI (b_ls (v 4) (r_fill (fun k => v (k + 5)) v (x 2) 5) (v 0 0 / 2) 16 0) := e_8
        subst e_8
        have gv_10 := (b_ls_lt (by omega) 16 0 : b_ls (v 4) (r_fill (fun k => v (k + 5)) v (x 2) 5) (v 0 0 / 2) 16 0 < 2 ^ 32)
        refine o_const (k := 4294967295) hx hb dX4_wouldBeHalf_69 (by decide) ?_
        refine o_icmp_ne (tgt := 77) hx hb dX4_wouldBeHalf_70 (by decide) (by omega) (Nat.le_of_ble_eq_true rfl) (fun c_11 => ?_) (fun c_11 => ?_)
        · skip
          refine o_const (k := 0) hx hb dX4_wouldBeHalf_77 (by decide) ?_
          have w_12 : (wO o cI cR cS (va_up x 2 (c_wtf v 0 (x 2))) v tl) = (wO o cI cR cS (va_up x 2 (r_fill (fun k => v (k + 5)) v (x 2) 5)) v tl) := (by rw [show c_wtf v 0 (x 2) = r_fill (fun j => v (j + 5)) v (x 2) 5 from if_pos (by omega)]; first | done | rfl)
          rw [← w_12] at hP
          exact W.iret (v := nI 0) hx hb hrt (fun t ht hW => ⟨⟨_, (), rfl, (congrArg nI (Eq.symm (show c_half v 0 = _ from Eq.trans (if_pos (by omega)) (if_neg (by rw [b_ls_fill] at c_11; exact c_11))))), by show va_P D vwCl _ t.heap; rw [ht]; exact hP⟩, hS.F ht⟩) hS.2.2 dX4_wouldBeHalf_78
        · skip
          refine o_const (k := 1) hx hb dX4_wouldBeHalf_73 (by decide) ?_
          refine lv_goto (tgt := 78) hx hb dX4_wouldBeHalf_74 (by decide) ?_
          have w_13 : (wO o cI cR cS (va_up x 2 (c_wtf v 0 (x 2))) v tl) = (wO o cI cR cS (va_up x 2 (r_fill (fun k => v (k + 5)) v (x 2) 5)) v tl) := (by rw [show c_wtf v 0 (x 2) = r_fill (fun j => v (j + 5)) v (x 2) 5 from if_pos (by omega)]; first | done | rfl)
          rw [← w_13] at hP
          exact W.iret (v := nI 1) hx hb hrt (fun t ht hW => ⟨⟨_, (), rfl, (congrArg nI (Eq.symm (show c_half v 0 = _ from Eq.trans (if_pos (by omega)) (if_pos (by rw [b_ls_fill] at c_11; exact c_11))))), by show va_P D vwCl _ t.heap; rw [ht]; exact hP⟩, hS.F ht⟩) hS.2.2 dX4_wouldBeHalf_78
      · skip
        refine o_const (k := 0) hx hb dX4_wouldBeHalf_30 (by decide) ?_
        have w_14 : (wO o cI cR cS (va_up x 2 (c_wtf v 0 (x 2))) v tl) = (wO o cI cR cS x v tl) := (by rw [show c_wtf v 0 (x 2) = x 2 from if_neg (by omega)]; first | done | rfl)
        rw [← w_14] at hP
        exact W.iret (v := nI 0) hx hb hrt (fun t ht hW => ⟨⟨_, (), rfl, (congrArg nI (Eq.symm (show c_half v 0 = _ from if_neg (by omega)))), by show va_P D vwCl _ t.heap; rw [ht]; exact hP⟩, hS.F ht⟩) hS.2.2 dX4_wouldBeHalf_31
    · skip
      exfalso
      omega
  · skip
    have hSc := hSI
    obtain ⟨⟨i1, i2, i3, hpl⟩, i5⟩ := hSI
    have i12 := i5 1 (by omega)
    unfold s_IR at i12
    simp only [Nat.reduceMul, Nat.reduceAdd] at i12
    have hor := s_out_or v 1
    refine lv_iload_n hx hb dX4_wouldBeHalf_0 rfl (lv_at hl 1 rfl) ?_
    refine o_const (k := 4) hx hb dX4_wouldBeHalf_1 (by decide) ?_
    refine o_ri (va_runS (As := [.int (nI 1), .int (nI 4)]) (rest := []) ⟨hx, hb, hml, hown, hts⟩ (k_X4_isBelow l D cI cR cS cL 1 4 (by show 1 < 2 ^ 32; first | assumption | omega) (by show 4 < 2 ^ 31; first | assumption | omega)) (va_cwS 2 hts gX4_wouldBeHalf_X4_isBelow rfl rfl rfl (by decide +kernel) ⟨Nat.le_of_ble_eq_true rfl, Nat.le_of_ble_eq_true rfl⟩) (o_pR hK hN (hP.sub (ws' := []) [] rfl)) rfl rfl hl.1 rfl (lv_room (Nat.le_of_ble_eq_true rfl)) dX4_wouldBeHalf_2 ⟨Nat.zero_le _, Nat.zero_le _⟩) (fun r_16 e_15 => ?_)
    have e_15 : r_16 = nI (bn (1 < 4)) := e_15
    subst e_15
    refine o_ifnz (tgt := 18) hx hb dX4_wouldBeHalf_5 (by decide) (fun c_17 => ?_) (fun c_17 => ?_)
    · skip
      refine lv_aload_n hx hb dX4_wouldBeHalf_18 rfl (lv_at hl 0 rfl) ?_
      refine va_get (D := D) (ci := 4) (v := .ref (o 5)) (C := RX4) (T := TX4) (N := 6) hx hb hts inX4_wouldBeHalf_X4 hown hK hP 0 rfl rfl 0 (by decide) (hts (.fieldLink RX4 10 "OddNotice" "now" "LOddNotice$State;") (List.mem_of_getElem? (i := 3) (by decide +kernel))) (fun _ h9 => h9) rfl dX4_wouldBeHalf_19 ?_
      refine lv_iload_n hx hb dX4_wouldBeHalf_22 rfl (lv_at hl 1 rfl) ?_
      refine o_ri (va_runV (As := [.int (nI 1)]) (rest := []) ⟨hx, hb, hml, hown, hts⟩ (k_X2_outcome l D cI cR cS cL (fun k => o (k + 5)) v b 1 (by show s_I b v; first | assumption | omega) (by show b < 2 ^ 28; first | assumption | omega) (by show 1 < 4; first | assumption | omega)) (cwV 1 hts gX4_wouldBeHalf_X2_outcome rfl rfl rfl (by decide +kernel) ⟨Nat.le_of_ble_eq_true rfl, Nat.le_of_ble_eq_true rfl⟩) (o_v (o_pR hK hN (hP.sub (ws' := (wS (fun k => o (k + 5)) cI cR v)) [5, 6, 7, 8, 9, 10, 11, 12, 13, 14, 15, 16, 17, 18, 19, 20, 21, 22, 23] rfl)) (va_recv hK hP (ci := 2) (q0 := 5) rfl rfl)) rfl rfl hl.1 rfl (lv_room (Nat.le_of_ble_eq_true rfl)) dX4_wouldBeHalf_23 ⟨Nat.zero_le _, Nat.zero_le _⟩) (fun r_19 e_18 => ?_)
      have e_18 : r_19 = nI (s_out v 1) := e_18
      subst e_18
      refine o_const (k := 1) hx hb dX4_wouldBeHalf_26 (by decide) ?_
      refine o_icmp_eq (tgt := 32) hx hb dX4_wouldBeHalf_27 (by decide) (by omega) (Nat.le_of_ble_eq_true rfl) (fun c_20 => ?_) (fun c_20 => ?_)
      · skip
        refine lv_aload_n hx hb dX4_wouldBeHalf_32 rfl (lv_at hl 0 rfl) ?_
        refine va_get (D := D) (ci := 4) (v := .ref (o 5)) (C := RX4) (T := TX4) (N := 6) hx hb hts inX4_wouldBeHalf_X4 hown hK hP 0 rfl rfl 0 (by decide) (hts (.fieldLink RX4 10 "OddNotice" "now" "LOddNotice$State;") (List.mem_of_getElem? (i := 3) (by decide +kernel))) (fun _ h9 => h9) rfl dX4_wouldBeHalf_33 ?_
        refine va_get (D := D) (ci := 2) (v := .ref (o 11)) (C := RX2) (T := TX2) (N := 4) hx hb hts inX4_wouldBeHalf_X2 hown hK hP 5 rfl rfl 1 (by decide) (hts (.fieldLink RX4 91 "OddNotice$State" "readers" "[LOddNotice$Reader;") (List.mem_of_getElem? (i := 4) (by decide +kernel))) (fun _ h9 => h9) rfl dX4_wouldBeHalf_36 ?_
        refine lv_iload_n hx hb dX4_wouldBeHalf_39 rfl (lv_at hl 1 rfl) ?_
        refine o_aldq (v := (o 15)) (C := "OddNotice$Reader") hx hb hK hP 6 1 rfl rfl (Nat.le_of_ble_eq_true rfl) (Nat.le_of_ble_eq_true rfl) rfl dX4_wouldBeHalf_40 ?_
        refine lv_aload_n hx hb dX4_wouldBeHalf_41 rfl (lv_at hl 0 rfl) ?_
        refine va_get (D := D) (ci := 4) (v := .ref (o 4)) (C := RX4) (T := TX4) (N := 6) hx hb hts inX4_wouldBeHalf_X4 hown hK hP 0 rfl rfl 5 (by decide) (hts (.fieldLink RX4 27 "OddNotice" "wouldTake" "[I") (List.mem_of_getElem? (i := 5) (by decide +kernel))) (fun _ h9 => h9) rfl dX4_wouldBeHalf_42 ?_
        refine lv_aload_n hx hb dX4_wouldBeHalf_45 rfl (lv_at hl 0 rfl) ?_
        refine va_get (D := D) (ci := 4) (v := .ref (o 5)) (C := RX4) (T := TX4) (N := 6) hx hb hts inX4_wouldBeHalf_X4 hown hK hP 0 rfl rfl 0 (by decide) (hts (.fieldLink RX4 10 "OddNotice" "now" "LOddNotice$State;") (List.mem_of_getElem? (i := 3) (by decide +kernel))) (fun _ h9 => h9) rfl dX4_wouldBeHalf_46 ?_
        refine va_get (D := D) (ci := 2) (v := .ref (o 6)) (C := RX2) (T := TX2) (N := 4) hx hb hts inX4_wouldBeHalf_X2 hown hK hP 5 rfl rfl 0 (by decide) (hts (.fieldLink RX4 42 "OddNotice$State" "board" "LOddNotice$Board;") (List.mem_of_getElem? (i := 6) (by decide +kernel))) (fun _ h9 => h9) rfl dX4_wouldBeHalf_49 ?_
        refine o_wv (va_runV (As := [.ref (o 4), .ref (o 6)]) (rest := []) ⟨hx, hb, hml, hown, hts⟩ (k_X1_fillWouldTake l D cI cR cS cL s.heap.size (fun k => o (k + 15)) (fun k => v (k + 8)) (fun k => o (k + 6)) v (o 4) (x 2) (by show (v 8 1) < 2 ^ 31; first | assumption | omega) (by show (v 8 4) < 2 ^ 31; first | assumption | omega)) (cwV 2 hts gX4_wouldBeHalf_X1_fillWouldTake rfl rfl rfl (by decide +kernel) ⟨Nat.le_of_ble_eq_true rfl, Nat.le_of_ble_eq_true rfl⟩) (o_v (o_pB hK hN (hP.sub (ws' := (wR (fun k => o (k + 15)) cI (fun k => v (k + 8)) ++ (wB (fun k => o (k + 6)) cI v ++ [oa cI (o 4) 5 (x 2)]))) [15, 16, 17, 7, 8, 9, 10, 11, 4] rfl) (hD.sub (ws' := (wR (fun k => o (k + 15)) cI (fun k => v (k + 8)) ++ (wB (fun k => o (k + 6)) cI v ++ [oa cI (o 4) 5 (x 2)]))) [15, 16, 17, 7, 8, 9, 10, 11, 4] (by decide) rfl)) (va_recv hK hP (ci := 1) (q0 := 15) rfl rfl)) rfl rfl hl.1 rfl (lv_room (Nat.le_of_ble_eq_true rfl)) dX4_wouldBeHalf_52 ⟨Nat.zero_le _, Nat.zero_le _⟩) hP hD hS hA [15, 16, 17, 7, 8, 9, 10, 11, 4] (by decide) rfl (fun _ => rfl) (fun _ H locs e_21 hP hD hS => ?_)
        have hP : va_P D vwCl (wO o cI cR cS (va_up x 2 (r_fill (fun k => v (k + 8)) v (x 2) 5)) v tl) H := hP
        have hD : va_D A (wO o cI cR cS (va_up x 2 (r_fill (fun k => v (k + 8)) v (x 2) 5)) v tl) := hD
        refine lv_aload_n hx hb dX4_wouldBeHalf_55 rfl (lv_at hl 0 rfl) ?_
        refine va_get (D := D) (ci := 4) (v := .ref (o 5)) (C := RX4) (T := TX4) (N := 6) hx hb hts inX4_wouldBeHalf_X4 hown hK hP 0 rfl rfl 0 (by decide) (hts (.fieldLink RX4 10 "OddNotice" "now" "LOddNotice$State;") (List.mem_of_getElem? (i := 3) (by decide +kernel))) (fun _ h9 => h9) rfl dX4_wouldBeHalf_56 ?_
        refine va_get (D := D) (ci := 2) (v := .ref (o 6)) (C := RX2) (T := TX2) (N := 4) hx hb hts inX4_wouldBeHalf_X2 hown hK hP 5 rfl rfl 0 (by decide) (hts (.fieldLink RX4 42 "OddNotice$State" "board" "LOddNotice$Board;") (List.mem_of_getElem? (i := 6) (by decide +kernel))) (fun _ h9 => h9) rfl dX4_wouldBeHalf_59 ?_
        refine lv_aload_n hx hb dX4_wouldBeHalf_62 rfl (lv_at hl 0 rfl) ?_
        refine va_get (D := D) (ci := 4) (v := .ref (o 4)) (C := RX4) (T := TX4) (N := 6) hx hb hts inX4_wouldBeHalf_X4 hown hK hP 0 rfl rfl 5 (by decide) (hts (.fieldLink RX4 27 "OddNotice" "wouldTake" "[I") (List.mem_of_getElem? (i := 5) (by decide +kernel))) (fun _ h9 => h9) rfl dX4_wouldBeHalf_63 ?_
        refine o_ri (va_runV (As := [.ref (o 4)]) (rest := []) ⟨hx, hb, hml, hown, hts⟩ (k_X0_latestSame l D cI cR cS cL (fun k => o (k + 6)) v (o 4) (r_fill (fun k => v (k + 8)) v (x 2) 5) (by show v 0 0 < 2 ^ 30; first | assumption | omega)) (cwV 1 hts gX4_wouldBeHalf_X0_latestSame rfl rfl rfl (by decide +kernel) ⟨Nat.le_of_ble_eq_true rfl, Nat.le_of_ble_eq_true rfl⟩) (o_v (o_pR hK hN (hP.sub (ws' := (wB (fun k => o (k + 6)) cI v ++ [oa cI (o 4) 5 (r_fill (fun k => v (k + 8)) v (x 2) 5)])) [7, 8, 9, 10, 11, 4] rfl)) (va_recv hK hP (ci := 0) (q0 := 7) rfl rfl)) rfl rfl hl.1 rfl (lv_room (Nat.le_of_ble_eq_true rfl)) dX4_wouldBeHalf_66 ⟨Nat.zero_le _, Nat.zero_le _⟩) (fun r_23 e_22 => ?_)
        have e_22 : r_23 = nI (b_ls (v 4) (r_fill (fun k => v (k + 8)) v (x 2) 5) (v 0 0 / 2) 16 0) := e_22
        subst e_22
        have gv_24 := (b_ls_lt (by omega) 16 0 : b_ls (v 4) (r_fill (fun k => v (k + 8)) v (x 2) 5) (v 0 0 / 2) 16 0 < 2 ^ 32)
        refine o_const (k := 4294967295) hx hb dX4_wouldBeHalf_69 (by decide) ?_
        refine o_icmp_ne (tgt := 77) hx hb dX4_wouldBeHalf_70 (by decide) (by omega) (Nat.le_of_ble_eq_true rfl) (fun c_25 => ?_) (fun c_25 => ?_)
        · skip
          refine o_const (k := 0) hx hb dX4_wouldBeHalf_77 (by decide) ?_
          have w_26 : (wO o cI cR cS (va_up x 2 (c_wtf v 1 (x 2))) v tl) = (wO o cI cR cS (va_up x 2 (r_fill (fun k => v (k + 8)) v (x 2) 5)) v tl) := (by rw [show c_wtf v 1 (x 2) = r_fill (fun j => v (j + 8)) v (x 2) 5 from if_pos (by omega)]; first | done | rfl)
          rw [← w_26] at hP
          exact W.iret (v := nI 0) hx hb hrt (fun t ht hW => ⟨⟨_, (), rfl, (congrArg nI (Eq.symm (show c_half v 1 = _ from Eq.trans (if_pos (by omega)) (if_neg (by rw [b_ls_fill] at c_25; exact c_25))))), by show va_P D vwCl _ t.heap; rw [ht]; exact hP⟩, hS.F ht⟩) hS.2.2 dX4_wouldBeHalf_78
        · skip
          refine o_const (k := 1) hx hb dX4_wouldBeHalf_73 (by decide) ?_
          refine lv_goto (tgt := 78) hx hb dX4_wouldBeHalf_74 (by decide) ?_
          have w_27 : (wO o cI cR cS (va_up x 2 (c_wtf v 1 (x 2))) v tl) = (wO o cI cR cS (va_up x 2 (r_fill (fun k => v (k + 8)) v (x 2) 5)) v tl) := (by rw [show c_wtf v 1 (x 2) = r_fill (fun j => v (j + 8)) v (x 2) 5 from if_pos (by omega)]; first | done | rfl)
          rw [← w_27] at hP
          exact W.iret (v := nI 1) hx hb hrt (fun t ht hW => ⟨⟨_, (), rfl, (congrArg nI (Eq.symm (show c_half v 1 = _ from Eq.trans (if_pos (by omega)) (if_pos (by rw [b_ls_fill] at c_25; exact c_25))))), by show va_P D vwCl _ t.heap; rw [ht]; exact hP⟩, hS.F ht⟩) hS.2.2 dX4_wouldBeHalf_78
      · skip
        refine o_const (k := 0) hx hb dX4_wouldBeHalf_30 (by decide) ?_
        have w_28 : (wO o cI cR cS (va_up x 2 (c_wtf v 1 (x 2))) v tl) = (wO o cI cR cS x v tl) := (by rw [show c_wtf v 1 (x 2) = x 2 from if_neg (by omega)]; first | done | rfl)
        rw [← w_28] at hP
        exact W.iret (v := nI 0) hx hb hrt (fun t ht hW => ⟨⟨_, (), rfl, (congrArg nI (Eq.symm (show c_half v 1 = _ from if_neg (by omega)))), by show va_P D vwCl _ t.heap; rw [ht]; exact hP⟩, hS.F ht⟩) hS.2.2 dX4_wouldBeHalf_31
    · skip
      exfalso
      omega
  · skip
    have hSc := hSI
    obtain ⟨⟨i1, i2, i3, hpl⟩, i5⟩ := hSI
    have i12 := i5 2 (by omega)
    unfold s_IR at i12
    simp only [Nat.reduceMul, Nat.reduceAdd] at i12
    have hor := s_out_or v 2
    refine lv_iload_n hx hb dX4_wouldBeHalf_0 rfl (lv_at hl 1 rfl) ?_
    refine o_const (k := 4) hx hb dX4_wouldBeHalf_1 (by decide) ?_
    refine o_ri (va_runS (As := [.int (nI 2), .int (nI 4)]) (rest := []) ⟨hx, hb, hml, hown, hts⟩ (k_X4_isBelow l D cI cR cS cL 2 4 (by show 2 < 2 ^ 32; first | assumption | omega) (by show 4 < 2 ^ 31; first | assumption | omega)) (va_cwS 2 hts gX4_wouldBeHalf_X4_isBelow rfl rfl rfl (by decide +kernel) ⟨Nat.le_of_ble_eq_true rfl, Nat.le_of_ble_eq_true rfl⟩) (o_pR hK hN (hP.sub (ws' := []) [] rfl)) rfl rfl hl.1 rfl (lv_room (Nat.le_of_ble_eq_true rfl)) dX4_wouldBeHalf_2 ⟨Nat.zero_le _, Nat.zero_le _⟩) (fun r_30 e_29 => ?_)
    have e_29 : r_30 = nI (bn (2 < 4)) := e_29
    subst e_29
    refine o_ifnz (tgt := 18) hx hb dX4_wouldBeHalf_5 (by decide) (fun c_31 => ?_) (fun c_31 => ?_)
    · skip
      refine lv_aload_n hx hb dX4_wouldBeHalf_18 rfl (lv_at hl 0 rfl) ?_
      refine va_get (D := D) (ci := 4) (v := .ref (o 5)) (C := RX4) (T := TX4) (N := 6) hx hb hts inX4_wouldBeHalf_X4 hown hK hP 0 rfl rfl 0 (by decide) (hts (.fieldLink RX4 10 "OddNotice" "now" "LOddNotice$State;") (List.mem_of_getElem? (i := 3) (by decide +kernel))) (fun _ h9 => h9) rfl dX4_wouldBeHalf_19 ?_
      refine lv_iload_n hx hb dX4_wouldBeHalf_22 rfl (lv_at hl 1 rfl) ?_
      refine o_ri (va_runV (As := [.int (nI 2)]) (rest := []) ⟨hx, hb, hml, hown, hts⟩ (k_X2_outcome l D cI cR cS cL (fun k => o (k + 5)) v b 2 (by show s_I b v; first | assumption | omega) (by show b < 2 ^ 28; first | assumption | omega) (by show 2 < 4; first | assumption | omega)) (cwV 1 hts gX4_wouldBeHalf_X2_outcome rfl rfl rfl (by decide +kernel) ⟨Nat.le_of_ble_eq_true rfl, Nat.le_of_ble_eq_true rfl⟩) (o_v (o_pR hK hN (hP.sub (ws' := (wS (fun k => o (k + 5)) cI cR v)) [5, 6, 7, 8, 9, 10, 11, 12, 13, 14, 15, 16, 17, 18, 19, 20, 21, 22, 23] rfl)) (va_recv hK hP (ci := 2) (q0 := 5) rfl rfl)) rfl rfl hl.1 rfl (lv_room (Nat.le_of_ble_eq_true rfl)) dX4_wouldBeHalf_23 ⟨Nat.zero_le _, Nat.zero_le _⟩) (fun r_33 e_32 => ?_)
      have e_32 : r_33 = nI (s_out v 2) := e_32
      subst e_32
      refine o_const (k := 1) hx hb dX4_wouldBeHalf_26 (by decide) ?_
      refine o_icmp_eq (tgt := 32) hx hb dX4_wouldBeHalf_27 (by decide) (by omega) (Nat.le_of_ble_eq_true rfl) (fun c_34 => ?_) (fun c_34 => ?_)
      · skip
        refine lv_aload_n hx hb dX4_wouldBeHalf_32 rfl (lv_at hl 0 rfl) ?_
        refine va_get (D := D) (ci := 4) (v := .ref (o 5)) (C := RX4) (T := TX4) (N := 6) hx hb hts inX4_wouldBeHalf_X4 hown hK hP 0 rfl rfl 0 (by decide) (hts (.fieldLink RX4 10 "OddNotice" "now" "LOddNotice$State;") (List.mem_of_getElem? (i := 3) (by decide +kernel))) (fun _ h9 => h9) rfl dX4_wouldBeHalf_33 ?_
        refine va_get (D := D) (ci := 2) (v := .ref (o 11)) (C := RX2) (T := TX2) (N := 4) hx hb hts inX4_wouldBeHalf_X2 hown hK hP 5 rfl rfl 1 (by decide) (hts (.fieldLink RX4 91 "OddNotice$State" "readers" "[LOddNotice$Reader;") (List.mem_of_getElem? (i := 4) (by decide +kernel))) (fun _ h9 => h9) rfl dX4_wouldBeHalf_36 ?_
        refine lv_iload_n hx hb dX4_wouldBeHalf_39 rfl (lv_at hl 1 rfl) ?_
        refine o_aldq (v := (o 18)) (C := "OddNotice$Reader") hx hb hK hP 6 1 rfl rfl (Nat.le_of_ble_eq_true rfl) (Nat.le_of_ble_eq_true rfl) rfl dX4_wouldBeHalf_40 ?_
        refine lv_aload_n hx hb dX4_wouldBeHalf_41 rfl (lv_at hl 0 rfl) ?_
        refine va_get (D := D) (ci := 4) (v := .ref (o 4)) (C := RX4) (T := TX4) (N := 6) hx hb hts inX4_wouldBeHalf_X4 hown hK hP 0 rfl rfl 5 (by decide) (hts (.fieldLink RX4 27 "OddNotice" "wouldTake" "[I") (List.mem_of_getElem? (i := 5) (by decide +kernel))) (fun _ h9 => h9) rfl dX4_wouldBeHalf_42 ?_
        refine lv_aload_n hx hb dX4_wouldBeHalf_45 rfl (lv_at hl 0 rfl) ?_
        refine va_get (D := D) (ci := 4) (v := .ref (o 5)) (C := RX4) (T := TX4) (N := 6) hx hb hts inX4_wouldBeHalf_X4 hown hK hP 0 rfl rfl 0 (by decide) (hts (.fieldLink RX4 10 "OddNotice" "now" "LOddNotice$State;") (List.mem_of_getElem? (i := 3) (by decide +kernel))) (fun _ h9 => h9) rfl dX4_wouldBeHalf_46 ?_
        refine va_get (D := D) (ci := 2) (v := .ref (o 6)) (C := RX2) (T := TX2) (N := 4) hx hb hts inX4_wouldBeHalf_X2 hown hK hP 5 rfl rfl 0 (by decide) (hts (.fieldLink RX4 42 "OddNotice$State" "board" "LOddNotice$Board;") (List.mem_of_getElem? (i := 6) (by decide +kernel))) (fun _ h9 => h9) rfl dX4_wouldBeHalf_49 ?_
        refine o_wv (va_runV (As := [.ref (o 4), .ref (o 6)]) (rest := []) ⟨hx, hb, hml, hown, hts⟩ (k_X1_fillWouldTake l D cI cR cS cL s.heap.size (fun k => o (k + 18)) (fun k => v (k + 11)) (fun k => o (k + 6)) v (o 4) (x 2) (by show (v 11 1) < 2 ^ 31; first | assumption | omega) (by show (v 11 4) < 2 ^ 31; first | assumption | omega)) (cwV 2 hts gX4_wouldBeHalf_X1_fillWouldTake rfl rfl rfl (by decide +kernel) ⟨Nat.le_of_ble_eq_true rfl, Nat.le_of_ble_eq_true rfl⟩) (o_v (o_pB hK hN (hP.sub (ws' := (wR (fun k => o (k + 18)) cI (fun k => v (k + 11)) ++ (wB (fun k => o (k + 6)) cI v ++ [oa cI (o 4) 5 (x 2)]))) [18, 19, 20, 7, 8, 9, 10, 11, 4] rfl) (hD.sub (ws' := (wR (fun k => o (k + 18)) cI (fun k => v (k + 11)) ++ (wB (fun k => o (k + 6)) cI v ++ [oa cI (o 4) 5 (x 2)]))) [18, 19, 20, 7, 8, 9, 10, 11, 4] (by decide) rfl)) (va_recv hK hP (ci := 1) (q0 := 18) rfl rfl)) rfl rfl hl.1 rfl (lv_room (Nat.le_of_ble_eq_true rfl)) dX4_wouldBeHalf_52 ⟨Nat.zero_le _, Nat.zero_le _⟩) hP hD hS hA [18, 19, 20, 7, 8, 9, 10, 11, 4] (by decide) rfl (fun _ => rfl) (fun _ H locs e_35 hP hD hS => ?_)
        have hP : va_P D vwCl (wO o cI cR cS (va_up x 2 (r_fill (fun k => v (k + 11)) v (x 2) 5)) v tl) H := hP
        have hD : va_D A (wO o cI cR cS (va_up x 2 (r_fill (fun k => v (k + 11)) v (x 2) 5)) v tl) := hD
        refine lv_aload_n hx hb dX4_wouldBeHalf_55 rfl (lv_at hl 0 rfl) ?_
        refine va_get (D := D) (ci := 4) (v := .ref (o 5)) (C := RX4) (T := TX4) (N := 6) hx hb hts inX4_wouldBeHalf_X4 hown hK hP 0 rfl rfl 0 (by decide) (hts (.fieldLink RX4 10 "OddNotice" "now" "LOddNotice$State;") (List.mem_of_getElem? (i := 3) (by decide +kernel))) (fun _ h9 => h9) rfl dX4_wouldBeHalf_56 ?_
        refine va_get (D := D) (ci := 2) (v := .ref (o 6)) (C := RX2) (T := TX2) (N := 4) hx hb hts inX4_wouldBeHalf_X2 hown hK hP 5 rfl rfl 0 (by decide) (hts (.fieldLink RX4 42 "OddNotice$State" "board" "LOddNotice$Board;") (List.mem_of_getElem? (i := 6) (by decide +kernel))) (fun _ h9 => h9) rfl dX4_wouldBeHalf_59 ?_
        refine lv_aload_n hx hb dX4_wouldBeHalf_62 rfl (lv_at hl 0 rfl) ?_
        refine va_get (D := D) (ci := 4) (v := .ref (o 4)) (C := RX4) (T := TX4) (N := 6) hx hb hts inX4_wouldBeHalf_X4 hown hK hP 0 rfl rfl 5 (by decide) (hts (.fieldLink RX4 27 "OddNotice" "wouldTake" "[I") (List.mem_of_getElem? (i := 5) (by decide +kernel))) (fun _ h9 => h9) rfl dX4_wouldBeHalf_63 ?_
        refine o_ri (va_runV (As := [.ref (o 4)]) (rest := []) ⟨hx, hb, hml, hown, hts⟩ (k_X0_latestSame l D cI cR cS cL (fun k => o (k + 6)) v (o 4) (r_fill (fun k => v (k + 11)) v (x 2) 5) (by show v 0 0 < 2 ^ 30; first | assumption | omega)) (cwV 1 hts gX4_wouldBeHalf_X0_latestSame rfl rfl rfl (by decide +kernel) ⟨Nat.le_of_ble_eq_true rfl, Nat.le_of_ble_eq_true rfl⟩) (o_v (o_pR hK hN (hP.sub (ws' := (wB (fun k => o (k + 6)) cI v ++ [oa cI (o 4) 5 (r_fill (fun k => v (k + 11)) v (x 2) 5)])) [7, 8, 9, 10, 11, 4] rfl)) (va_recv hK hP (ci := 0) (q0 := 7) rfl rfl)) rfl rfl hl.1 rfl (lv_room (Nat.le_of_ble_eq_true rfl)) dX4_wouldBeHalf_66 ⟨Nat.zero_le _, Nat.zero_le _⟩) (fun r_37 e_36 => ?_)
        have e_36 : r_37 = nI (b_ls (v 4) (r_fill (fun k => v (k + 11)) v (x 2) 5) (v 0 0 / 2) 16 0) := e_36
        subst e_36
        have gv_38 := (b_ls_lt (by omega) 16 0 : b_ls (v 4) (r_fill (fun k => v (k + 11)) v (x 2) 5) (v 0 0 / 2) 16 0 < 2 ^ 32)
        refine o_const (k := 4294967295) hx hb dX4_wouldBeHalf_69 (by decide) ?_
        refine o_icmp_ne (tgt := 77) hx hb dX4_wouldBeHalf_70 (by decide) (by omega) (Nat.le_of_ble_eq_true rfl) (fun c_39 => ?_) (fun c_39 => ?_)
        · skip
          refine o_const (k := 0) hx hb dX4_wouldBeHalf_77 (by decide) ?_
          have w_40 : (wO o cI cR cS (va_up x 2 (c_wtf v 2 (x 2))) v tl) = (wO o cI cR cS (va_up x 2 (r_fill (fun k => v (k + 11)) v (x 2) 5)) v tl) := (by rw [show c_wtf v 2 (x 2) = r_fill (fun j => v (j + 11)) v (x 2) 5 from if_pos (by omega)]; first | done | rfl)
          rw [← w_40] at hP
          exact W.iret (v := nI 0) hx hb hrt (fun t ht hW => ⟨⟨_, (), rfl, (congrArg nI (Eq.symm (show c_half v 2 = _ from Eq.trans (if_pos (by omega)) (if_neg (by rw [b_ls_fill] at c_39; exact c_39))))), by show va_P D vwCl _ t.heap; rw [ht]; exact hP⟩, hS.F ht⟩) hS.2.2 dX4_wouldBeHalf_78
        · skip
          refine o_const (k := 1) hx hb dX4_wouldBeHalf_73 (by decide) ?_
          refine lv_goto (tgt := 78) hx hb dX4_wouldBeHalf_74 (by decide) ?_
          have w_41 : (wO o cI cR cS (va_up x 2 (c_wtf v 2 (x 2))) v tl) = (wO o cI cR cS (va_up x 2 (r_fill (fun k => v (k + 11)) v (x 2) 5)) v tl) := (by rw [show c_wtf v 2 (x 2) = r_fill (fun j => v (j + 11)) v (x 2) 5 from if_pos (by omega)]; first | done | rfl)
          rw [← w_41] at hP
          exact W.iret (v := nI 1) hx hb hrt (fun t ht hW => ⟨⟨_, (), rfl, (congrArg nI (Eq.symm (show c_half v 2 = _ from Eq.trans (if_pos (by omega)) (if_pos (by rw [b_ls_fill] at c_39; exact c_39))))), by show va_P D vwCl _ t.heap; rw [ht]; exact hP⟩, hS.F ht⟩) hS.2.2 dX4_wouldBeHalf_78
      · skip
        refine o_const (k := 0) hx hb dX4_wouldBeHalf_30 (by decide) ?_
        have w_42 : (wO o cI cR cS (va_up x 2 (c_wtf v 2 (x 2))) v tl) = (wO o cI cR cS x v tl) := (by rw [show c_wtf v 2 (x 2) = x 2 from if_neg (by omega)]; first | done | rfl)
        rw [← w_42] at hP
        exact W.iret (v := nI 0) hx hb hrt (fun t ht hW => ⟨⟨_, (), rfl, (congrArg nI (Eq.symm (show c_half v 2 = _ from if_neg (by omega)))), by show va_P D vwCl _ t.heap; rw [ht]; exact hP⟩, hS.F ht⟩) hS.2.2 dX4_wouldBeHalf_31
    · skip
      exfalso
      omega
  · skip
    have hSc := hSI
    obtain ⟨⟨i1, i2, i3, hpl⟩, i5⟩ := hSI
    have i12 := i5 3 (by omega)
    unfold s_IR at i12
    simp only [Nat.reduceMul, Nat.reduceAdd] at i12
    have hor := s_out_or v 3
    refine lv_iload_n hx hb dX4_wouldBeHalf_0 rfl (lv_at hl 1 rfl) ?_
    refine o_const (k := 4) hx hb dX4_wouldBeHalf_1 (by decide) ?_
    refine o_ri (va_runS (As := [.int (nI 3), .int (nI 4)]) (rest := []) ⟨hx, hb, hml, hown, hts⟩ (k_X4_isBelow l D cI cR cS cL 3 4 (by show 3 < 2 ^ 32; first | assumption | omega) (by show 4 < 2 ^ 31; first | assumption | omega)) (va_cwS 2 hts gX4_wouldBeHalf_X4_isBelow rfl rfl rfl (by decide +kernel) ⟨Nat.le_of_ble_eq_true rfl, Nat.le_of_ble_eq_true rfl⟩) (o_pR hK hN (hP.sub (ws' := []) [] rfl)) rfl rfl hl.1 rfl (lv_room (Nat.le_of_ble_eq_true rfl)) dX4_wouldBeHalf_2 ⟨Nat.zero_le _, Nat.zero_le _⟩) (fun r_44 e_43 => ?_)
    have e_43 : r_44 = nI (bn (3 < 4)) := e_43
    subst e_43
    refine o_ifnz (tgt := 18) hx hb dX4_wouldBeHalf_5 (by decide) (fun c_45 => ?_) (fun c_45 => ?_)
    · skip
      refine lv_aload_n hx hb dX4_wouldBeHalf_18 rfl (lv_at hl 0 rfl) ?_
      refine va_get (D := D) (ci := 4) (v := .ref (o 5)) (C := RX4) (T := TX4) (N := 6) hx hb hts inX4_wouldBeHalf_X4 hown hK hP 0 rfl rfl 0 (by decide) (hts (.fieldLink RX4 10 "OddNotice" "now" "LOddNotice$State;") (List.mem_of_getElem? (i := 3) (by decide +kernel))) (fun _ h9 => h9) rfl dX4_wouldBeHalf_19 ?_
      refine lv_iload_n hx hb dX4_wouldBeHalf_22 rfl (lv_at hl 1 rfl) ?_
      refine o_ri (va_runV (As := [.int (nI 3)]) (rest := []) ⟨hx, hb, hml, hown, hts⟩ (k_X2_outcome l D cI cR cS cL (fun k => o (k + 5)) v b 3 (by show s_I b v; first | assumption | omega) (by show b < 2 ^ 28; first | assumption | omega) (by show 3 < 4; first | assumption | omega)) (cwV 1 hts gX4_wouldBeHalf_X2_outcome rfl rfl rfl (by decide +kernel) ⟨Nat.le_of_ble_eq_true rfl, Nat.le_of_ble_eq_true rfl⟩) (o_v (o_pR hK hN (hP.sub (ws' := (wS (fun k => o (k + 5)) cI cR v)) [5, 6, 7, 8, 9, 10, 11, 12, 13, 14, 15, 16, 17, 18, 19, 20, 21, 22, 23] rfl)) (va_recv hK hP (ci := 2) (q0 := 5) rfl rfl)) rfl rfl hl.1 rfl (lv_room (Nat.le_of_ble_eq_true rfl)) dX4_wouldBeHalf_23 ⟨Nat.zero_le _, Nat.zero_le _⟩) (fun r_47 e_46 => ?_)
      have e_46 : r_47 = nI (s_out v 3) := e_46
      subst e_46
      refine o_const (k := 1) hx hb dX4_wouldBeHalf_26 (by decide) ?_
      refine o_icmp_eq (tgt := 32) hx hb dX4_wouldBeHalf_27 (by decide) (by omega) (Nat.le_of_ble_eq_true rfl) (fun c_48 => ?_) (fun c_48 => ?_)
      · skip
        refine lv_aload_n hx hb dX4_wouldBeHalf_32 rfl (lv_at hl 0 rfl) ?_
        refine va_get (D := D) (ci := 4) (v := .ref (o 5)) (C := RX4) (T := TX4) (N := 6) hx hb hts inX4_wouldBeHalf_X4 hown hK hP 0 rfl rfl 0 (by decide) (hts (.fieldLink RX4 10 "OddNotice" "now" "LOddNotice$State;") (List.mem_of_getElem? (i := 3) (by decide +kernel))) (fun _ h9 => h9) rfl dX4_wouldBeHalf_33 ?_
        refine va_get (D := D) (ci := 2) (v := .ref (o 11)) (C := RX2) (T := TX2) (N := 4) hx hb hts inX4_wouldBeHalf_X2 hown hK hP 5 rfl rfl 1 (by decide) (hts (.fieldLink RX4 91 "OddNotice$State" "readers" "[LOddNotice$Reader;") (List.mem_of_getElem? (i := 4) (by decide +kernel))) (fun _ h9 => h9) rfl dX4_wouldBeHalf_36 ?_
        refine lv_iload_n hx hb dX4_wouldBeHalf_39 rfl (lv_at hl 1 rfl) ?_
        refine o_aldq (v := (o 21)) (C := "OddNotice$Reader") hx hb hK hP 6 1 rfl rfl (Nat.le_of_ble_eq_true rfl) (Nat.le_of_ble_eq_true rfl) rfl dX4_wouldBeHalf_40 ?_
        refine lv_aload_n hx hb dX4_wouldBeHalf_41 rfl (lv_at hl 0 rfl) ?_
        refine va_get (D := D) (ci := 4) (v := .ref (o 4)) (C := RX4) (T := TX4) (N := 6) hx hb hts inX4_wouldBeHalf_X4 hown hK hP 0 rfl rfl 5 (by decide) (hts (.fieldLink RX4 27 "OddNotice" "wouldTake" "[I") (List.mem_of_getElem? (i := 5) (by decide +kernel))) (fun _ h9 => h9) rfl dX4_wouldBeHalf_42 ?_
        refine lv_aload_n hx hb dX4_wouldBeHalf_45 rfl (lv_at hl 0 rfl) ?_
        refine va_get (D := D) (ci := 4) (v := .ref (o 5)) (C := RX4) (T := TX4) (N := 6) hx hb hts inX4_wouldBeHalf_X4 hown hK hP 0 rfl rfl 0 (by decide) (hts (.fieldLink RX4 10 "OddNotice" "now" "LOddNotice$State;") (List.mem_of_getElem? (i := 3) (by decide +kernel))) (fun _ h9 => h9) rfl dX4_wouldBeHalf_46 ?_
        refine va_get (D := D) (ci := 2) (v := .ref (o 6)) (C := RX2) (T := TX2) (N := 4) hx hb hts inX4_wouldBeHalf_X2 hown hK hP 5 rfl rfl 0 (by decide) (hts (.fieldLink RX4 42 "OddNotice$State" "board" "LOddNotice$Board;") (List.mem_of_getElem? (i := 6) (by decide +kernel))) (fun _ h9 => h9) rfl dX4_wouldBeHalf_49 ?_
        refine o_wv (va_runV (As := [.ref (o 4), .ref (o 6)]) (rest := []) ⟨hx, hb, hml, hown, hts⟩ (k_X1_fillWouldTake l D cI cR cS cL s.heap.size (fun k => o (k + 21)) (fun k => v (k + 14)) (fun k => o (k + 6)) v (o 4) (x 2) (by show (v 14 1) < 2 ^ 31; first | assumption | omega) (by show (v 14 4) < 2 ^ 31; first | assumption | omega)) (cwV 2 hts gX4_wouldBeHalf_X1_fillWouldTake rfl rfl rfl (by decide +kernel) ⟨Nat.le_of_ble_eq_true rfl, Nat.le_of_ble_eq_true rfl⟩) (o_v (o_pB hK hN (hP.sub (ws' := (wR (fun k => o (k + 21)) cI (fun k => v (k + 14)) ++ (wB (fun k => o (k + 6)) cI v ++ [oa cI (o 4) 5 (x 2)]))) [21, 22, 23, 7, 8, 9, 10, 11, 4] rfl) (hD.sub (ws' := (wR (fun k => o (k + 21)) cI (fun k => v (k + 14)) ++ (wB (fun k => o (k + 6)) cI v ++ [oa cI (o 4) 5 (x 2)]))) [21, 22, 23, 7, 8, 9, 10, 11, 4] (by decide) rfl)) (va_recv hK hP (ci := 1) (q0 := 21) rfl rfl)) rfl rfl hl.1 rfl (lv_room (Nat.le_of_ble_eq_true rfl)) dX4_wouldBeHalf_52 ⟨Nat.zero_le _, Nat.zero_le _⟩) hP hD hS hA [21, 22, 23, 7, 8, 9, 10, 11, 4] (by decide) rfl (fun _ => rfl) (fun _ H locs e_49 hP hD hS => ?_)
        have hP : va_P D vwCl (wO o cI cR cS (va_up x 2 (r_fill (fun k => v (k + 14)) v (x 2) 5)) v tl) H := hP
        have hD : va_D A (wO o cI cR cS (va_up x 2 (r_fill (fun k => v (k + 14)) v (x 2) 5)) v tl) := hD
        refine lv_aload_n hx hb dX4_wouldBeHalf_55 rfl (lv_at hl 0 rfl) ?_
        refine va_get (D := D) (ci := 4) (v := .ref (o 5)) (C := RX4) (T := TX4) (N := 6) hx hb hts inX4_wouldBeHalf_X4 hown hK hP 0 rfl rfl 0 (by decide) (hts (.fieldLink RX4 10 "OddNotice" "now" "LOddNotice$State;") (List.mem_of_getElem? (i := 3) (by decide +kernel))) (fun _ h9 => h9) rfl dX4_wouldBeHalf_56 ?_
        refine va_get (D := D) (ci := 2) (v := .ref (o 6)) (C := RX2) (T := TX2) (N := 4) hx hb hts inX4_wouldBeHalf_X2 hown hK hP 5 rfl rfl 0 (by decide) (hts (.fieldLink RX4 42 "OddNotice$State" "board" "LOddNotice$Board;") (List.mem_of_getElem? (i := 6) (by decide +kernel))) (fun _ h9 => h9) rfl dX4_wouldBeHalf_59 ?_
        refine lv_aload_n hx hb dX4_wouldBeHalf_62 rfl (lv_at hl 0 rfl) ?_
        refine va_get (D := D) (ci := 4) (v := .ref (o 4)) (C := RX4) (T := TX4) (N := 6) hx hb hts inX4_wouldBeHalf_X4 hown hK hP 0 rfl rfl 5 (by decide) (hts (.fieldLink RX4 27 "OddNotice" "wouldTake" "[I") (List.mem_of_getElem? (i := 5) (by decide +kernel))) (fun _ h9 => h9) rfl dX4_wouldBeHalf_63 ?_
        refine o_ri (va_runV (As := [.ref (o 4)]) (rest := []) ⟨hx, hb, hml, hown, hts⟩ (k_X0_latestSame l D cI cR cS cL (fun k => o (k + 6)) v (o 4) (r_fill (fun k => v (k + 14)) v (x 2) 5) (by show v 0 0 < 2 ^ 30; first | assumption | omega)) (cwV 1 hts gX4_wouldBeHalf_X0_latestSame rfl rfl rfl (by decide +kernel) ⟨Nat.le_of_ble_eq_true rfl, Nat.le_of_ble_eq_true rfl⟩) (o_v (o_pR hK hN (hP.sub (ws' := (wB (fun k => o (k + 6)) cI v ++ [oa cI (o 4) 5 (r_fill (fun k => v (k + 14)) v (x 2) 5)])) [7, 8, 9, 10, 11, 4] rfl)) (va_recv hK hP (ci := 0) (q0 := 7) rfl rfl)) rfl rfl hl.1 rfl (lv_room (Nat.le_of_ble_eq_true rfl)) dX4_wouldBeHalf_66 ⟨Nat.zero_le _, Nat.zero_le _⟩) (fun r_51 e_50 => ?_)
        have e_50 : r_51 = nI (b_ls (v 4) (r_fill (fun k => v (k + 14)) v (x 2) 5) (v 0 0 / 2) 16 0) := e_50
        subst e_50
        have gv_52 := (b_ls_lt (by omega) 16 0 : b_ls (v 4) (r_fill (fun k => v (k + 14)) v (x 2) 5) (v 0 0 / 2) 16 0 < 2 ^ 32)
        refine o_const (k := 4294967295) hx hb dX4_wouldBeHalf_69 (by decide) ?_
        refine o_icmp_ne (tgt := 77) hx hb dX4_wouldBeHalf_70 (by decide) (by omega) (Nat.le_of_ble_eq_true rfl) (fun c_53 => ?_) (fun c_53 => ?_)
        · skip
          refine o_const (k := 0) hx hb dX4_wouldBeHalf_77 (by decide) ?_
          have w_54 : (wO o cI cR cS (va_up x 2 (c_wtf v 3 (x 2))) v tl) = (wO o cI cR cS (va_up x 2 (r_fill (fun k => v (k + 14)) v (x 2) 5)) v tl) := (by rw [show c_wtf v 3 (x 2) = r_fill (fun j => v (j + 14)) v (x 2) 5 from if_pos (by omega)]; first | done | rfl)
          rw [← w_54] at hP
          exact W.iret (v := nI 0) hx hb hrt (fun t ht hW => ⟨⟨_, (), rfl, (congrArg nI (Eq.symm (show c_half v 3 = _ from Eq.trans (if_pos (by omega)) (if_neg (by rw [b_ls_fill] at c_53; exact c_53))))), by show va_P D vwCl _ t.heap; rw [ht]; exact hP⟩, hS.F ht⟩) hS.2.2 dX4_wouldBeHalf_78
        · skip
          refine o_const (k := 1) hx hb dX4_wouldBeHalf_73 (by decide) ?_
          refine lv_goto (tgt := 78) hx hb dX4_wouldBeHalf_74 (by decide) ?_
          have w_55 : (wO o cI cR cS (va_up x 2 (c_wtf v 3 (x 2))) v tl) = (wO o cI cR cS (va_up x 2 (r_fill (fun k => v (k + 14)) v (x 2) 5)) v tl) := (by rw [show c_wtf v 3 (x 2) = r_fill (fun j => v (j + 14)) v (x 2) 5 from if_pos (by omega)]; first | done | rfl)
          rw [← w_55] at hP
          exact W.iret (v := nI 1) hx hb hrt (fun t ht hW => ⟨⟨_, (), rfl, (congrArg nI (Eq.symm (show c_half v 3 = _ from Eq.trans (if_pos (by omega)) (if_pos (by rw [b_ls_fill] at c_53; exact c_53))))), by show va_P D vwCl _ t.heap; rw [ht]; exact hP⟩, hS.F ht⟩) hS.2.2 dX4_wouldBeHalf_78
      · skip
        refine o_const (k := 0) hx hb dX4_wouldBeHalf_30 (by decide) ?_
        have w_56 : (wO o cI cR cS (va_up x 2 (c_wtf v 3 (x 2))) v tl) = (wO o cI cR cS x v tl) := (by rw [show c_wtf v 3 (x 2) = x 2 from if_neg (by omega)]; first | done | rfl)
        rw [← w_56] at hP
        exact W.iret (v := nI 0) hx hb hrt (fun t ht hW => ⟨⟨_, (), rfl, (congrArg nI (Eq.symm (show c_half v 3 = _ from if_neg (by omega)))), by show va_P D vwCl _ t.heap; rw [ht]; exact hP⟩, hS.F ht⟩) hS.2.2 dX4_wouldBeHalf_31
    · skip
      exfalso
      omega
