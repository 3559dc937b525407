theorem inX4_wouldBeHalf_X4 : ∀ w ∈ wsX40, w ∈ wsX4_wouldBeHalf := by decide +kernel
theorem inX4_wouldBeHalf_X2 : ∀ w ∈ wsX20, w ∈ wsX4_wouldBeHalf := by decide +kernel
set_option maxHeartbeats 4000000 in
set_option maxRecDepth 100000 in
theorem k_X4_wouldBeHalf (l : Launch) (D : va_G) (cI cR cS cL : ClassId) (sz : Nat) (o : Nat → Nat) (x : Nat → Nat → Nat) (v : Nat → Nat → Nat) (tl : va_W) (b : Nat) (r : Nat) (hSI : s_I b v) (hb : b < 2 ^ 28) (hr : r < 4) : Met l yX4_wouldBeHalf wsX4_wouldBeHalf ({ frames := 3, cells := 0, slots := 0, locals := 65 }) (va_Pc [.ref (o 0), .int (nI r)] (o_B D (o_T cI cR cS cL) (wO o cI cR cS x v tl) sz)) (va_Qi (fun rz (_ : Unit) => rz = nI (c_half v r)) (fun (_ : Unit) t => va_P D vwCl (wO o cI cR cS (va_up x 2 (c_wtf v r (x 2))) v tl) t.heap) (va_A (wO o cI cR cS x v tl) sz)) 0 0 (va_A (wO o cI cR cS x v tl) sz) := by
  refine Met.ofW (cc := cX4_wouldBeHalf) (maxL := 2) (ret := (some .int)) (by decide) rfl ?_
  intro p e s m args below meth cd s₁ B hml hv
  obtain ⟨rfl, hsz, hP, hK, hD0, hN⟩ := hv
  have hx := B.exec
  have hb := B.bytes
  have hrt := B.returns
  have hts := atoms_spec (ws := wsX4_wouldBeHalf) B.pre
  have hown : s.vm.findClass RX4 = some m.cls := findClass_of_methodNamed B.named
  have hlocks := B.notSynchronized
  subst hsz
  have hD := hD0.self (sz := s.heap.size)
  generalize hAe : va_A (wO o cI cR cS x v tl) s.heap.size = A at hD ⊢
  have hA : ∀ q : Nat, s.heap.size ≤ q → A q := fun q h => by rw [← hAe]; exact Or.inr h
  have hS : va_S A s.heap s.heap [] := va_S.rf
  have hl := lv_entry ([.ref (o 0), .int (nI r)]) (n := 2) (Nat.le_of_ble_eq_true rfl)
  rw [lg_entry_eq]
  generalize (lg_sl ([.ref (o 0), .int (nI r)]) ++ List.replicate (2 - (lg_sl ([.ref (o 0), .int (nI r)])).length) Slot.unset).toArray = ls at hl ⊢
  have hl : lv_has ls 2 [(0, .ref (o 0)), (1, .int (nI r))] := hl
  rcases o_lt4 hr with rfl | rfl | rfl | rfl
  · skip
    have hSc := hSI
    obtain ⟨⟨i1, i2, i3, hpl⟩, i5⟩ := hSI
    have i12 := i5 0 (by omega)
    unfold s_IR at i12
    simp only [Nat.reduceMul, Nat.reduceAdd] at i12
    have hor := s_out_or v 0
    refine lv_iload_n hx hb dX4_wouldBeHalf_0 rfl (lv_at hl 1 rfl) ?_
    refine o_const (k := 4) hx hb dX4_wouldBeHalf_1 (by decide) ?_
    refine o_ri (va_runS (As := [.int (nI 0), .int (nI 4)]) (rest := []) ⟨hx, hb, hml, hown, hts⟩ (k_X4_isBelow l D cI cR cS cL 0 4 (by show 0 < 2 ^ 32; first | assumption | omega) (by show 4 < 2 ^ 31; first | assumption | omega)) (va_cwS 2 hts gX4_wouldBeHalf_X4_isBelow rfl rfl rfl (by decide +kernel) ⟨Nat.le_of_ble_eq_true rfl, Nat.le_of_ble_eq_true rfl⟩) (o_pR hK hN (hP.sub (ws' := []) [] rfl)) rfl rfl hl.1 rfl (lv_room (Nat.le_of_ble_eq_true rfl)) dX4_wouldBeHalf_2 ⟨Nat.zero_le _, Nat.zero_le _⟩) (fun r_2 e_1 => ?_)
    have e_1 : r_2 = nI (bn (0 < 4)) := e_1
    subst e_1
    refine o_ifnz (tgt := 18) hx hb dX4_wouldBeHalf_5 (by decide) (fun c_3 => ?_) (fun c_3 => ?_)
    · skip
      refine lv_aload_n hx hb dX4_wouldBeHalf_18 rfl (lv_at hl 0 rfl) ?_
      refine va_get (D := D) (ci := 4) (v := .ref (o 5)) (C := RX4) (T := TX4) (N := 6) hx hb hts inX4_wouldBeHalf_X4 hown hK hP 0 rfl rfl 0 (by decide) (hts (.fieldLink RX4 10 "OddNotice" "now" "LOddNotice$State;") (List.mem_of_getElem? (i := 3) (by decide +kernel))) (fun _ h9 => h9) rfl dX4_wouldBeHalf_19 ?_
      refine lv_iload_n hx hb dX4_wouldBeHalf_22 rfl (lv_at hl 1 rfl) ?_
      refine o_ri (va_runV (As := [.int (nI 0)]) (rest := []) ⟨hx, hb, hml, hown, hts⟩ (k_X2_outcome l D cI cR cS cL (fun k => o (k + 5)) v b 0 (by show s_I b v; first | assumption | omega) (by show b < 2 ^ 28; first | assumption | omega) (by show 0 < 4; first | assumption | omega)) (cwV 1 hts gX4_wouldBeHalf_X2_outcome rfl rfl rfl (by decide +kernel) ⟨Nat.le_of_ble_eq_true rfl, Nat.le_of_ble_eq_true rfl⟩) (o_v (o_pR hK hN (hP.sub (ws' := (wS (fun k => o (k + 5)) cI cR v)) [5, 6, 7, 8, 9, 10, 11, 12, 13, 14, 15, 16, 17, 18, 19, 20, 21, 22, 23] rfl)) (va_recv hK hP (ci := 2) (q0 := 5) rfl rfl)) rfl rfl hl.1 rfl (lv_room (Nat.le_of_ble_eq_true rfl)) dX4_wouldBeHalf_23 ⟨Nat.zero_le _, Nat.zero_le _⟩) (fun r_5 e_4 => ?_)
      have e_4 : r_5 = nI (s_out v 0) := e_4
      subst e_4
      refine o_const (k := 1) hx hb dX4_wouldBeHalf_26 (by decide) ?_
      refine o_icmp_eq (tgt := 32) hx hb dX4_wouldBeHalf_27 (by decide) (by omega) (Nat.le_of_ble_eq_true rfl) (fun c_6 => ?_) (fun c_6 => ?_)
      · skip
        refine lv_aload_n hx hb dX4_wouldBeHalf_32 rfl (lv_at hl 0 rfl) ?_
        refine va_get (D := D) (ci := 4) (v := .ref (o 5)) (C := RX4) (T := TX4) (N := 6) hx hb hts inX4_wouldBeHalf_X4 hown hK hP 0 rfl rfl 0 (by decide) (hts (.fieldLink RX4 10 "OddNotice" "now" "LOddNotice$State;") (List.mem_of_getElem? (i := 3) (by decide +kernel))) (fun _ h9 => h9) rfl dX4_wouldBeHalf_33 ?_
        refine va_get (D := D) (ci := 2) (v := .ref (o 11)) (C := RX2) (T := TX2) (N := 4) hx hb hts inX4_wouldBeHalf_X2 hown hK hP 5 rfl rfl 1 (by decide) (hts (.fieldLink RX4 91 "OddNotice$State" "readers" "[LOddNotice$Reader;") (List.mem_of_getElem? (i := 4) (by decide +kernel))) (fun _ h9 => h9) rfl dX4_wouldBeHalf_36 ?_
        refine lv_iload_n hx hb dX4_wouldBeHalf_39 rfl (lv_at hl 1 rfl) ?_
        refine o_aldq (v := (o 12)) (C := "OddNotice$Reader") hx hb hK hP 6 1 rfl rfl (Nat.le_of_ble_eq_true rfl) (Nat.le_of_ble_eq_true rfl) rfl dX4_wouldBeHalf_40 ?_
        refine lv_aload_n hx hb dX4_wouldBeHalf_41 rfl (lv_at hl 0 rfl) ?_
        refine va_get (D := D) (ci := 4) (v := .ref (o 4)) (C := RX4) (T := TX4) (N := 6) hx hb hts inX4_wouldBeHalf_X4 hown hK hP 0 rfl rfl 5 (by decide) (hts (.fieldLink RX4 27 "OddNotice" "wouldTake" "[I") (List.mem_of_getElem? (i := 5) (by decide +kernel))) (fun _ h9 => h9) rfl dX4_wouldBeHalf_42 ?_
        refine lv_aload_n hx hb dX4_wouldBeHalf_45 rfl (lv_at hl 0 rfl) ?_
        refine va_get (D := D) (ci := 4) (v := .ref (o 5)) (C := RX4) (T := TX4) (N := 6) hx hb hts inX4_wouldBeHalf_X4 hown hK hP 0 rfl rfl 0 (by decide) (hts (.fieldLink RX4 10 "OddNotice" "now" "LOddNotice$State;") (List.mem_of_getElem? (i := 3) (by decide +kernel))) (fun _ h9 => h9) rfl dX4_wouldBeHalf_46 ?_
        refine va_get (D := D) (ci := 2) (v := .ref (o 6)) (C := RX2) (T := TX2) (N := 4) hx hb hts inX4_wouldBeHalf_X2 hown hK hP 5 rfl rfl 0 (by decide) (hts (.fieldLink RX4 42 "OddNotice$State" "board" "LOddNotice$Board;") (List.mem_of_getElem? (i := 6) (by decide +kernel))) (fun _ h9 => h9) rfl dX4_wouldBeHalf_49 ?_
        refine o_wv (va_runV (As := [.ref (o 4), .ref (o 6)]) (rest := []) ⟨hx, hb, hml, hown, hts⟩ (k_X1_fillWouldTake l D cI cR cS cL s.heap.size (fun k => o (k + 12)) (fun k => v (k + 5)) (fun k => o (k + 6)) v (o 4) (x 2) (by show (v 5 1) < 2 ^ 31; first | assumption | omega) (by show (v 5 4) < 2 ^ 31; first | assumption | omega)) (cwV 2 hts gX4_wouldBeHalf_X1_fillWouldTake rfl rfl rfl (by decide +kernel) ⟨Nat.le_of_ble_eq_true rfl, Nat.le_of_ble_eq_true rfl⟩) (o_v (o_pB hK hN (hP.sub (ws' := (wR (fun k => o (k + 12)) cI (fun k => v (k + 5)) ++ (wB (fun k => o (k + 6)) cI v ++ [oa cI (o 4) 5 (x 2)]))) [12, 13, 14, 7, 8, 9, 10, 11, 4] rfl) (hD.sub (ws' := (wR (fun k => o (k + 12)) cI (fun k => v (k + 5)) ++ (wB (fun k => o (k + 6)) cI v ++ [oa cI (o 4) 5 (x 2)]))) [12, 13, 14, 7, 8, 9, 10, 11, 4] (by decide) rfl)) (va_recv hK hP (ci := 1) (q0 := 12) rfl rfl)) rfl rfl hl.1 rfl (lv_room (Nat.le_of_ble_eq_true rfl)) dX4_wouldBeHalf_52 ⟨Nat.zero_le _, Nat.zero_le _⟩) hP hD hS hA [12, 13, 14, 7, 8, 9, 10, 11, 4] (by decide) rfl (fun _ => rfl) (fun _ H locs e_7 hP hD hS => ?_)
        have hP : va_P D vwCl (wO o cI cR cS (va_up x 2 (r_fill (fun k => v (k + 5)) v (x 2) 5)) v tl) H := hP
        have hD : va_D A (wO o cI cR cS (va_up x 2 (r_fill (fun k => v (k + 5)) v (x 2) 5)) v tl) := hD
        refine lv_aload_n hx hb dX4_wouldBeHalf_55 rfl (lv_at hl 0 rfl) ?_
        refine va_get (D := D) (ci := 4) (v := .ref (o 5)) (C := RX4) (T := TX4) (N := 6) hx hb hts inX4_wouldBeHalf_X4 hown hK hP 0 rfl rfl 0 (by decide) (hts (.fieldLink RX4 10 "OddNotice" "now" "LOddNotice$State;") (List.mem_of_getElem? (i := 3) (by decide +kernel))) (fun _ h9 => h9) rfl dX4_wouldBeHalf_56 ?_
        refine va_get (D := D) (ci := 2) (v := .ref (o 6)) (C := RX2) (T := TX2) (N := 4) hx hb hts inX4_wouldBeHalf_X2 hown hK hP 5 rfl rfl 0 (by decide) (hts (.fieldLink RX4 42 "OddNotice$State" "board" "LOddNotice$Board;") (List.mem_of_getElem? (i := 6) (by decide +kernel))) (fun _ h9 => h9) rfl dX4_wouldBeHalf_59 ?_
        refine lv_aload_n hx hb dX4_wouldBeHalf_62 rfl (lv_at hl 0 rfl) ?_
        refine va_get (D := D) (ci := 4) (v := .ref (o 4)) (C := RX4) (T := TX4) (N := 6) hx hb hts inX4_wouldBeHalf_X4 hown hK hP 0 rfl rfl 5 (by decide) (hts (.fieldLink RX4 27 "OddNotice" "wouldTake" "[I") (List.mem_of_getElem? (i := 5) (by decide +kernel))) (fun _ h9 => h9) rfl dX4_wouldBeHalf_63 ?_
        refine o_ri (va_runV (As := [.ref (o 4)]) (rest := []) ⟨hx, hb, hml, hown, hts⟩ (k_X0_latestSame l D cI cR cS cL (fun k => o (k + 6)) v (o 4) (r_fill (fun k => v (k + 5)) v (x 2) 5) (by show v 0 0 < 2 ^ 30; first | assumption | omega)) (cwV 1 hts gX4_wouldBeHalf_X0_latestSame rfl rfl rfl (by decide +kernel) ⟨Nat.le_of_ble_eq_true rfl, Nat.le_of_ble_eq_true rfl⟩) (o_v (o_pR hK hN (hP.sub (ws' := (wB (fun k => o (k + 6)) cI v ++ [oa cI (o 4) 5 (r_fill (fun k => v (k + 5)) v (x 2) 5)])) [7, 8, 9, 10, 11, 4] rfl)) (va_recv hK hP (ci := 0) (q0 := 7) rfl rfl)) rfl rfl hl.1 rfl (lv_room (Nat.le_of_ble_eq_true rfl)) dX4_wouldBeHalf_66 ⟨Nat.zero_le _, Nat.zero_le _⟩) (fun r_9 e_8 => ?_)
        have e_8 : r_9 = nI (b_ls (v 4) (r_fill (fun k => v (k + 5)) v (x 2) 5) (v 0 0 / 2) 16 0) := e_8
        subst e_8
        have gv_10 := (b_ls_lt (by omega) 16 0 : b_ls (v 4) (r_fill (fun k => v (k + 5)) v (x 2) 5) (v 0 0 / 2) 16 0 < 2 ^ 32)
        refine o_const (k := 4294967295) hx hb dX4_wouldBeHalf_69 (by decide) ?_
        refine o_icmp_ne (tgt := 77) hx hb dX4_wouldBeHalf_70 (by decide) (by omega) (Nat.le_of_ble_eq_true rfl) (fun c_11 => ?_) (fun c_11 => ?_)
        · skip
          refine o_const (k := 0) hx hb dX4_wouldBeHalf_77 (by decide) ?_
          have w_12 : (wO o cI cR cS (va_up x 2 (c_wtf v 0 (x 2))) v tl) = (wO o cI cR cS (va_up x 2 (r_fill (fun k => v (k + 5)) v (x 2) 5)) v tl) := (by rw [show c_wtf v 0 (x 2) = r_fill (fun j => v (j + 5)) v (x 2) 5 from if_pos (by omega)]; first | done | rfl)
          rw [← w_12] at hP
          exact W.iret (v := nI 0) hx hb hrt (fun t ht hW => ⟨⟨_, (), rfl, (congrArg nI (Eq.symm (show c_half v 0 = _ from Eq.trans (if_pos (by omega)) (if_neg (by rw [b_ls_fill] at c_11; exact c_11))))), by show va_P D vwCl _ t.heap; rw [ht]; exact hP⟩, hS.F ht⟩) hS.2.2 dX4_wouldBeHalf_78
        · skip
          refine o_const (k := 1) hx hb dX4_wouldBeHalf_73 (by decide) ?_
          refine lv_goto (tgt := 78) hx hb dX4_wouldBeHalf_74 (by decide) ?_
          have w_13 : (wO o cI cR cS (va_up x 2 (c_wtf v 0 (x 2))) v tl) = (wO o cI cR cS (va_up x 2 (r_fill (fun k => v (k + 5)) v (x 2) 5)) v tl) := (by rw [show c_wtf v 0 (x 2) = r_fill (fun j => v (j + 5)) v (x 2) 5 from if_pos (by omega)]; first | done | rfl)
          rw [← w_13] at hP
          exact W.iret (v := nI 1) hx hb hrt (fun t ht hW => ⟨⟨_, (), rfl, (congrArg nI (Eq.symm (show c_half v 0 = _ from Eq.trans (if_pos (by omega)) (if_pos (by rw [b_ls_fill] at c_11; exact c_11))))), by show va_P D vwCl _ t.heap; rw [ht]; exact hP⟩, hS.F ht⟩) hS.2.2 dX4_wouldBeHalf_78
      · skip
        refine o_const (k := 0) hx hb dX4_wouldBeHalf_30 (by decide) ?_
        have w_14 : (wO o cI cR cS (va_up x 2 (c_wtf v 0 (x 2))) v tl) = (wO o cI cR cS x v tl) := (by rw [show c_wtf v 0 (x 2) = x 2 from if_neg (by omega)]; first | done | rfl)
        rw [← w_14] at hP
        exact W.iret (v := nI 0) hx hb hrt (fun t ht hW => ⟨⟨_, (), rfl, (congrArg nI (Eq.symm (show c_half v 0 = _ from if_neg (by omega)))), by show va_P D vwCl _ t.heap; rw [ht]; exact hP⟩, hS.F ht⟩) hS.2.2 dX4_wouldBeHalf_31
    · skip
      exfalso
      omega
  · skip
    have hSc := hSI
    obtain ⟨⟨i1, i2, i3, hpl⟩, i5⟩ := hSI
    have i12 := i5 1 (by omega)
    unfold s_IR at i12
    simp only [Nat.reduceMul, Nat.reduceAdd] at i12
    have hor := s_out_or v 1
    refine lv_iload_n hx hb dX4_wouldBeHalf_0 rfl (lv_at hl 1 rfl) ?_
    refine o_const (k := 4) hx hb dX4_wouldBeHalf_1 (by decide) ?_
    refine o_ri (va_runS (As := [.int (nI 1), .int (nI 4)]) (rest := []) ⟨hx, hb, hml, hown, hts⟩ (k_X4_isBelow l D cI cR cS cL 1 4 (by show 1 < 2 ^ 32; first | assumption | omega) (by show 4 < 2 ^ 31; first | assumption | omega)) (va_cwS 2 hts gX4_wouldBeHalf_X4_isBelow rfl rfl rfl (by decide +kernel) ⟨Nat.le_of_ble_eq_true rfl, Nat.le_of_ble_eq_true rfl⟩) (o_pR hK hN (hP.sub (ws' := []) [] rfl)) rfl rfl hl.1 rfl (lv_room (Nat.le_of_ble_eq_true rfl)) dX4_wouldBeHalf_2 ⟨Nat.zero_le _, Nat.zero_le _⟩) (fun r_16 e_15 => ?_)
    have e_15 : r_16 = nI (bn (1 < 4)) := e_15
    subst e_15
    refine o_ifnz (tgt := 18) hx hb dX4_wouldBeHalf_5 (by decide) (fun c_17 => ?_) (fun c_17 => ?_)
    · skip
      refine lv_aload_n hx hb dX4_wouldBeHalf_18 rfl (lv_at hl 0 rfl) ?_
      refine va_get (D := D) (ci := 4) (v := .ref (o 5)) (C := RX4) (T := TX4) (N := 6) hx hb hts inX4_wouldBeHalf_X4 hown hK hP 0 rfl rfl 0 (by decide) (hts (.fieldLink RX4 10 "OddNotice" "now" "LOddNotice$State;") (List.mem_of_getElem? (i := 3) (by decide +kernel))) (fun _ h9 => h9) rfl dX4_wouldBeHalf_19 ?_
      refine lv_iload_n hx hb dX4_wouldBeHalf_22 rfl (lv_at hl 1 rfl) ?_
      refine o_ri (va_runV (As := [.int (nI 1)]) (rest := []) ⟨hx, hb, hml, hown, hts⟩ (k_X2_outcome l D cI cR cS cL (fun k => o (k + 5)) v b 1 (by show s_I b v; first | assumption | omega) (by show b < 2 ^ 28; first | assumption | omega) (by show 1 < 4; first | assumption | omega)) (cwV 1 hts gX4_wouldBeHalf_X2_outcome rfl rfl rfl (by decide +kernel) ⟨Nat.le_of_ble_eq_true rfl, Nat.le_of_ble_eq_true rfl⟩) (o_v (o_pR hK hN (hP.sub (ws' := (wS (fun k => o (k + 5)) cI cR v)) [5, 6, 7, 8, 9, 10, 11, 12, 13, 14, 15, 16, 17, 18, 19, 20, 21, 22, 23] rfl)) (va_recv hK hP (ci := 2) (q0 := 5) rfl rfl)) rfl rfl hl.1 rfl (lv_room (Nat.le_of_ble_eq_true rfl)) dX4_wouldBeHalf_23 ⟨Nat.zero_le _, Nat.zero_le _⟩) (fun r_19 e_18 => ?_)
      have e_18 : r_19 = nI (s_out v 1) := e_18
      subst e_18
      refine o_const (k := 1) hx hb dX4_wouldBeHalf_26 (by decide) ?_
      refine o_icmp_eq (tgt := 32) hx hb dX4_wouldBeHalf_27 (by decide) (by omega) (Nat.le_of_ble_eq_true rfl) (fun c_20 => ?_) (fun c_20 => ?_)
      · skip
        refine lv_aload_n hx hb dX4_wouldBeHalf_32 rfl (lv_at hl 0 rfl) ?_
        refine va_get (D := D) (ci := 4) (v := .ref (o 5)) (C := RX4) (T := TX4) (N := 6) hx hb hts inX4_wouldBeHalf_X4 hown hK hP 0 rfl rfl 0 (by decide) (hts (.fieldLink RX4 10 "OddNotice" "now" "LOddNotice$State;") (List.mem_of_getElem? (i := 3) (by decide +kernel))) (fun _ h9 => h9) rfl dX4_wouldBeHalf_33 ?_
        refine va_get (D := D) (ci := 2) (v := .ref (o 11)) (C := RX2) (T := TX2) (N := 4) hx hb hts inX4_wouldBeHalf_X2 hown hK hP 5 rfl rfl 1 (by decide) (hts (.fieldLink RX4 91 "OddNotice$State" "readers" "[LOddNotice$Reader;") (List.mem_of_getElem? (i := 4) (by decide +kernel))) (fun _ h9 => h9) rfl dX4_wouldBeHalf_36 ?_
        refine lv_iload_n hx hb dX4_wouldBeHalf_39 rfl (lv_at hl 1 rfl) ?_
        refine o_aldq (v := (o 15)) (C := "OddNotice$Reader") hx hb hK hP 6 1 rfl rfl (Nat.le_of_ble_eq_true rfl) (Nat.le_of_ble_eq_true rfl) rfl dX4_wouldBeHalf_40 ?_
        refine lv_aload_n hx hb dX4_wouldBeHalf_41 rfl (lv_at hl 0 rfl) ?_
        refine va_get (D := D) (ci := 4) (v := .ref (o 4)) (C := RX4) (T := TX4) (N := 6) hx hb hts inX4_wouldBeHalf_X4 hown hK hP 0 rfl rfl 5 (by decide) (hts (.fieldLink RX4 27 "OddNotice" "wouldTake" "[I") (List.mem_of_getElem? (i := 5) (by decide +kernel))) (fun _ h9 => h9) rfl dX4_wouldBeHalf_42 ?_
        refine lv_aload_n hx hb dX4_wouldBeHalf_45 rfl (lv_at hl 0 rfl) ?_
        refine va_get (D := D) (ci := 4) (v := .ref (o 5)) (C := RX4) (T := TX4) (N := 6) hx hb hts inX4_wouldBeHalf_X4 hown hK hP 0 rfl rfl 0 (by decide) (hts (.fieldLink RX4 10 "OddNotice" "now" "LOddNotice$State;") (List.mem_of_getElem? (i := 3) (by decide +kernel))) (fun _ h9 => h9) rfl dX4_wouldBeHalf_46 ?_
        refine va_get (D := D) (ci := 2) (v := .ref (o 6)) (C := RX2) (T := TX2) (N := 4) hx hb hts inX4_wouldBeHalf_X2 hown hK hP 5 rfl rfl 0 (by decide) (hts (.fieldLink RX4 42 "OddNotice$State" "board" "LOddNotice$Board;") (List.mem_of_getElem? (i := 6) (by decide +kernel))) (fun _ h9 => h9) rfl dX4_wouldBeHalf_49 ?_
        refine o_wv (va_runV (As := [.ref (o 4), .ref (o 6)]) (rest := []) ⟨hx, hb, hml, hown, hts⟩ (k_X1_fillWouldTake l D cI cR cS cL s.heap.size (fun k => o (k + 15)) (fun k => v (k + 8)) (fun k => o (k + 6)) v (o 4) (x 2) (by show (v 8 1) < 2 ^ 31; first | assumption | omega) (by show (v 8 4) < 2 ^ 31; first | assumption | omega)) (cwV 2 hts gX4_wouldBeHalf_X1_fillWouldTake rfl rfl rfl (by decide +kernel) ⟨Nat.le_of_ble_eq_true rfl, Nat.le_of_ble_eq_true rfl⟩) (o_v (o_pB hK hN (hP.sub (ws' := (wR (fun k => o (k + 15)) cI (fun k => v (k + 8)) ++ (wB (fun k => o (k + 6)) cI v ++ [oa cI (o 4) 5 (x 2)]))) [15, 16, 17, 7, 8, 9, 10, 11, 4] rfl) (hD.sub (ws' := (wR (fun k => o (k + 15)) cI (fun k => v (k + 8)) ++ (wB (fun k => o (k + 6)) cI v ++ [oa cI (o 4) 5 (x 2)]))) [15, 16, 17, 7, 8, 9, 10, 11, 4] (by decide) rfl)) (va_recv hK hP (ci := 1) (q0 := 15) rfl rfl)) rfl rfl hl.1 rfl (lv_room (Nat.le_of_ble_eq_true rfl)) dX4_wouldBeHalf_52 ⟨Nat.zero_le _, Nat.zero_le _⟩) hP hD hS hA [15, 16, 17, 7, 8, 9, 10, 11, 4] (by decide) rfl (fun _ => rfl) (fun _ H locs e_21 hP hD hS => ?_)
        have hP : va_P D vwCl (wO o cI cR cS (va_up x 2 (r_fill (fun k => v (k + 8)) v (x 2) 5)) v tl) H := hP
        have hD : va_D A (wO o cI cR cS (va_up x 2 (r_fill (fun k => v (k + 8)) v (x 2) 5)) v tl) := hD
        refine lv_aload_n hx hb dX4_wouldBeHalf_55 rfl (lv_at hl 0 rfl) ?_
        refine va_get (D := D) (ci := 4) (v := .ref (o 5)) (C := RX4) (T := TX4) (N := 6) hx hb hts inX4_wouldBeHalf_X4 hown hK hP 0 rfl rfl 0 (by decide) (hts (.fieldLink RX4 10 "OddNotice" "now" "LOddNotice$State;") (List.mem_of_getElem? (i := 3) (by decide +kernel))) (fun _ h9 => h9) rfl dX4_wouldBeHalf_56 ?_
        refine va_get (D := D) (ci := 2) (v := .ref (o 6)) (C := RX2) (T := TX2) (N := 4) hx hb hts inX4_wouldBeHalf_X2 hown hK hP 5 rfl rfl 0 (by decide) (hts (.fieldLink RX4 42 "OddNotice$State" "board" "LOddNotice$Board;") (List.mem_of_getElem? (i := 6) (by decide +kernel))) (fun _ h9 => h9) rfl dX4_wouldBeHalf_59 ?_
        refine lv_aload_n hx hb dX4_wouldBeHalf_62 rfl (lv_at hl 0 rfl) ?_
        refine va_get (D := D) (ci := 4) (v := .ref (o 4)) (C := RX4) (T := TX4) (N := 6) hx hb hts inX4_wouldBeHalf_X4 hown hK hP 0 rfl rfl 5 (by decide) (hts (.fieldLink RX4 27 "OddNotice" "wouldTake" "[I") (List.mem_of_getElem? (i := 5) (by decide +kernel))) (fun _ h9 => h9) rfl dX4_wouldBeHalf_63 ?_
        refine o_ri (va_runV (As := [.ref (o 4)]) (rest := []) ⟨hx, hb, hml, hown, hts⟩ (k_X0_latestSame l D cI cR cS cL (fun k => o (k + 6)) v (o 4) (r_fill (fun k => v (k + 8)) v (x 2) 5) (by show v 0 0 < 2 ^ 30; first | assumption | omega)) (cwV 1 hts gX4_wouldBeHalf_X0_latestSame rfl rfl rfl (by decide +kernel) ⟨Nat.le_of_ble_eq_true rfl, Nat.le_of_ble_eq_true rfl⟩) (o_v (o_pR hK hN (hP.sub (ws' := (wB (fun k => o (k + 6)) cI v ++ [oa cI (o 4) 5 (r_fill (fun k => v (k + 8)) v (x 2) 5)])) [7, 8, 9, 10, 11, 4] rfl)) (va_recv hK hP (ci := 0) (q0 := 7) rfl rfl)) rfl rfl hl.1 rfl (lv_room (Nat.le_of_ble_eq_true rfl)) dX4_wouldBeHalf_66 ⟨Nat.zero_le _, Nat.zero_le _⟩) (fun r_23 e_22 => ?_)
        have e_22 : r_23 = nI (b_ls (v 4) (r_fill (fun k => v (k + 8)) v (x 2) 5) (v 0 0 / 2) 16 0) := e_22
        subst e_22
        have gv_24 := (b_ls_lt (by omega) 16 0 : b_ls (v 4) (r_fill (fun k => v (k + 8)) v (x 2) 5) (v 0 0 / 2) 16 0 < 2 ^ 32)
        refine o_const (k := 4294967295) hx hb dX4_wouldBeHalf_69 (by decide) ?_
        refine o_icmp_ne (tgt := 77) hx hb dX4_wouldBeHalf_70 (by decide) (by omega) (Nat.le_of_ble_eq_true rfl) (fun c_25 => ?_) (fun c_25 => ?_)
        · skip
          refine o_const (k := 0) hx hb dX4_wouldBeHalf_77 (by decide) ?_
          have w_26 : (wO o cI cR cS (va_up x 2 (c_wtf v 1 (x 2))) v tl) = (wO o cI cR cS (va_up x 2 (r_fill (fun k => v (k + 8)) v (x 2) 5)) v tl) := (by rw [show c_wtf v 1 (x 2) = r_fill (fun j => v (j + 8)) v (x 2) 5 from if_pos (by omega)]; first | done | rfl)
          rw [← w_26] at hP
          exact W.iret (v := nI 0) hx hb hrt (fun t ht hW => ⟨⟨_, (), rfl, (congrArg nI (Eq.symm (show c_half v 1 = _ from Eq.trans (if_pos (by omega)) (if_neg (by rw [b_ls_fill] at c_25; exact c_25))))), by show va_P D vwCl _ t.heap; rw [ht]; exact hP⟩, hS.F ht⟩) hS.2.2 dX4_wouldBeHalf_78
        · skip
          refine o_const (k := 1) hx hb dX4_wouldBeHalf_73 (by decide) ?_
          refine lv_goto (tgt := 78) hx hb dX4_wouldBeHalf_74 (by decide) ?_
          have w_27 : (wO o cI cR cS (va_up x 2 (c_wtf v 1 (x 2))) v tl) = (wO o cI cR cS (va_up x 2 (r_fill (fun k => v (k + 8)) v (x 2) 5)) v tl) := (by rw [show c_wtf v 1 (x 2) = r_fill (fun j => v (j + 8)) v (x 2) 5 from if_pos (by omega)]; first | done | rfl)
          rw [← w_27] at hP
          exact W.iret (v := nI 1) hx hb hrt (fun t ht hW => ⟨⟨_, (), rfl, (congrArg nI (Eq.symm (show c_half v 1 = _ from Eq.trans (if_pos (by omega)) (if_pos (by rw [b_ls_fill] at c_25; exact c_25))))), by show va_P D vwCl _ t.heap; rw [ht]; exact hP⟩, hS.F ht⟩) hS.2.2 dX4_wouldBeHalf_78
      · skip
        refine o_const (k := 0) hx hb dX4_wouldBeHalf_30 (by decide) ?_
        have w_28 : (wO o cI cR cS (va_up x 2 (c_wtf v 1 (x 2))) v tl) = (wO o cI cR cS x v tl) := (by rw [show c_wtf v 1 (x 2) = x 2 from if_neg (by omega)]; first | done | rfl)
        rw [← w_28] at hP
        exact W.iret (v := nI 0) hx hb hrt (fun t ht hW => ⟨⟨_, (), rfl, (congrArg nI (Eq.symm (show c_half v 1 = _ from if_neg (by omega)))), by show va_P D vwCl _ t.heap; rw [ht]; exact hP⟩, hS.F ht⟩) hS.2.2 dX4_wouldBeHalf_31
    · skip
      exfalso
      omega
  · skip
    have hSc := hSI
    obtain ⟨⟨i1, i2, i3, hpl⟩, i5⟩ := hSI
    have i12 := i5 2 (by omega)
    unfold s_IR at i12
    simp only [Nat.reduceMul, Nat.reduceAdd] at i12
    have hor := s_out_or v 2
    refine lv_iload_n hx hb dX4_wouldBeHalf_0 rfl (lv_at hl 1 rfl) ?_
    refine o_const (k := 4) hx hb dX4_wouldBeHalf_1 (by decide) ?_
    refine o_ri (va_runS (As := [.int (nI 2), .int (nI 4)]) (rest := []) ⟨hx, hb, hml, hown, hts⟩ (k_X4_isBelow l D cI cR cS cL 2 4 (by show 2 < 2 ^ 32; first | assumption | omega) (by show 4 < 2 ^ 31; first | assumption | omega)) (va_cwS 2 hts gX4_wouldBeHalf_X4_isBelow rfl rfl rfl (by decide +kernel) ⟨Nat.le_of_ble_eq_true rfl, Nat.le_of_ble_eq_true rfl⟩) (o_pR hK hN (hP.sub (ws' := []) [] rfl)) rfl rfl hl.1 rfl (lv_room (Nat.le_of_ble_eq_true rfl)) dX4_wouldBeHalf_2 ⟨Nat.zero_le _, Nat.zero_le _⟩) (fun r_30 e_29 => ?_)
    have e_29 : r_30 = nI (bn (2 < 4)) := e_29
    subst e_29
    refine o_ifnz (tgt := 18) hx hb dX4_wouldBeHalf_5 (by decide) (fun c_31 => ?_) (fun c_31 => ?_)
    · skip
      refine lv_aload_n hx hb dX4_wouldBeHalf_18 rfl (lv_at hl 0 rfl) ?_
      refine va_get (D := D) (ci := 4) (v := .ref (o 5)) (C := RX4) (T := TX4) (N := 6) hx hb hts inX4_wouldBeHalf_X4 hown hK hP 0 rfl rfl 0 (by decide) (hts (.fieldLink RX4 10 "OddNotice" "now" "LOddNotice$State;") (List.mem_of_getElem? (i := 3) (by decide +kernel))) (fun _ h9 => h9) rfl dX4_wouldBeHalf_19 ?_
      refine lv_iload_n hx hb dX4_wouldBeHalf_22 rfl (lv_at hl 1 rfl) ?_
      refine o_ri (va_runV (As := [.int (nI 2)]) (rest := []) ⟨hx, hb, hml, hown, hts⟩ (k_X2_outcome l D cI cR cS cL (fun k => o (k + 5)) v b 2 (by show s_I b v; first | assumption | omega) (by show b < 2 ^ 28; first | assumption | omega) (by show 2 < 4; first | assumption | omega)) (cwV 1 hts gX4_wouldBeHalf_X2_outcome rfl rfl rfl (by decide +kernel) ⟨Nat.le_of_ble_eq_true rfl, Nat.le_of_ble_eq_true rfl⟩) (o_v (o_pR hK hN (hP.sub (ws' := (wS (fun k => o (k + 5)) cI cR v)) [5, 6, 7, 8, 9, 10, 11, 12, 13, 14, 15, 16, 17, 18, 19, 20, 21, 22, 23] rfl)) (va_recv hK hP (ci := 2) (q0 := 5) rfl rfl)) rfl rfl hl.1 rfl (lv_room (Nat.le_of_ble_eq_true rfl)) dX4_wouldBeHalf_23 ⟨Nat.zero_le _, Nat.zero_le _⟩) (fun r_33 e_32 => ?_)
      have e_32 : r_33 = nI (s_out v 2) := e_32
      subst e_32
      refine o_const (k := 1) hx hb dX4_wouldBeHalf_26 (by decide) ?_
      refine o_icmp_eq (tgt := 32) hx hb dX4_wouldBeHalf_27 (by decide) (by omega) (Nat.le_of_ble_eq_true rfl) (fun c_34 => ?_) (fun c_34 => ?_)
      · skip
        refine lv_aload_n hx hb dX4_wouldBeHalf_32 rfl (lv_at hl 0 rfl) ?_
        refine va_get (D := D) (ci := 4) (v := .ref (o 5)) (C := RX4) (T := TX4) (N := 6) hx hb hts inX4_wouldBeHalf_X4 hown hK hP 0 rfl rfl 0 (by decide) (hts (.fieldLink RX4 10 "OddNotice" "now" "LOddNotice$State;") (List.mem_of_getElem? (i := 3) (by decide +kernel))) (fun _ h9 => h9) rfl dX4_wouldBeHalf_33 ?_
        refine va_get (D := D) (ci := 2) (v := .ref (o 11)) (C := RX2) (T := TX2) (N := 4) hx hb hts inX4_wouldBeHalf_X2 hown hK hP 5 rfl rfl 1 (by decide) (hts (.fieldLink RX4 91 "OddNotice$State" "readers" "[LOddNotice$Reader;") (List.mem_of_getElem? (i := 4) (by decide +kernel))) (fun _ h9 => h9) rfl dX4_wouldBeHalf_36 ?_
        refine lv_iload_n hx hb dX4_wouldBeHalf_39 rfl (lv_at hl 1 rfl) ?_
        refine o_aldq (v := (o 18)) (C := "OddNotice$Reader") hx hb hK hP 6 1 rfl rfl (Nat.le_of_ble_eq_true rfl) (Nat.le_of_ble_eq_true rfl) rfl dX4_wouldBeHalf_40 ?_
        refine lv_aload_n hx hb dX4_wouldBeHalf_41 rfl (lv_at hl 0 rfl) ?_
        refine va_get (D := D) (ci := 4) (v := .ref (o 4)) (C := RX4) (T := TX4) (N := 6) hx hb hts inX4_wouldBeHalf_X4 hown hK hP 0 rfl rfl 5 (by decide) (hts (.fieldLink RX4 27 "OddNotice" "wouldTake" "[I") (List.mem_of_getElem? (i := 5) (by decide +kernel))) (fun _ h9 => h9) rfl dX4_wouldBeHalf_42 ?_
        refine lv_aload_n hx hb dX4_wouldBeHalf_45 rfl (lv_at hl 0 rfl) ?_
        refine va_get (D := D) (ci := 4) (v := .ref (o 5)) (C := RX4) (T := TX4) (N := 6) hx hb hts inX4_wouldBeHalf_X4 hown hK hP 0 rfl rfl 0 (by decide) (hts (.fieldLink RX4 10 "OddNotice" "now" "LOddNotice$State;") (List.mem_of_getElem? (i := 3) (by decide +kernel))) (fun _ h9 => h9) rfl dX4_wouldBeHalf_46 ?_
        refine va_get (D := D) (ci := 2) (v := .ref (o 6)) (C := RX2) (T := TX2) (N := 4) hx hb hts inX4_wouldBeHalf_X2 hown hK hP 5 rfl rfl 0 (by decide) (hts (.fieldLink RX4 42 "OddNotice$State" "board" "LOddNotice$Board;") (List.mem_of_getElem? (i := 6) (by decide +kernel))) (fun _ h9 => h9) rfl dX4_wouldBeHalf_49 ?_
        refine o_wv (va_runV (As := [.ref (o 4), .ref (o 6)]) (rest := []) ⟨hx, hb, hml, hown, hts⟩ (k_X1_fillWouldTake l D cI cR cS cL s.heap.size (fun k => o (k + 18)) (fun k => v (k + 11)) (fun k => o (k + 6)) v (o 4) (x 2) (by show (v 11 1) < 2 ^ 31; first | assumption | omega) (by show (v 11 4) < 2 ^ 31; first | assumption | omega)) (cwV 2 hts gX4_wouldBeHalf_X1_fillWouldTake rfl rfl rfl (by decide +kernel) ⟨Nat.le_of_ble_eq_true rfl, Nat.le_of_ble_eq_true rfl⟩) (o_v (o_pB hK hN (hP.sub (ws' := (wR (fun k => o (k + 18)) cI (fun k => v (k + 11)) ++ (wB (fun k => o (k + 6)) cI v ++ [oa cI (o 4) 5 (x 2)]))) [18, 19, 20, 7, 8, 9, 10, 11, 4] rfl) (hD.sub (ws' := (wR (fun k => o (k + 18)) cI (fun k => v (k + 11)) ++ (wB (fun k => o (k + 6)) cI v ++ [oa cI (o 4) 5 (x 2)]))) [18, 19, 20, 7, 8, 9, 10, 11, 4] (by decide) rfl)) (va_recv hK hP (ci := 1) (q0 := 18) rfl rfl)) rfl rfl hl.1 rfl (lv_room (Nat.le_of_ble_eq_true rfl)) dX4_wouldBeHalf_52 ⟨Nat.zero_le _, Nat.zero_le _⟩) hP hD hS hA [18, 19, 20, 7, 8, 9, 10, 11, 4] (by decide) rfl (fun _ => rfl) (fun _ H locs e_35 hP hD hS => ?_)
        have hP : va_P D vwCl (wO o cI cR cS (va_up x 2 (r_fill (fun k => v (k + 11)) v (x 2) 5)) v tl) H := hP
        have hD : va_D A (wO o cI cR cS (va_up x 2 (r_fill (fun k => v (k + 11)) v (x 2) 5)) v tl) := hD
        refine lv_aload_n hx hb dX4_wouldBeHalf_55 rfl (lv_at hl 0 rfl) ?_
        refine va_get (D := D) (ci := 4) (v := .ref (o 5)) (C := RX4) (T := TX4) (N := 6) hx hb hts inX4_wouldBeHalf_X4 hown hK hP 0 rfl rfl 0 (by decide) (hts (.fieldLink RX4 10 "OddNotice" "now" "LOddNotice$State;") (List.mem_of_getElem? (i := 3) (by decide +kernel))) (fun _ h9 => h9) rfl dX4_wouldBeHalf_56 ?_
        refine va_get (D := D) (ci := 2) (v := .ref (o 6)) (C := RX2) (T := TX2) (N := 4) hx hb hts inX4_wouldBeHalf_X2 hown hK hP 5 rfl rfl 0 (by decide) (hts (.fieldLink RX4 42 "OddNotice$State" "board" "LOddNotice$Board;") (List.mem_of_getElem? (i := 6) (by decide +kernel))) (fun _ h9 => h9) rfl dX4_wouldBeHalf_59 ?_
        refine lv_aload_n hx hb dX4_wouldBeHalf_62 rfl (lv_at hl 0 rfl) ?_
        refine va_get (D := D) (ci := 4) (v := .ref (o 4)) (C := RX4) (T := TX4) (N := 6) hx hb hts inX4_wouldBeHalf_X4 hown hK hP 0 rfl rfl 5 (by decide) (hts (.fieldLink RX4 27 "OddNotice" "wouldTake" "[I") (List.mem_of_getElem? (i := 5) (by decide +kernel))) (fun _ h9 => h9) rfl dX4_wouldBeHalf_63 ?_
        refine o_ri (va_runV (As := [.ref (o 4)]) (rest := []) ⟨hx, hb, hml, hown, hts⟩ (k_X0_latestSame l D cI cR cS cL (fun k => o (k + 6)) v (o 4) (r_fill (fun k => v (k + 11)) v (x 2) 5) (by show v 0 0 < 2 ^ 30; first | assumption | omega)) (cwV 1 hts gX4_wouldBeHalf_X0_latestSame rfl rfl rfl (by decide +kernel) ⟨Nat.le_of_ble_eq_true rfl, Nat.le_of_ble_eq_true rfl⟩) (o_v (o_pR hK hN (hP.sub (ws' := (wB (fun k => o (k + 6)) cI v ++ [oa cI (o 4) 5 (r_fill (fun k => v (k + 11)) v (x 2) 5)])) [7, 8, 9, 10, 11, 4] rfl)) (va_recv hK hP (ci := 0) (q0 := 7) rfl rfl)) rfl rfl hl.1 rfl (lv_room (Nat.le_of_ble_eq_true rfl)) dX4_wouldBeHalf_66 ⟨Nat.zero_le _, Nat.zero_le _⟩) (fun r_37 e_36 => ?_)
        have e_36 : r_37 = nI (b_ls (v 4) (r_fill (fun k => v (k + 11)) v (x 2) 5) (v 0 0 / 2) 16 0) := e_36
        subst e_36
        have gv_38 := (b_ls_lt (by omega) 16 0 : b_ls (v 4) (r_fill (fun k => v (k + 11)) v (x 2) 5) (v 0 0 / 2) 16 0 < 2 ^ 32)
        refine o_const (k := 4294967295) hx hb dX4_wouldBeHalf_69 (by decide) ?_
        refine o_icmp_ne (tgt := 77) hx hb dX4_wouldBeHalf_70 (by decide) (by omega) (Nat.le_of_ble_eq_true rfl) (fun c_39 => ?_) (fun c_39 => ?_)
        · skip
          refine o_const (k := 0) hx hb dX4_wouldBeHalf_77 (by decide) ?_
          have w_40 : (wO o cI cR cS (va_up x 2 (c_wtf v 2 (x 2))) v tl) = (wO o cI cR cS (va_up x 2 (r_fill (fun k => v (k + 11)) v (x 2) 5)) v tl) := (by rw [show c_wtf v 2 (x 2) = r_fill (fun j => v (j + 11)) v (x 2) 5 from if_pos (by omega)]; first | done | rfl)
          rw [← w_40] at hP
          exact W.iret (v := nI 0) hx hb hrt (fun t ht hW => ⟨⟨_, (), rfl, (congrArg nI (Eq.symm (show c_half v 2 = _ from Eq.trans (if_pos (by omega)) (if_neg (by rw [b_ls_fill] at c_39; exact c_39))))), by show va_P D vwCl _ t.heap; rw [ht]; exact hP⟩, hS.F ht⟩) hS.2.2 dX4_wouldBeHalf_78
        · skip
          refine o_const (k := 1) hx hb dX4_wouldBeHalf_73 (by decide) ?_
          refine lv_goto (tgt := 78) hx hb dX4_wouldBeHalf_74 (by decide) ?_
          have w_41 : (wO o cI cR cS (va_up x 2 (c_wtf v 2 (x 2))) v tl) = (wO o cI cR cS (va_up x 2 (r_fill (fun k => v (k + 11)) v (x 2) 5)) v tl) := (by rw [show c_wtf v 2 (x 2) = r_fill (fun j => v (j + 11)) v (x 2) 5 from if_pos (by omega)]; first | done | rfl)
          rw [← w_41] at hP
          exact W.iret (v := nI 1) hx hb hrt (fun t ht hW => ⟨⟨_, (), rfl, (congrArg nI (Eq.symm (show c_half v 2 = _ from Eq.trans (if_pos (by omega)) (if_pos (by rw [b_ls_fill] at c_39; exact c_39))))), by show va_P D vwCl _ t.heap; rw [ht]; exact hP⟩, hS.F ht⟩) hS.2.2 dX4_wouldBeHalf_78
      · skip
        refine o_const (k := 0) hx hb dX4_wouldBeHalf_30 (by decide) ?_
        have w_42 : (wO o cI cR cS (va_up x 2 (c_wtf v 2 (x 2))) v tl) = (wO o cI cR cS x v tl) := (by rw [show c_wtf v 2 (x 2) = x 2 from if_neg (by omega)]; first | done | rfl)
        rw [← w_42] at hP
        exact W.iret (v := nI 0) hx hb hrt (fun t ht hW => ⟨⟨_, (), rfl, (congrArg nI (Eq.symm (show c_half v 2 = _ from if_neg (by omega)))), by show va_P D vwCl _ t.heap; rw [ht]; exact hP⟩, hS.F ht⟩) hS.2.2 dX4_wouldBeHalf_31
    · skip
      exfalso
      omega
  · skip
    have hSc := hSI
    obtain ⟨⟨i1, i2, i3, hpl⟩, i5⟩ := hSI
    have i12 := i5 3 (by omega)
    unfold s_IR at i12
    simp only [Nat.reduceMul, Nat.reduceAdd] at i12
    have hor := s_out_or v 3
    refine lv_iload_n hx hb dX4_wouldBeHalf_0 rfl (lv_at hl 1 rfl) ?_
    refine o_const (k := 4) hx hb dX4_wouldBeHalf_1 (by decide) ?_
    refine o_ri (va_runS (As := [.int (nI 3), .int (nI 4)]) (rest := []) ⟨hx, hb, hml, hown, hts⟩ (k_X4_isBelow l D cI cR cS cL 3 4 (by show 3 < 2 ^ 32; first | assumption | omega) (by show 4 < 2 ^ 31; first | assumption | omega)) (va_cwS 2 hts gX4_wouldBeHalf_X4_isBelow rfl rfl rfl (by decide +kernel) ⟨Nat.le_of_ble_eq_true rfl, Nat.le_of_ble_eq_true rfl⟩) (o_pR hK hN (hP.sub (ws' := []) [] rfl)) rfl rfl hl.1 rfl (lv_room (Nat.le_of_ble_eq_true rfl)) dX4_wouldBeHalf_2 ⟨Nat.zero_le _, Nat.zero_le _⟩) (fun r_44 e_43 => ?_)
    have e_43 : r_44 = nI (bn (3 < 4)) := e_43
    subst e_43
    refine o_ifnz (tgt := 18) hx hb dX4_wouldBeHalf_5 (by decide) (fun c_45 => ?_) (fun c_45 => ?_)
    · skip
      refine lv_aload_n hx hb dX4_wouldBeHalf_18 rfl (lv_at hl 0 rfl) ?_
      refine va_get (D := D) (ci := 4) (v := .ref (o 5)) (C := RX4) (T := TX4) (N := 6) hx hb hts inX4_wouldBeHalf_X4 hown hK hP 0 rfl rfl 0 (by decide) (hts (.fieldLink RX4 10 "OddNotice" "now" "LOddNotice$State;") (List.mem_of_getElem? (i := 3) (by decide +kernel))) (fun _ h9 => h9) rfl dX4_wouldBeHalf_19 ?_
      refine lv_iload_n hx hb dX4_wouldBeHalf_22 rfl (lv_at hl 1 rfl) ?_
      refine o_ri (va_runV (As := [.int (nI 3)]) (rest := []) ⟨hx, hb, hml, hown, hts⟩ (k_X2_outcome l D cI cR cS cL (fun k => o (k + 5)) v b 3 (by show s_I b v; first | assumption | omega) (by show b < 2 ^ 28; first | assumption | omega) (by show 3 < 4; first | assumption | omega)) (cwV 1 hts gX4_wouldBeHalf_X2_outcome rfl rfl rfl (by decide +kernel) ⟨Nat.le_of_ble_eq_true rfl, Nat.le_of_ble_eq_true rfl⟩) (o_v (o_pR hK hN (hP.sub (ws' := (wS (fun k => o (k + 5)) cI cR v)) [5, 6, 7, 8, 9, 10, 11, 12, 13, 14, 15, 16, 17, 18, 19, 20, 21, 22, 23] rfl)) (va_recv hK hP (ci := 2) (q0 := 5) rfl rfl)) rfl rfl hl.1 rfl (lv_room (Nat.le_of_ble_eq_true rfl)) dX4_wouldBeHalf_23 ⟨Nat.zero_le _, Nat.zero_le _⟩) (fun r_47 e_46 => ?_)
      have e_46 : r_47 = nI (s_out v 3) := e_46
      subst e_46
      refine o_const (k := 1) hx hb dX4_wouldBeHalf_26 (by decide) ?_
      refine o_icmp_eq (tgt := 32) hx hb dX4_wouldBeHalf_27 (by decide) (by omega) (Nat.le_of_ble_eq_true rfl) (fun c_48 => ?_) (fun c_48 => ?_)
      · skip
        refine lv_aload_n hx hb dX4_wouldBeHalf_32 rfl (lv_at hl 0 rfl) ?_
        refine va_get (D := D) (ci := 4) (v := .ref (o 5)) (C := RX4) (T := TX4) (N := 6) hx hb hts inX4_wouldBeHalf_X4 hown hK hP 0 rfl rfl 0 (by decide) (hts (.fieldLink RX4 10 "OddNotice" "now" "LOddNotice$State;") (List.mem_of_getElem? (i := 3) (by decide +kernel))) (fun _ h9 => h9) rfl dX4_wouldBeHalf_33 ?_
        refine va_get (D := D) (ci := 2) (v := .ref (o 11)) (C := RX2) (T := TX2) (N := 4) hx hb hts inX4_wouldBeHalf_X2 hown hK hP 5 rfl rfl 1 (by decide) (hts (.fieldLink RX4 91 "OddNotice$State" "readers" "[LOddNotice$Reader;") (List.mem_of_getElem? (i := 4) (by decide +kernel))) (fun _ h9 => h9) rfl dX4_wouldBeHalf_36 ?_
        refine lv_iload_n hx hb dX4_wouldBeHalf_39 rfl (lv_at hl 1 rfl) ?_
        refine o_aldq (v := (o 21)) (C := "OddNotice$Reader") hx hb hK hP 6 1 rfl rfl (Nat.le_of_ble_eq_true rfl) (Nat.le_of_ble_eq_true rfl) rfl dX4_wouldBeHalf_40 ?_
        refine lv_aload_n hx hb dX4_wouldBeHalf_41 rfl (lv_at hl 0 rfl) ?_
        refine va_get (D := D) (ci := 4) (v := .ref (o 4)) (C := RX4) (T := TX4) (N := 6) hx hb hts inX4_wouldBeHalf_X4 hown hK hP 0 rfl rfl 5 (by decide) (hts (.fieldLink RX4 27 "OddNotice" "wouldTake" "[I") (List.mem_of_getElem? (i := 5) (by decide +kernel))) (fun _ h9 => h9) rfl dX4_wouldBeHalf_42 ?_
        refine lv_aload_n hx hb dX4_wouldBeHalf_45 rfl (lv_at hl 0 rfl) ?_
        refine va_get (D := D) (ci := 4) (v := .ref (o 5)) (C := RX4) (T := TX4) (N := 6) hx hb hts inX4_wouldBeHalf_X4 hown hK hP 0 rfl rfl 0 (by decide) (hts (.fieldLink RX4 10 "OddNotice" "now" "LOddNotice$State;") (List.mem_of_getElem? (i := 3) (by decide +kernel))) (fun _ h9 => h9) rfl dX4_wouldBeHalf_46 ?_
        refine va_get (D := D) (ci := 2) (v := .ref (o 6)) (C := RX2) (T := TX2) (N := 4) hx hb hts inX4_wouldBeHalf_X2 hown hK hP 5 rfl rfl 0 (by decide) (hts (.fieldLink RX4 42 "OddNotice$State" "board" "LOddNotice$Board;") (List.mem_of_getElem? (i := 6) (by decide +kernel))) (fun _ h9 => h9) rfl dX4_wouldBeHalf_49 ?_
        refine o_wv (va_runV (As := [.ref (o 4), .ref (o 6)]) (rest := []) ⟨hx, hb, hml, hown, hts⟩ (k_X1_fillWouldTake l D cI cR cS cL s.heap.size (fun k => o (k + 21)) (fun k => v (k + 14)) (fun k => o (k + 6)) v (o 4) (x 2) (by show (v 14 1) < 2 ^ 31; first | assumption | omega) (by show (v 14 4) < 2 ^ 31; first | assumption | omega)) (cwV 2 hts gX4_wouldBeHalf_X1_fillWouldTake rfl rfl rfl (by decide +kernel) ⟨Nat.le_of_ble_eq_true rfl, Nat.le_of_ble_eq_true rfl⟩) (o_v (o_pB hK hN (hP.sub (ws' := (wR (fun k => o (k + 21)) cI (fun k => v (k + 14)) ++ (wB (fun k => o (k + 6)) cI v ++ [oa cI (o 4) 5 (x 2)]))) [21, 22, 23, 7, 8, 9, 10, 11, 4] rfl) (hD.sub (ws' := (wR (fun k => o (k + 21)) cI (fun k => v (k + 14)) ++ (wB (fun k => o (k + 6)) cI v ++ [oa cI (o 4) 5 (x 2)]))) [21, 22, 23, 7, 8, 9, 10, 11, 4] (by decide) rfl)) (va_recv hK hP (ci := 1) (q0 := 21) rfl rfl)) rfl rfl hl.1 rfl (lv_room (Nat.le_of_ble_eq_true rfl)) dX4_wouldBeHalf_52 ⟨Nat.zero_le _, Nat.zero_le _⟩) hP hD hS hA [21, 22, 23, 7, 8, 9, 10, 11, 4] (by decide) rfl (fun _ => rfl) (fun _ H locs e_49 hP hD hS => ?_)
        have hP : va_P D vwCl (wO o cI cR cS (va_up x 2 (r_fill (fun k => v (k + 14)) v (x 2) 5)) v tl) H := hP
        have hD : va_D A (wO o cI cR cS (va_up x 2 (r_fill (fun k => v (k + 14)) v (x 2) 5)) v tl) := hD
        refine lv_aload_n hx hb dX4_wouldBeHalf_55 rfl (lv_at hl 0 rfl) ?_
        refine va_get (D := D) (ci := 4) (v := .ref (o 5)) (C := RX4) (T := TX4) (N := 6) hx hb hts inX4_wouldBeHalf_X4 hown hK hP 0 rfl rfl 0 (by decide) (hts (.fieldLink RX4 10 "OddNotice" "now" "LOddNotice$State;") (List.mem_of_getElem? (i := 3) (by decide +kernel))) (fun _ h9 => h9) rfl dX4_wouldBeHalf_56 ?_
        refine va_get (D := D) (ci := 2) (v := .ref (o 6)) (C := RX2) (T := TX2) (N := 4) hx hb hts inX4_wouldBeHalf_X2 hown hK hP 5 rfl rfl 0 (by decide) (hts (.fieldLink RX4 42 "OddNotice$State" "board" "LOddNotice$Board;") (List.mem_of_getElem? (i := 6) (by decide +kernel))) (fun _ h9 => h9) rfl dX4_wouldBeHalf_59 ?_
        refine lv_aload_n hx hb dX4_wouldBeHalf_62 rfl (lv_at hl 0 rfl) ?_
        refine va_get (D := D) (ci := 4) (v := .ref (o 4)) (C := RX4) (T := TX4) (N := 6) hx hb hts inX4_wouldBeHalf_X4 hown hK hP 0 rfl rfl 5 (by decide) (hts (.fieldLink RX4 27 "OddNotice" "wouldTake" "[I") (List.mem_of_getElem? (i := 5) (by decide +kernel))) (fun _ h9 => h9) rfl dX4_wouldBeHalf_63 ?_
        refine o_ri (va_runV (As := [.ref (o 4)]) (rest := []) ⟨hx, hb, hml, hown, hts⟩ (k_X0_latestSame l D cI cR cS cL (fun k => o (k + 6)) v (o 4) (r_fill (fun k => v (k + 14)) v (x 2) 5) (by show v 0 0 < 2 ^ 30; first | assumption | omega)) (cwV 1 hts gX4_wouldBeHalf_X0_latestSame rfl rfl rfl (by decide +kernel) ⟨Nat.le_of_ble_eq_true rfl, Nat.le_of_ble_eq_true rfl⟩) (o_v (o_pR hK hN (hP.sub (ws' := (wB (fun k => o (k + 6)) cI v ++ [oa cI (o 4) 5 (r_fill (fun k => v (k + 14)) v (x 2) 5)])) [7, 8, 9, 10, 11, 4] rfl)) (va_recv hK hP (ci := 0) (q0 := 7) rfl rfl)) rfl rfl hl.1 rfl (lv_room (Nat.le_of_ble_eq_true rfl)) dX4_wouldBeHalf_66 ⟨Nat.zero_le _, Nat.zero_le _⟩) (fun r_51 e_50 => ?_)
        have e_50 : r_51 = nI (b_ls (v 4) (r_fill (fun k => v (k + 14)) v (x 2) 5) (v 0 0 / 2) 16 0) := e_50
        subst e_50
        have gv_52 := (b_ls_lt (by omega) 16 0 : b_ls (v 4) (r_fill (fun k => v (k + 14)) v (x 2) 5) (v 0 0 / 2) 16 0 < 2 ^ 32)
        refine o_const (k := 4294967295) hx hb dX4_wouldBeHalf_69 (by decide) ?_
        refine o_icmp_ne (tgt := 77) hx hb dX4_wouldBeHalf_70 (by decide) (by omega) (Nat.le_of_ble_eq_true rfl) (fun c_53 => ?_) (fun c_53 => ?_)
        · skip
          refine o_const (k := 0) hx hb dX4_wouldBeHalf_77 (by decide) ?_
          have w_54 : (wO o cI cR cS (va_up x 2 (c_wtf v 3 (x 2))) v tl) = (wO o cI cR cS (va_up x 2 (r_fill (fun k => v (k + 14)) v (x 2) 5)) v tl) := (by rw [show c_wtf v 3 (x 2) = r_fill (fun j => v (j + 14)) v (x 2) 5 from if_pos (by omega)]; first | done | rfl)
          rw [← w_54] at hP
          exact W.iret (v := nI 0) hx hb hrt (fun t ht hW => ⟨⟨_, (), rfl, (congrArg nI (Eq.symm (show c_half v 3 = _ from Eq.trans (if_pos (by omega)) (if_neg (by rw [b_ls_fill] at c_53; exact c_53))))), by show va_P D vwCl _ t.heap; rw [ht]; exact hP⟩, hS.F ht⟩) hS.2.2 dX4_wouldBeHalf_78
        · skip
          refine o_const (k := 1) hx hb dX4_wouldBeHalf_73 (by decide) ?_
          refine lv_goto (tgt := 78) hx hb dX4_wouldBeHalf_74 (by decide) ?_
          have w_55 : (wO o cI cR cS (va_up x 2 (c_wtf v 3 (x 2))) v tl) = (wO o cI cR cS (va_up x 2 (r_fill (fun k => v (k + 14)) v (x 2) 5)) v tl) := (by rw [show c_wtf v 3 (x 2) = r_fill (fun j => v (j + 14)) v (x 2) 5 from if_pos (by omega)]; first | done | rfl)
          rw [← w_55] at hP
          exact W.iret (v := nI 1) hx hb hrt (fun t ht hW => ⟨⟨_, (), rfl, (congrArg nI (Eq.symm (show c_half v 3 = _ from Eq.trans (if_pos (by omega)) (if_pos (by rw [b_ls_fill] at c_53; exact c_53))))), by show va_P D vwCl _ t.heap; rw [ht]; exact hP⟩, hS.F ht⟩) hS.2.2 dX4_wouldBeHalf_78
      · skip
        refine o_const (k := 0) hx hb dX4_wouldBeHalf_30 (by decide) ?_
        have w_56 : (wO o cI cR cS (va_up x 2 (c_wtf v 3 (x 2))) v tl) = (wO o cI cR cS x v tl) := (by rw [show c_wtf v 3 (x 2) = x 2 from if_neg (by omega)]; first | done | rfl)
        rw [← w_56] at hP
        exact W.iret (v := nI 0) hx hb hrt (fun t ht hW => ⟨⟨_, (), rfl, (congrArg nI (Eq.symm (show c_half v 3 = _ from if_neg (by omega)))), by show va_P D vwCl _ t.heap; rw [ht]; exact hP⟩, hS.F ht⟩) hS.2.2 dX4_wouldBeHalf_31
    · skip
      exfalso
      omega
theorem inX4_hashCountsAndFields_X4 : ∀ w ∈ wsX40, w ∈ wsX4_hashCountsAndFields := by decide +kernel
theorem inX4_hashCountsAndFields_X2 : ∀ w ∈ wsX20, w ∈ wsX4_hashCountsAndFields := by decide +kernel
theorem inX4_hashCountsAndFields_X0 : ∀ w ∈ wsX00, w ∈ wsX4_hashCountsAndFields := by decide +kernel
set_option maxHeartbeats 4000000 in
set_option maxRecDepth 100000 in
theorem k_X4_hashCountsAndFields (l : Launch) (D : va_G) (cI cR cS cL : ClassId) (o : Nat → Nat) (x : Nat → Nat → Nat) (v : Nat → Nat → Nat) (tl : va_W) (b : Nat) (h : Int64) (hSI : s_I b v) (hb : b < 2 ^ 28) : Met l yX4_hashCountsAndFields wsX4_hashCountsAndFields ({ frames := 3, cells := 0, slots := 0, locals := 64 }) (va_Pc [.ref (o 0), .long h] (o_R D (o_T cI cR cS cL) (wO o cI cR cS x v tl))) (vp_Sl (fun rz => rz = (c_h1 v (x 0 4) h))) 0 0 (fun _ => False) := by
  refine Met.ofW (cc := cX4_hashCountsAndFields) (maxL := 6) (ret := (some .long)) (by decide) rfl ?_
  intro p e s m args below meth cd s₁ B hml hv
  obtain ⟨rfl, hP, hK, hN⟩ := hv
  have hx := B.exec
  have hb := B.bytes
  have hrt := B.returns
  have hts := atoms_spec (ws := wsX4_hashCountsAndFields) B.pre
  have hown : s.vm.findClass RX4 = some m.cls := findClass_of_methodNamed B.named
  have hlocks := B.notSynchronized
  have hl := lv_entry ([.ref (o 0), .long h]) (n := 6) (Nat.le_of_ble_eq_true rfl)
  rw [lg_entry_eq]
  generalize (lg_sl ([.ref (o 0), .long h]) ++ List.replicate (6 - (lg_sl ([.ref (o 0), .long h])).length) Slot.unset).toArray = ls at hl ⊢
  have hl : lv_has ls 6 [(0, .ref (o 0)), (1, .long h)] := hl
  refine lv_lload_n hx hb dX4_hashCountsAndFields_0 rfl (lv_at hl 1 rfl) ?_
  refine lv_lstore_n (lv' := [(3, .long h), (0, .ref (o 0)), (1, .long h)]) hx hb dX4_hashCountsAndFields_1 rfl hl (by decide) rfl (fun ls hl => ?_)
  refine o_const (k := 0) hx hb dX4_hashCountsAndFields_2 (by decide) ?_
  refine lv_istore (lv' := [(5, .int (nI 0)), (3, .long h), (0, .ref (o 0)), (1, .long h)]) hx hb dX4_hashCountsAndFields_3 hl (by decide) rfl (fun ls hl => ?_)
  have lp_1 : ∀ (fu : Nat) (j1 : Nat), j1 ≤ 9 → 9 - j1 < fu → ∀ (ls : Array Slot) (hl : lv_has ls 6 [(5, .int (nI j1)), (3, .long (o_fold (c_cnt v (x 0 4)) h j1)), (0, .ref (o 0)), (1, .long h)]), W p l e (headSpec wsX4_hashCountsAndFields ({ frames := 3, cells := 0, slots := 0, locals := 64 })).room s m ([.ref (o 0), .long h] : List Value).toArray below meth cd s.heap [] 0 0 (MQ below (vp_Sl (fun rz => rz = (c_h1 v (x 0 4) h))) ([.ref (o 0), .long h] : List Value).toArray s 0 0 (fun _ => False)) (F0 m 5 ls []) := by
    intro fu
    induction fu with
    | zero => intro j1 hj1 hm; exact absurd hm (Nat.not_lt_zero _)
    | succ fu ih_1 =>
      intro j1 hj1 hm_1 ls hl
      refine lv_iload hx hb dX4_hashCountsAndFields_5 (lv_at hl 0 rfl) ?_
      refine o_bipush (k := 9) hx hb dX4_hashCountsAndFields_7 (by decide) ?_
      refine o_icmp_ge (tgt := 30) hx hb dX4_hashCountsAndFields_9 (by decide) (by omega) (Nat.le_of_ble_eq_true rfl) (fun c_1 => ?_) (fun c_1 => ?_)
      · skip
        refine o_const (k := 0) hx hb dX4_hashCountsAndFields_30 (by decide) ?_
        refine lv_istore (lv' := [(5, .int (nI 0)), (3, .long (o_fold (c_cnt v (x 0 4)) h j1)), (0, .ref (o 0)), (1, .long h)]) hx hb dX4_hashCountsAndFields_31 hl (by decide) rfl (fun ls hl => ?_)
        have lp_2 : ∀ (fu : Nat) (j2 : Nat), j2 ≤ 5 → 5 - j2 < fu → ∀ (ls : Array Slot) (hl : lv_has ls 6 [(5, .int (nI j2)), (3, .long (o_fold (v 1) (o_fold (c_cnt v (x 0 4)) h j1) j2)), (0, .ref (o 0)), (1, .long h)]), W p l e (headSpec wsX4_hashCountsAndFields ({ frames := 3, cells := 0, slots := 0, locals := 64 })).room s m ([.ref (o 0), .long h] : List Value).toArray below meth cd s.heap [] 0 0 (MQ below (vp_Sl (fun rz => rz = (c_h1 v (x 0 4) h))) ([.ref (o 0), .long h] : List Value).toArray s 0 0 (fun _ => False)) (F0 m 33 ls []) := by
          intro fu
          induction fu with
          | zero => intro j2 hj2 hm; exact absurd hm (Nat.not_lt_zero _)
          | succ fu ih_2 =>
            intro j2 hj2 hm_2 ls hl
            refine lv_iload hx hb dX4_hashCountsAndFields_33 (lv_at hl 0 rfl) ?_
            refine o_const (k := 5) hx hb dX4_hashCountsAndFields_35 (by decide) ?_
            refine o_icmp_ge (tgt := 64) hx hb dX4_hashCountsAndFields_36 (by decide) (by omega) (Nat.le_of_ble_eq_true rfl) (fun c_2 => ?_) (fun c_2 => ?_)
            · skip
              refine lv_lload_n hx hb dX4_hashCountsAndFields_64 rfl (lv_at hl 1 rfl) ?_
              exact W.lret (v := (o_fold (v 1) (o_fold (c_cnt v (x 0 4)) h j1) j2)) hx hb hrt (fun t ht hW => ⟨_, rfl, (by unfold c_h1; rw [show j1 = 9 by omega, show j2 = 5 by omega]), ht⟩) (fun _ h => nomatch h) dX4_hashCountsAndFields_65
            · skip
              refine lv_lload_n hx hb dX4_hashCountsAndFields_39 rfl (lv_at hl 1 rfl) ?_
              refine lv_aload_n hx hb dX4_hashCountsAndFields_40 rfl (lv_at hl 2 rfl) ?_
              refine va_get (D := D) (ci := 4) (v := .ref (o 5)) (C := RX4) (T := TX4) (N := 6) hx hb hts inX4_hashCountsAndFields_X4 hown hK hP 0 rfl rfl 0 (by decide) (hts (.fieldLink RX4 10 "OddNotice" "now" "LOddNotice$State;") (List.mem_of_getElem? (i := 1) (by decide +kernel))) (fun _ h9 => h9) rfl dX4_hashCountsAndFields_41 ?_
              refine va_get (D := D) (ci := 2) (v := .ref (o 6)) (C := RX2) (T := TX2) (N := 4) hx hb hts inX4_hashCountsAndFields_X2 hown hK hP 5 rfl rfl 0 (by decide) (hts (.fieldLink RX4 42 "OddNotice$State" "board" "LOddNotice$Board;") (List.mem_of_getElem? (i := 2) (by decide +kernel))) (fun _ h9 => h9) rfl dX4_hashCountsAndFields_44 ?_
              refine va_get (D := D) (ci := 0) (v := .ref (o 7)) (C := RX0) (T := TX0) (N := 5) hx hb hts inX4_hashCountsAndFields_X0 hown hK hP 7 rfl rfl 1 (by decide) (hts (.fieldLink RX4 164 "OddNotice$Board" "fields" "[I") (List.mem_of_getElem? (i := 3) (by decide +kernel))) (fun _ h9 => h9) rfl dX4_hashCountsAndFields_47 ?_
              refine lv_iload hx hb dX4_hashCountsAndFields_50 (lv_at hl 0 rfl) ?_
              refine o_iald (v := nI (v 1 j2)) hx hb hK hP 8 0 rfl rfl (by omega) (Nat.le_of_ble_eq_true rfl) rfl dX4_hashCountsAndFields_52 ?_
              refine lv_i2l (v := (nI (v 1 j2)).toInt64) hx hb dX4_hashCountsAndFields_53 rfl ?_
              refine o_rl (va_runS (As := [.long (o_fold (v 1) (o_fold (c_cnt v (x 0 4)) h j1) j2), .long ((nI (v 1 j2)).toInt64)]) (rest := []) ⟨hx, hb, hml, hown, hts⟩ (k_X4_mix l D cI cR cS cL (o_fold (v 1) (o_fold (c_cnt v (x 0 4)) h j1) j2) ((nI (v 1 j2)).toInt64) ) (va_cwS 2 hts gX4_hashCountsAndFields_X4_mix rfl rfl rfl (by decide +kernel) ⟨Nat.le_of_ble_eq_true rfl, Nat.le_of_ble_eq_true rfl⟩) (o_pR hK hN (hP.sub (ws' := []) [] rfl)) rfl rfl hl.1 rfl (lv_room (Nat.le_of_ble_eq_true rfl)) dX4_hashCountsAndFields_54 ⟨Nat.zero_le _, Nat.zero_le _⟩) (fun r_4 e_3 => ?_)
              have e_3 : r_4 = ((31) * (o_fold (v 1) (o_fold (c_cnt v (x 0 4)) h j1) j2) + ((nI (v 1 j2)).toInt64)) := e_3
              subst e_3
              refine lv_lstore_n (lv' := [(3, .long ((31) * (o_fold (v 1) (o_fold (c_cnt v (x 0 4)) h j1) j2) + ((nI (v 1 j2)).toInt64))), (5, .int (nI j2)), (0, .ref (o 0)), (1, .long h)]) hx hb dX4_hashCountsAndFields_57 rfl hl (by decide) rfl (fun ls hl => ?_)
              refine lv_iinc (v := nI (j2 + 1)) (lv' := [(5, .int (nI (j2 + 1))), (3, .long ((31) * (o_fold (v 1) (o_fold (c_cnt v (x 0 4)) h j1) j2) + ((nI (v 1 j2)).toInt64))), (0, .ref (o 0)), (1, .long h)]) hx hb dX4_hashCountsAndFields_58 hl (k := 1) rfl (o_inc1 _) (by decide) rfl (fun ls hl => ?_)
              refine lv_goto (tgt := 33) hx hb dX4_hashCountsAndFields_61 (by decide) ?_
              have q_5 : (((31) * (o_fold (v 1) (o_fold (c_cnt v (x 0 4)) h j1) j2) + ((nI (v 1 j2)).toInt64)) : Int64) = (o_fold (v 1) (o_fold (c_cnt v (x 0 4)) h j1) (j2 + 1)) := by rfl
              have hl := o_lvset hl 1 rfl (congrArg Value.long q_5)
              exact ih_2  (j2 + 1) (by omega) (by omega) ls (lv_sub hl [0, 1, 2, 3] rfl)
        have q_6 : ((o_fold (c_cnt v (x 0 4)) h j1) : Int64) = (o_fold (v 1) (o_fold (c_cnt v (x 0 4)) h j1) 0) := by rfl
        have hl := o_lvset hl 1 rfl (congrArg Value.long q_6)
        exact lp_2 _ 0 (Nat.zero_le _) (Nat.lt_succ_self _) ls (lv_sub hl [0, 1, 2, 3] rfl)
      · skip
        refine lv_lload_n hx hb dX4_hashCountsAndFields_12 rfl (lv_at hl 1 rfl) ?_
        refine lv_aload_n hx hb dX4_hashCountsAndFields_13 rfl (lv_at hl 2 rfl) ?_
        refine lv_iload hx hb dX4_hashCountsAndFields_14 (lv_at hl 0 rfl) ?_
        refine o_ri (va_runV (As := [.int (nI j1)]) (rest := [.long (o_fold (c_cnt v (x 0 4)) h j1)]) ⟨hx, hb, hml, hown, hts⟩ (k_X4_count l D cI cR cS cL o x v tl b j1 (by show s_I b v; first | assumption | omega) (by show b < 2 ^ 28; first | assumption | omega) (by show j1 < 9; first | assumption | omega)) (cwV 1 hts gX4_hashCountsAndFields_X4_count rfl rfl rfl (by decide +kernel) ⟨Nat.le_of_ble_eq_true rfl, Nat.le_of_ble_eq_true rfl⟩) (o_v (o_pR hK hN hP) (va_recv hK hP (ci := 4) (q0 := 0) rfl rfl)) rfl rfl hl.1 rfl (lv_room (Nat.le_of_ble_eq_true rfl)) dX4_hashCountsAndFields_16 ⟨Nat.zero_le _, Nat.zero_le _⟩) (fun r_8 e_7 => ?_)
        have e_7 : r_8 = nI (c_cnt v (x 0 4) j1) := e_7
        subst e_7
        refine lv_i2l (v := (nI (c_cnt v (x 0 4) j1)).toInt64) hx hb dX4_hashCountsAndFields_19 rfl ?_
        refine o_rl (va_runS (As := [.long (o_fold (c_cnt v (x 0 4)) h j1), .long ((nI (c_cnt v (x 0 4) j1)).toInt64)]) (rest := []) ⟨hx, hb, hml, hown, hts⟩ (k_X4_mix l D cI cR cS cL (o_fold (c_cnt v (x 0 4)) h j1) ((nI (c_cnt v (x 0 4) j1)).toInt64) ) (va_cwS 2 hts gX4_hashCountsAndFields_X4_mix rfl rfl rfl (by decide +kernel) ⟨Nat.le_of_ble_eq_true rfl, Nat.le_of_ble_eq_true rfl⟩) (o_pR hK hN (hP.sub (ws' := []) [] rfl)) rfl rfl hl.1 rfl (lv_room (Nat.le_of_ble_eq_true rfl)) dX4_hashCountsAndFields_20 ⟨Nat.zero_le _, Nat.zero_le _⟩) (fun r_10 e_9 => ?_)
        have e_9 : r_10 = ((31) * (o_fold (c_cnt v (x 0 4)) h j1) + ((nI (c_cnt v (x 0 4) j1)).toInt64)) := e_9
        subst e_9
        refine lv_lstore_n (lv' := [(3, .long ((31) * (o_fold (c_cnt v (x 0 4)) h j1) + ((nI (c_cnt v (x 0 4) j1)).toInt64))), (5, .int (nI j1)), (0, .ref (o 0)), (1, .long h)]) hx hb dX4_hashCountsAndFields_23 rfl hl (by decide) rfl (fun ls hl => ?_)
        refine lv_iinc (v := nI (j1 + 1)) (lv' := [(5, .int (nI (j1 + 1))), (3, .long ((31) * (o_fold (c_cnt v (x 0 4)) h j1) + ((nI (c_cnt v (x 0 4) j1)).toInt64))), (0, .ref (o 0)), (1, .long h)]) hx hb dX4_hashCountsAndFields_24 hl (k := 1) rfl (o_inc1 _) (by decide) rfl (fun ls hl => ?_)
        refine lv_goto (tgt := 5) hx hb dX4_hashCountsAndFields_27 (by decide) ?_
        have q_11 : (((31) * (o_fold (c_cnt v (x 0 4)) h j1) + ((nI (c_cnt v (x 0 4) j1)).toInt64)) : Int64) = (o_fold (c_cnt v (x 0 4)) h (j1 + 1)) := by rfl
        have hl := o_lvset hl 1 rfl (congrArg Value.long q_11)
        exact ih_1  (j1 + 1) (by omega) (by omega) ls (lv_sub hl [0, 1, 2, 3] rfl)
  have q_12 : (h : Int64) = (o_fold (c_cnt v (x 0 4)) h 0) := by rfl
  have hl := o_lvset hl 1 rfl (congrArg Value.long q_12)
  exact lp_1 _ 0 (Nat.zero_le _) (Nat.lt_succ_self _) ls (lv_sub hl [0, 1, 2, 3] rfl)
set_option maxHeartbeats 4000000 in
set_option maxRecDepth 100000 in
theorem k_X4_hashClerks (l : Launch) (D : va_G) (cI cR cS cL : ClassId) (o : Nat → Nat) (x : Nat → Nat → Nat) (v : Nat → Nat → Nat) (tl : va_W) (b : Nat) (h : Int64) (hSI : s_I b v) (hb : b < 2 ^ 28) : Met l yX4_hashClerks wsX4_hashClerks ({ frames := 3, cells := 0, slots := 0, locals := 64 }) (va_Pc [.ref (o 0), .long h] (o_R D (o_T cI cR cS cL) (wO o cI cR cS x v tl))) (vp_Sl (fun rz => rz = (c_h2 v h))) 0 0 (fun _ => False) := by
  refine Met.ofW (cc := cX4_hashClerks) (maxL := 7) (ret := (some .long)) (by decide) rfl ?_
  intro p e s m args below meth cd s₁ B hml hv
  obtain ⟨rfl, hP, hK, hN⟩ := hv
  have hx := B.exec
  have hb := B.bytes
  have hrt := B.returns
  have hts := atoms_spec (ws := wsX4_hashClerks) B.pre
  have hown : s.vm.findClass RX4 = some m.cls := findClass_of_methodNamed B.named
  have hlocks := B.notSynchronized
  have hl := lv_entry ([.ref (o 0), .long h]) (n := 7) (Nat.le_of_ble_eq_true rfl)
  rw [lg_entry_eq]
  generalize (lg_sl ([.ref (o 0), .long h]) ++ List.replicate (7 - (lg_sl ([.ref (o 0), .long h])).length) Slot.unset).toArray = ls at hl ⊢
  have hl : lv_has ls 7 [(0, .ref (o 0)), (1, .long h)] := hl
  refine lv_lload_n hx hb dX4_hashClerks_0 rfl (lv_at hl 1 rfl) ?_
  refine lv_lstore_n (lv' := [(3, .long h), (0, .ref (o 0)), (1, .long h)]) hx hb dX4_hashClerks_1 rfl hl (by decide) rfl (fun ls hl => ?_)
  refine o_const (k := 0) hx hb dX4_hashClerks_2 (by decide) ?_
  refine lv_istore (lv' := [(5, .int (nI 0)), (3, .long h), (0, .ref (o 0)), (1, .long h)]) hx hb dX4_hashClerks_3 hl (by decide) rfl (fun ls hl => ?_)
  have lp_1 : ∀ (fu : Nat) (j1 : Nat), j1 ≤ 3 → 3 - j1 < fu → ∀ (ls : Array Slot) (hl : lv_has ls 7 [(5, .int (nI j1)), (3, .long (o_folh (fun c h => o_fold (c_clk v c) h 3) h j1)), (0, .ref (o 0)), (1, .long h)]), W p l e (headSpec wsX4_hashClerks ({ frames := 3, cells := 0, slots := 0, locals := 64 })).room s m ([.ref (o 0), .long h] : List Value).toArray below meth cd s.heap [] 0 0 (MQ below (vp_Sl (fun rz => rz = (c_h2 v h))) ([.ref (o 0), .long h] : List Value).toArray s 0 0 (fun _ => False)) (F0 m 5 ls []) := by
    intro fu
    induction fu with
    | zero => intro j1 hj1 hm; exact absurd hm (Nat.not_lt_zero _)
    | succ fu ih_1 =>
      intro j1 hj1 hm_1 ls hl
      refine lv_iload hx hb dX4_hashClerks_5 (lv_at hl 0 rfl) ?_
      refine o_const (k := 3) hx hb dX4_hashClerks_7 (by decide) ?_
      refine o_icmp_ge (tgt := 46) hx hb dX4_hashClerks_8 (by decide) (by omega) (Nat.le_of_ble_eq_true rfl) (fun c_1 => ?_) (fun c_1 => ?_)
      · skip
        refine lv_lload_n hx hb dX4_hashClerks_46 rfl (lv_at hl 1 rfl) ?_
        exact W.lret (v := (o_folh (fun c h => o_fold (c_clk v c) h 3) h j1)) hx hb hrt (fun t ht hW => ⟨_, rfl, (by unfold c_h2; rw [show j1 = 3 by omega]), ht⟩) (fun _ h => nomatch h) dX4_hashClerks_47
      · skip
        refine o_const (k := 0) hx hb dX4_hashClerks_11 (by decide) ?_
        refine lv_istore (lv' := [(6, .int (nI 0)), (5, .int (nI j1)), (3, .long (o_folh (fun c h => o_fold (c_clk v c) h 3) h j1)), (0, .ref (o 0)), (1, .long h)]) hx hb dX4_hashClerks_12 hl (by decide) rfl (fun ls hl => ?_)
        have lp_2 : ∀ (fu : Nat) (j2 : Nat), j2 ≤ 3 → 3 - j2 < fu → ∀ (ls : Array Slot) (hl : lv_has ls 7 [(6, .int (nI j2)), (5, .int (nI j1)), (3, .long (o_fold (c_clk v j1) (o_folh (fun c h => o_fold (c_clk v c) h 3) h j1) j2)), (0, .ref (o 0)), (1, .long h)]), W p l e (headSpec wsX4_hashClerks ({ frames := 3, cells := 0, slots := 0, locals := 64 })).room s m ([.ref (o 0), .long h] : List Value).toArray below meth cd s.heap [] 0 0 (MQ below (vp_Sl (fun rz => rz = (c_h2 v h))) ([.ref (o 0), .long h] : List Value).toArray s 0 0 (fun _ => False)) (F0 m 14 ls []) := by
          intro fu
          induction fu with
          | zero => intro j2 hj2 hm; exact absurd hm (Nat.not_lt_zero _)
          | succ fu ih_2 =>
            intro j2 hj2 hm_2 ls hl
            refine lv_iload hx hb dX4_hashClerks_14 (lv_at hl 0 rfl) ?_
            refine o_const (k := 3) hx hb dX4_hashClerks_16 (by decide) ?_
            refine o_icmp_ge (tgt := 40) hx hb dX4_hashClerks_17 (by decide) (by omega) (Nat.le_of_ble_eq_true rfl) (fun c_2 => ?_) (fun c_2 => ?_)
            · skip
              refine lv_iinc (v := nI (j1 + 1)) (lv' := [(5, .int (nI (j1 + 1))), (6, .int (nI j2)), (3, .long (o_fold (c_clk v j1) (o_folh (fun c h => o_fold (c_clk v c) h 3) h j1) j2)), (0, .ref (o 0)), (1, .long h)]) hx hb dX4_hashClerks_40 hl (k := 1) rfl (o_inc1 _) (by decide) rfl (fun ls hl => ?_)
              refine lv_goto (tgt := 5) hx hb dX4_hashClerks_43 (by decide) ?_
              have q_3 : ((o_fold (c_clk v j1) (o_folh (fun c h => o_fold (c_clk v c) h 3) h j1) j2) : Int64) = (o_folh (fun c h => o_fold (c_clk v c) h 3) h (j1 + 1)) := by exact (show _ = o_fold (c_clk v j1) (o_folh (fun c h => o_fold (c_clk v c) h 3) h j1) 3 from by rw [show j2 = 3 by omega])
              have hl := o_lvset hl 2 rfl (congrArg Value.long q_3)
              exact ih_1  (j1 + 1) (by omega) (by omega) ls (lv_sub hl [0, 2, 3, 4] rfl)
            · skip
              refine lv_lload_n hx hb dX4_hashClerks_20 rfl (lv_at hl 2 rfl) ?_
              refine lv_aload_n hx hb dX4_hashClerks_21 rfl (lv_at hl 3 rfl) ?_
              refine lv_iload hx hb dX4_hashClerks_22 (lv_at hl 1 rfl) ?_
              refine lv_iload hx hb dX4_hashClerks_24 (lv_at hl 0 rfl) ?_
              refine o_ri (va_runV (As := [.int (nI j1), .int (nI j2)]) (rest := [.long (o_fold (c_clk v j1) (o_folh (fun c h => o_fold (c_clk v c) h 3) h j1) j2)]) ⟨hx, hb, hml, hown, hts⟩ (k_X4_clerk l D cI cR cS cL o x v tl b j1 j2 (by show s_I b v; first | assumption | omega) (by show b < 2 ^ 28; first | assumption | omega) (by show j1 < 3; first | assumption | omega) (by show j2 < 3; first | assumption | omega)) (cwV 2 hts gX4_hashClerks_X4_clerk rfl rfl rfl (by decide +kernel) ⟨Nat.le_of_ble_eq_true rfl, Nat.le_of_ble_eq_true rfl⟩) (o_v (o_pR hK hN hP) (va_recv hK hP (ci := 4) (q0 := 0) rfl rfl)) rfl rfl hl.1 rfl (lv_room (Nat.le_of_ble_eq_true rfl)) dX4_hashClerks_26 ⟨Nat.zero_le _, Nat.zero_le _⟩) (fun r_5 e_4 => ?_)
              have e_4 : r_5 = nI (c_clk v j1 j2) := e_4
              subst e_4
              refine lv_i2l (v := (nI (c_clk v j1 j2)).toInt64) hx hb dX4_hashClerks_29 rfl ?_
              refine o_rl (va_runS (As := [.long (o_fold (c_clk v j1) (o_folh (fun c h => o_fold (c_clk v c) h 3) h j1) j2), .long ((nI (c_clk v j1 j2)).toInt64)]) (rest := []) ⟨hx, hb, hml, hown, hts⟩ (k_X4_mix l D cI cR cS cL (o_fold (c_clk v j1) (o_folh (fun c h => o_fold (c_clk v c) h 3) h j1) j2) ((nI (c_clk v j1 j2)).toInt64) ) (va_cwS 2 hts gX4_hashClerks_X4_mix rfl rfl rfl (by decide +kernel) ⟨Nat.le_of_ble_eq_true rfl, Nat.le_of_ble_eq_true rfl⟩) (o_pR hK hN (hP.sub (ws' := []) [] rfl)) rfl rfl hl.1 rfl (lv_room (Nat.le_of_ble_eq_true rfl)) dX4_hashClerks_30 ⟨Nat.zero_le _, Nat.zero_le _⟩) (fun r_7 e_6 => ?_)
              have e_6 : r_7 = ((31) * (o_fold (c_clk v j1) (o_folh (fun c h => o_fold (c_clk v c) h 3) h j1) j2) + ((nI (c_clk v j1 j2)).toInt64)) := e_6
              subst e_6
              refine lv_lstore_n (lv' := [(3, .long ((31) * (o_fold (c_clk v j1) (o_folh (fun c h => o_fold (c_clk v c) h 3) h j1) j2) + ((nI (c_clk v j1 j2)).toInt64))), (6, .int (nI j2)), (5, .int (nI j1)), (0, .ref (o 0)), (1, .long h)]) hx hb dX4_hashClerks_33 rfl hl (by decide) rfl (fun ls hl => ?_)
              refine lv_iinc (v := nI (j2 + 1)) (lv' := [(6, .int (nI (j2 + 1))), (3, .long ((31) * (o_fold (c_clk v j1) (o_folh (fun c h => o_fold (c_clk v c) h 3) h j1) j2) + ((nI (c_clk v j1 j2)).toInt64))), (5, .int (nI j1)), (0, .ref (o 0)), (1, .long h)]) hx hb dX4_hashClerks_34 hl (k := 1) rfl (o_inc1 _) (by decide) rfl (fun ls hl => ?_)
              refine lv_goto (tgt := 14) hx hb dX4_hashClerks_37 (by decide) ?_
              have q_8 : (((31) * (o_fold (c_clk v j1) (o_folh (fun c h => o_fold (c_clk v c) h 3) h j1) j2) + ((nI (c_clk v j1 j2)).toInt64)) : Int64) = (o_fold (c_clk v j1) (o_folh (fun c h => o_fold (c_clk v c) h 3) h j1) (j2 + 1)) := by rfl
              have hl := o_lvset hl 1 rfl (congrArg Value.long q_8)
              exact ih_2  (j2 + 1) (by omega) (by omega) ls (lv_sub hl [0, 2, 1, 3, 4] rfl)
        have q_9 : ((o_folh (fun c h => o_fold (c_clk v c) h 3) h j1) : Int64) = (o_fold (c_clk v j1) (o_folh (fun c h => o_fold (c_clk v c) h 3) h j1) 0) := by rfl
        have hl := o_lvset hl 2 rfl (congrArg Value.long q_9)
        exact lp_2 _ 0 (Nat.zero_le _) (Nat.lt_succ_self _) ls (lv_sub hl [0, 1, 2, 3, 4] rfl)
  have q_10 : (h : Int64) = (o_folh (fun c h => o_fold (c_clk v c) h 3) h 0) := by rfl
  have hl := o_lvset hl 1 rfl (congrArg Value.long q_10)
  exact lp_1 _ 0 (Nat.zero_le _) (Nat.lt_succ_self _) ls (lv_sub hl [0, 1, 2, 3] rfl)
set_option maxHeartbeats 4000000 in
set_option maxRecDepth 100000 in
theorem k_X4_hashReader (l : Launch) (D : va_G) (cI cR cS cL : ClassId) (sz : Nat) (o : Nat → Nat) (x : Nat → Nat → Nat) (v : Nat → Nat → Nat) (tl : va_W) (b : Nat) (h : Int64) (r : Nat) (hSI : s_I b v) (hb : b < 2 ^ 28) (hr : r < 4) : Met l yX4_hashReader wsX4_hashReader ({ frames := 4, cells := 0, slots := 0, locals := 88 }) (va_Pc [.ref (o 0), .long h, .int (nI r)] (o_B D (o_T cI cR cS cL) (wO o cI cR cS x v tl) sz)) (va_Ql (fun rz (_ : Unit) => rz = (c_h3 v r h)) (fun (_ : Unit) t => va_P D vwCl (wO o cI cR cS (va_up x 2 (c_wtf v r (x 2))) v tl) t.heap) (va_A (wO o cI cR cS x v tl) sz)) 0 0 (va_A (wO o cI cR cS x v tl) sz) := by
  refine Met.ofW (cc := cX4_hashReader) (maxL := 7) (ret := (some .long)) (by decide) rfl ?_
  intro p e s m args below meth cd s₁ B hml hv
  obtain ⟨rfl, hsz, hP, hK, hD0, hN⟩ := hv
  have hx := B.exec
  have hb := B.bytes
  have hrt := B.returns
  have hts := atoms_spec (ws := wsX4_hashReader) B.pre
  have hown : s.vm.findClass RX4 = some m.cls := findClass_of_methodNamed B.named
  have hlocks := B.notSynchronized
  subst hsz
  have hD := hD0.self (sz := s.heap.size)
  generalize hAe : va_A (wO o cI cR cS x v tl) s.heap.size = A at hD ⊢
  have hA : ∀ q : Nat, s.heap.size ≤ q → A q := fun q h => by rw [← hAe]; exact Or.inr h
  have hS : va_S A s.heap s.heap [] := va_S.rf
  have hl := lv_entry ([.ref (o 0), .long h, .int (nI r)]) (n := 7) (Nat.le_of_ble_eq_true rfl)
  rw [lg_entry_eq]
  generalize (lg_sl ([.ref (o 0), .long h, .int (nI r)]) ++ List.replicate (7 - (lg_sl ([.ref (o 0), .long h, .int (nI r)])).length) Slot.unset).toArray = ls at hl ⊢
  have hl : lv_has ls 7 [(0, .ref (o 0)), (1, .long h), (3, .int (nI r))] := hl
  refine lv_lload_n hx hb dX4_hashReader_0 rfl (lv_at hl 1 rfl) ?_
  refine lv_lstore (lv' := [(4, .long h), (0, .ref (o 0)), (1, .long h), (3, .int (nI r))]) hx hb dX4_hashReader_1 hl (by decide) rfl (fun ls hl => ?_)
  refine o_const (k := 0) hx hb dX4_hashReader_3 (by decide) ?_
  refine lv_istore (lv' := [(6, .int (nI 0)), (4, .long h), (0, .ref (o 0)), (1, .long h), (3, .int (nI r))]) hx hb dX4_hashReader_4 hl (by decide) rfl (fun ls hl => ?_)
  have lp_1 : ∀ (fu : Nat) (j1 : Nat), j1 ≤ 8 → 8 - j1 < fu → ∀ (ls : Array Slot) (hl : lv_has ls 7 [(6, .int (nI j1)), (4, .long (o_fold (c_rdr v r) h j1)), (0, .ref (o 0)), (1, .long h), (3, .int (nI r))]), W p l e (headSpec wsX4_hashReader ({ frames := 4, cells := 0, slots := 0, locals := 88 })).room s m ([.ref (o 0), .long h, .int (nI r)] : List Value).toArray below meth cd s.heap [] 0 0 (MQ below (va_Ql (fun rz (_ : Unit) => rz = (c_h3 v r h)) (fun (_ : Unit) t => va_P D vwCl (wO o cI cR cS (va_up x 2 (c_wtf v r (x 2))) v tl) t.heap) A) ([.ref (o 0), .long h, .int (nI r)] : List Value).toArray s 0 0 A) (F0 m 6 ls []) := by
    intro fu
    induction fu with
    | zero => intro j1 hj1 hm; exact absurd hm (Nat.not_lt_zero _)
    | succ fu ih_1 =>
      intro j1 hj1 hm_1 ls hl
      refine lv_iload hx hb dX4_hashReader_6 (lv_at hl 0 rfl) ?_
      refine o_bipush (k := 8) hx hb dX4_hashReader_8 (by decide) ?_
      refine o_icmp_ge (tgt := 34) hx hb dX4_hashReader_10 (by decide) (by omega) (Nat.le_of_ble_eq_true rfl) (fun c_1 => ?_) (fun c_1 => ?_)
      · skip
        refine o_const (k := 0) hx hb dX4_hashReader_34 (by decide) ?_
        refine lv_istore (lv' := [(6, .int (nI 0)), (4, .long (o_fold (c_rdr v r) h j1)), (0, .ref (o 0)), (1, .long h), (3, .int (nI r))]) hx hb dX4_hashReader_35 hl (by decide) rfl (fun ls hl => ?_)
        have lp_2 : ∀ (fu : Nat) (j2 : Nat), j2 ≤ 5 → 5 - j2 < fu → ∀ (ls : Array Slot) (hl : lv_has ls 7 [(6, .int (nI j2)), (4, .long (o_fold (c_has v r) (o_fold (c_rdr v r) h j1) j2)), (0, .ref (o 0)), (1, .long h), (3, .int (nI r))]), W p l e (headSpec wsX4_hashReader ({ frames := 4, cells := 0, slots := 0, locals := 88 })).room s m ([.ref (o 0), .long h, .int (nI r)] : List Value).toArray below meth cd s.heap [] 0 0 (MQ below (va_Ql (fun rz (_ : Unit) => rz = (c_h3 v r h)) (fun (_ : Unit) t => va_P D vwCl (wO o cI cR cS (va_up x 2 (c_wtf v r (x 2))) v tl) t.heap) A) ([.ref (o 0), .long h, .int (nI r)] : List Value).toArray s 0 0 A) (F0 m 37 ls []) := by
          intro fu
          induction fu with
          | zero => intro j2 hj2 hm; exact absurd hm (Nat.not_lt_zero _)
          | succ fu ih_2 =>
            intro j2 hj2 hm_2 ls hl
            refine lv_iload hx hb dX4_hashReader_37 (lv_at hl 0 rfl) ?_
            refine o_const (k := 5) hx hb dX4_hashReader_39 (by decide) ?_
            refine o_icmp_ge (tgt := 64) hx hb dX4_hashReader_40 (by decide) (by omega) (Nat.le_of_ble_eq_true rfl) (fun c_2 => ?_) (fun c_2 => ?_)
            · skip
              refine lv_lload hx hb dX4_hashReader_64 (lv_at hl 1 rfl) ?_
              refine lv_aload_n hx hb dX4_hashReader_66 rfl (lv_at hl 2 rfl) ?_
              refine lv_iload_n hx hb dX4_hashReader_67 rfl (lv_at hl 4 rfl) ?_
              refine o_ri (va_runV (As := [.int (nI r)]) (rest := [.long (o_fold (c_has v r) (o_fold (c_rdr v r) h j1) j2)]) ⟨hx, hb, hml, hown, hts⟩ (k_X4_ifRead l D cI cR cS cL o x v tl b r (by show s_I b v; first | assumption | omega) (by show b < 2 ^ 28; first | assumption | omega) (by show r < 4; first | assumption | omega)) (cwV 1 hts gX4_hashReader_X4_ifRead rfl rfl rfl (by decide +kernel) ⟨Nat.le_of_ble_eq_true rfl, Nat.le_of_ble_eq_true rfl⟩) (o_v (o_pR hK hN hP) (va_recv hK hP (ci := 4) (q0 := 0) rfl rfl)) rfl rfl hl.1 rfl (lv_room (Nat.le_of_ble_eq_true rfl)) dX4_hashReader_68 ⟨Nat.zero_le _, Nat.zero_le _⟩) (fun r_4 e_3 => ?_)
              have e_3 : r_4 = nI (s_out v r) := e_3
              subst e_3
              refine lv_i2l (v := (nI (s_out v r)).toInt64) hx hb dX4_hashReader_71 rfl ?_
              refine o_rl (va_runS (As := [.long (o_fold (c_has v r) (o_fold (c_rdr v r) h j1) j2), .long ((nI (s_out v r)).toInt64)]) (rest := []) ⟨hx, hb, hml, hown, hts⟩ (k_X4_mix l D cI cR cS cL (o_fold (c_has v r) (o_fold (c_rdr v r) h j1) j2) ((nI (s_out v r)).toInt64) ) (va_cwS 2 hts gX4_hashReader_X4_mix rfl rfl rfl (by decide +kernel) ⟨Nat.le_of_ble_eq_true rfl, Nat.le_of_ble_eq_true rfl⟩) (o_pR hK hN (hP.sub (ws' := []) [] rfl)) rfl rfl hl.1 rfl (lv_room (Nat.le_of_ble_eq_true rfl)) dX4_hashReader_72 ⟨Nat.zero_le _, Nat.zero_le _⟩) (fun r_6 e_5 => ?_)
              have e_5 : r_6 = ((31) * (o_fold (c_has v r) (o_fold (c_rdr v r) h j1) j2) + ((nI (s_out v r)).toInt64)) := e_5
              subst e_5
              refine lv_lstore (lv' := [(4, .long ((31) * (o_fold (c_has v r) (o_fold (c_rdr v r) h j1) j2) + ((nI (s_out v r)).toInt64))), (6, .int (nI j2)), (0, .ref (o 0)), (1, .long h), (3, .int (nI r))]) hx hb dX4_hashReader_75 hl (by decide) rfl (fun ls hl => ?_)
              refine lv_lload hx hb dX4_hashReader_77 (lv_at hl 0 rfl) ?_
              refine lv_aload_n hx hb dX4_hashReader_79 rfl (lv_at hl 2 rfl) ?_
              refine lv_iload_n hx hb dX4_hashReader_80 rfl (lv_at hl 4 rfl) ?_
              refine o_wiA (va_runV (As := [.int (nI r)]) (rest := [.long ((31) * (o_fold (c_has v r) (o_fold (c_rdr v r) h j1) j2) + ((nI (s_out v r)).toInt64))]) ⟨hx, hb, hml, hown, hts⟩ (k_X4_wouldBeHalf l D cI cR cS cL s.heap.size o x v tl b r (by show s_I b v; first | assumption | omega) (by show b < 2 ^ 28; first | assumption | omega) (by show r < 4; first | assumption | omega)) (cwV 1 hts gX4_hashReader_X4_wouldBeHalf rfl rfl rfl (by decide +kernel) ⟨Nat.le_of_ble_eq_true rfl, Nat.le_of_ble_eq_true rfl⟩) (o_v (o_pB hK hN hP hD) (va_recv hK hP (ci := 4) (q0 := 0) rfl rfl)) rfl rfl hl.1 rfl (lv_room (Nat.le_of_ble_eq_true rfl)) dX4_hashReader_81 ⟨Nat.zero_le _, Nat.zero_le _⟩) hD hS hA (fun _ => rfl) (fun r_8 _ H locs e_7 hP hD hS => ?_)
              have e_7 : r_8 = nI (c_half v r) := e_7
              subst e_7
              have hP : va_P D vwCl (wO o cI cR cS (va_up x 2 (c_wtf v r (x 2))) v tl) H := hP
              have hD : va_D A (wO o cI cR cS (va_up x 2 (c_wtf v r (x 2))) v tl) := hD
              refine lv_i2l (v := (nI (c_half v r)).toInt64) hx hb dX4_hashReader_84 rfl ?_
              refine o_rl (va_runS (As := [.long ((31) * (o_fold (c_has v r) (o_fold (c_rdr v r) h j1) j2) + ((nI (s_out v r)).toInt64)), .long ((nI (c_half v r)).toInt64)]) (rest := []) ⟨hx, hb, hml, hown, hts⟩ (k_X4_mix l D cI cR cS cL ((31) * (o_fold (c_has v r) (o_fold (c_rdr v r) h j1) j2) + ((nI (s_out v r)).toInt64)) ((nI (c_half v r)).toInt64) ) (va_cwS 2 hts gX4_hashReader_X4_mix rfl rfl rfl (by decide +kernel) ⟨Nat.le_of_ble_eq_true rfl, Nat.le_of_ble_eq_true rfl⟩) (o_pR hK hN (hP.sub (ws' := []) [] rfl)) rfl rfl hl.1 rfl (lv_room (Nat.le_of_ble_eq_true rfl)) dX4_hashReader_85 ⟨Nat.zero_le _, Nat.zero_le _⟩) (fun r_10 e_9 => ?_)
              have e_9 : r_10 = ((31) * ((31) * (o_fold (c_has v r) (o_fold (c_rdr v r) h j1) j2) + ((nI (s_out v r)).toInt64)) + ((nI (c_half v r)).toInt64)) := e_9
              subst e_9
              exact W.lret (v := ((31) * ((31) * (o_fold (c_has v r) (o_fold (c_rdr v r) h j1) j2) + ((nI (s_out v r)).toInt64)) + ((nI (c_half v r)).toInt64))) hx hb hrt (fun t ht hW => ⟨⟨_, (), rfl, (by unfold c_h3; rw [show j1 = 8 by omega, show j2 = 5 by omega]), by show va_P D vwCl _ t.heap; rw [ht]; exact hP⟩, hS.F ht⟩) hS.2.2 dX4_hashReader_88
            · skip
              refine lv_lload hx hb dX4_hashReader_43 (lv_at hl 1 rfl) ?_
              refine lv_aload_n hx hb dX4_hashReader_45 rfl (lv_at hl 2 rfl) ?_
              refine lv_iload_n hx hb dX4_hashReader_46 rfl (lv_at hl 4 rfl) ?_
              refine lv_iload hx hb dX4_hashReader_47 (lv_at hl 0 rfl) ?_
              refine o_ri (va_runV (As := [.int (nI r), .int (nI j2)]) (rest := [.long (o_fold (c_has v r) (o_fold (c_rdr v r) h j1) j2)]) ⟨hx, hb, hml, hown, hts⟩ (k_X4_has l D cI cR cS cL o x v tl b r j2 (by show s_I b v; first | assumption | omega) (by show b < 2 ^ 28; first | assumption | omega) (by show r < 4; first | assumption | omega) (by show j2 < 5; first | assumption | omega)) (cwV 2 hts gX4_hashReader_X4_has rfl rfl rfl (by decide +kernel) ⟨Nat.le_of_ble_eq_true rfl, Nat.le_of_ble_eq_true rfl⟩) (o_v (o_pR hK hN hP) (va_recv hK hP (ci := 4) (q0 := 0) rfl rfl)) rfl rfl hl.1 rfl (lv_room (Nat.le_of_ble_eq_true rfl)) dX4_hashReader_49 ⟨Nat.zero_le _, Nat.zero_le _⟩) (fun r_12 e_11 => ?_)
              have e_11 : r_12 = nI (c_has v r j2) := e_11
              subst e_11
              refine lv_i2l (v := (nI (c_has v r j2)).toInt64) hx hb dX4_hashReader_52 rfl ?_
              refine o_rl (va_runS (As := [.long (o_fold (c_has v r) (o_fold (c_rdr v r) h j1) j2), .long ((nI (c_has v r j2)).toInt64)]) (rest := []) ⟨hx, hb, hml, hown, hts⟩ (k_X4_mix l D cI cR cS cL (o_fold (c_has v r) (o_fold (c_rdr v r) h j1) j2) ((nI (c_has v r j2)).toInt64) ) (va_cwS 2 hts gX4_hashReader_X4_mix rfl rfl rfl (by decide +kernel) ⟨Nat.le_of_ble_eq_true rfl, Nat.le_of_ble_eq_true rfl⟩) (o_pR hK hN (hP.sub (ws' := []) [] rfl)) rfl rfl hl.1 rfl (lv_room (Nat.le_of_ble_eq_true rfl)) dX4_hashReader_53 ⟨Nat.zero_le _, Nat.zero_le _⟩) (fun r_14 e_13 => ?_)
              have e_13 : r_14 = ((31) * (o_fold (c_has v r) (o_fold (c_rdr v r) h j1) j2) + ((nI (c_has v r j2)).toInt64)) := e_13
              subst e_13
              refine lv_lstore (lv' := [(4, .long ((31) * (o_fold (c_has v r) (o_fold (c_rdr v r) h j1) j2) + ((nI (c_has v r j2)).toInt64))), (6, .int (nI j2)), (0, .ref (o 0)), (1, .long h), (3, .int (nI r))]) hx hb dX4_hashReader_56 hl (by decide) rfl (fun ls hl => ?_)
              refine lv_iinc (v := nI (j2 + 1)) (lv' := [(6, .int (nI (j2 + 1))), (4, .long ((31) * (o_fold (c_has v r) (o_fold (c_rdr v r) h j1) j2) + ((nI (c_has v r j2)).toInt64))), (0, .ref (o 0)), (1, .long h), (3, .int (nI r))]) hx hb dX4_hashReader_58 hl (k := 1) rfl (o_inc1 _) (by decide) rfl (fun ls hl => ?_)
              refine lv_goto (tgt := 37) hx hb dX4_hashReader_61 (by decide) ?_
              have q_15 : (((31) * (o_fold (c_has v r) (o_fold (c_rdr v r) h j1) j2) + ((nI (c_has v r j2)).toInt64)) : Int64) = (o_fold (c_has v r) (o_fold (c_rdr v r) h j1) (j2 + 1)) := by rfl
              have hl := o_lvset hl 1 rfl (congrArg Value.long q_15)
              exact ih_2  (j2 + 1) (by omega) (by omega) ls (lv_sub hl [0, 1, 2, 3, 4] rfl)
        have q_16 : ((o_fold (c_rdr v r) h j1) : Int64) = (o_fold (c_has v r) (o_fold (c_rdr v r) h j1) 0) := by rfl
        have hl := o_lvset hl 1 rfl (congrArg Value.long q_16)
        exact lp_2 _ 0 (Nat.zero_le _) (Nat.lt_succ_self _) ls (lv_sub hl [0, 1, 2, 3, 4] rfl)
      · skip
        refine lv_lload hx hb dX4_hashReader_13 (lv_at hl 1 rfl) ?_
        refine lv_aload_n hx hb dX4_hashReader_15 rfl (lv_at hl 2 rfl) ?_
        refine lv_iload_n hx hb dX4_hashReader_16 rfl (lv_at hl 4 rfl) ?_
        refine lv_iload hx hb dX4_hashReader_17 (lv_at hl 0 rfl) ?_
        refine o_ri (va_runV (As := [.int (nI r), .int (nI j1)]) (rest := [.long (o_fold (c_rdr v r) h j1)]) ⟨hx, hb, hml, hown, hts⟩ (k_X4_readerOf l D cI cR cS cL o x v tl b r j1 (by show s_I b v; first | assumption | omega) (by show b < 2 ^ 28; first | assumption | omega) (by show r < 4; first | assumption | omega) (by show j1 < 8; first | assumption | omega)) (cwV 2 hts gX4_hashReader_X4_readerOf rfl rfl rfl (by decide +kernel) ⟨Nat.le_of_ble_eq_true rfl, Nat.le_of_ble_eq_true rfl⟩) (o_v (o_pR hK hN hP) (va_recv hK hP (ci := 4) (q0 := 0) rfl rfl)) rfl rfl hl.1 rfl (lv_room (Nat.le_of_ble_eq_true rfl)) dX4_hashReader_19 ⟨Nat.zero_le _, Nat.zero_le _⟩) (fun r_18 e_17 => ?_)
        have e_17 : r_18 = nI (c_rdr v r j1) := e_17
        subst e_17
        refine lv_i2l (v := (nI (c_rdr v r j1)).toInt64) hx hb dX4_hashReader_22 rfl ?_
        refine o_rl (va_runS (As := [.long (o_fold (c_rdr v r) h j1), .long ((nI (c_rdr v r j1)).toInt64)]) (rest := []) ⟨hx, hb, hml, hown, hts⟩ (k_X4_mix l D cI cR cS cL (o_fold (c_rdr v r) h j1) ((nI (c_rdr v r j1)).toInt64) ) (va_cwS 2 hts gX4_hashReader_X4_mix rfl rfl rfl (by decide +kernel) ⟨Nat.le_of_ble_eq_true rfl, Nat.le_of_ble_eq_true rfl⟩) (o_pR hK hN (hP.sub (ws' := []) [] rfl)) rfl rfl hl.1 rfl (lv_room (Nat.le_of_ble_eq_true rfl)) dX4_hashReader_23 ⟨Nat.zero_le _, Nat.zero_le _⟩) (fun r_20 e_19 => ?_)
        have e_19 : r_20 = ((31) * (o_fold (c_rdr v r) h j1) + ((nI (c_rdr v r j1)).toInt64)) := e_19
        subst e_19
        refine lv_lstore (lv' := [(4, .long ((31) * (o_fold (c_rdr v r) h j1) + ((nI (c_rdr v r j1)).toInt64))), (6, .int (nI j1)), (0, .ref (o 0)), (1, .long h), (3, .int (nI r))]) hx hb dX4_hashReader_26 hl (by decide) rfl (fun ls hl => ?_)
        refine lv_iinc (v := nI (j1 + 1)) (lv' := [(6, .int (nI (j1 + 1))), (4, .long ((31) * (o_fold (c_rdr v r) h j1) + ((nI (c_rdr v r j1)).toInt64))), (0, .ref (o 0)), (1, .long h), (3, .int (nI r))]) hx hb dX4_hashReader_28 hl (k := 1) rfl (o_inc1 _) (by decide) rfl (fun ls hl => ?_)
        refine lv_goto (tgt := 6) hx hb dX4_hashReader_31 (by decide) ?_
        have q_21 : (((31) * (o_fold (c_rdr v r) h j1) + ((nI (c_rdr v r j1)).toInt64)) : Int64) = (o_fold (c_rdr v r) h (j1 + 1)) := by rfl
        have hl := o_lvset hl 1 rfl (congrArg Value.long q_21)
        exact ih_1  (j1 + 1) (by omega) (by omega) ls (lv_sub hl [0, 1, 2, 3, 4] rfl)
  have q_22 : (h : Int64) = (o_fold (c_rdr v r) h 0) := by rfl
  have hl := o_lvset hl 1 rfl (congrArg Value.long q_22)
  exact lp_1 _ 0 (Nat.zero_le _) (Nat.lt_succ_self _) ls (lv_sub hl [0, 1, 2, 3, 4] rfl)
theorem inX4_hashNotices_X4 : ∀ w ∈ wsX40, w ∈ wsX4_hashNotices := by decide +kernel
theorem inX4_hashNotices_X2 : ∀ w ∈ wsX20, w ∈ wsX4_hashNotices := by decide +kernel
set_option maxHeartbeats 4000000 in
set_option maxRecDepth 100000 in
theorem k_X4_hashNotices (l : Launch) (D : va_G) (cI cR cS cL : ClassId) (o : Nat → Nat) (x : Nat → Nat → Nat) (v : Nat → Nat → Nat) (tl : va_W) (b : Nat) (h : Int64) (hSI : s_I b v) (hb : b < 2 ^ 28) : Met l yX4_hashNotices wsX4_hashNotices ({ frames := 3, cells := 0, slots := 0, locals := 64 }) (va_Pc [.ref (o 0), .long h] (o_R D (o_T cI cR cS cL) (wO o cI cR cS x v tl))) (vp_Sl (fun rz => rz = (c_h4 v h))) 0 0 (fun _ => False) := by
  refine Met.ofW (cc := cX4_hashNotices) (maxL := 8) (ret := (some .long)) (by decide) rfl ?_
  intro p e s m args below meth cd s₁ B hml hv
  obtain ⟨rfl, hP, hK, hN⟩ := hv
  have hx := B.exec
  have hb := B.bytes
  have hrt := B.returns
  have hts := atoms_spec (ws := wsX4_hashNotices) B.pre
  have hown : s.vm.findClass RX4 = some m.cls := findClass_of_methodNamed B.named
  have hlocks := B.notSynchronized
  have hl := lv_entry ([.ref (o 0), .long h]) (n := 8) (Nat.le_of_ble_eq_true rfl)
  rw [lg_entry_eq]
  generalize (lg_sl ([.ref (o 0), .long h]) ++ List.replicate (8 - (lg_sl ([.ref (o 0), .long h])).length) Slot.unset).toArray = ls at hl ⊢
  have hl : lv_has ls 8 [(0, .ref (o 0)), (1, .long h)] := hl
  have hSc := hSI
  obtain ⟨⟨i1, i2, i3, hpl⟩, i5⟩ := hSI
  refine lv_lload_n hx hb dX4_hashNotices_0 rfl (lv_at hl 1 rfl) ?_
  refine lv_lstore_n (lv' := [(3, .long h), (0, .ref (o 0)), (1, .long h)]) hx hb dX4_hashNotices_1 rfl hl (by decide) rfl (fun ls hl => ?_)
  refine lv_aload_n hx hb dX4_hashNotices_2 rfl (lv_at hl 1 rfl) ?_
  refine va_get (D := D) (ci := 4) (v := .ref (o 5)) (C := RX4) (T := TX4) (N := 6) hx hb hts inX4_hashNotices_X4 hown hK hP 0 rfl rfl 0 (by decide) (hts (.fieldLink RX4 10 "OddNotice" "now" "LOddNotice$State;") (List.mem_of_getElem? (i := 1) (by decide +kernel))) (fun _ h9 => h9) rfl dX4_hashNotices_3 ?_
  refine va_get (D := D) (ci := 2) (v := .ref (o 6)) (C := RX2) (T := TX2) (N := 4) hx hb hts inX4_hashNotices_X2 hown hK hP 5 rfl rfl 0 (by decide) (hts (.fieldLink RX4 42 "OddNotice$State" "board" "LOddNotice$Board;") (List.mem_of_getElem? (i := 2) (by decide +kernel))) (fun _ h9 => h9) rfl dX4_hashNotices_6 ?_
  refine o_ri (va_runV (As := []) (rest := []) ⟨hx, hb, hml, hown, hts⟩ (k_X0_oldestKept l D cI cR cS cL (fun k => o (k + 6)) v (by show v 0 0 < 2 ^ 30; first | assumption | omega)) (cwV 0 hts gX4_hashNotices_X0_oldestKept rfl rfl rfl (by decide +kernel) ⟨Nat.le_of_ble_eq_true rfl, Nat.le_of_ble_eq_true rfl⟩) (o_v (o_pR hK hN (hP.sub (ws' := (wB (fun k => o (k + 6)) cI v)) [7, 8, 9, 10, 11] rfl)) (va_recv hK hP (ci := 0) (q0 := 7) rfl rfl)) rfl rfl hl.1 rfl (lv_room (Nat.le_of_ble_eq_true rfl)) dX4_hashNotices_9 ⟨Nat.zero_le _, Nat.zero_le _⟩) (fun r_2 e_1 => ?_)
  have e_1 : r_2 = nI (v 0 0 / 2 - 15) := e_1
  subst e_1
  refine lv_istore (lv' := [(5, .int (nI (v 0 0 / 2 - 15))), (3, .long h), (0, .ref (o 0)), (1, .long h)]) hx hb dX4_hashNotices_12 hl (by decide) rfl (fun ls hl => ?_)
  refine o_const (k := 0) hx hb dX4_hashNotices_14 (by decide) ?_
  refine lv_istore (lv' := [(6, .int (nI 0)), (5, .int (nI (v 0 0 / 2 - 15))), (3, .long h), (0, .ref (o 0)), (1, .long h)]) hx hb dX4_hashNotices_15 hl (by decide) rfl (fun ls hl => ?_)
  have lp_1 : ∀ (fu : Nat) (j1 : Nat), j1 ≤ (v 0 0 / 2 + 1 - (v 0 0 / 2 - 15)) → (v 0 0 / 2 + 1 - (v 0 0 / 2 - 15)) - j1 < fu → ∀ (ls : Array Slot) (hl : lv_has ls 8 [(6, .int (nI j1)), (5, .int (nI (v 0 0 / 2 - 15))), (3, .long (o_folh (fun i h => o_fold (b_kv v (v 0 0 / 2 - 15 + i)) h 5) h j1)), (0, .ref (o 0)), (1, .long h)]), W p l e (headSpec wsX4_hashNotices ({ frames := 3, cells := 0, slots := 0, locals := 64 })).room s m ([.ref (o 0), .long h] : List Value).toArray below meth cd s.heap [] 0 0 (MQ below (vp_Sl (fun rz => rz = (c_h4 v h))) ([.ref (o 0), .long h] : List Value).toArray s 0 0 (fun _ => False)) (F0 m 17 ls []) := by
    intro fu
    induction fu with
    | zero => intro j1 hj1 hm; exact absurd hm (Nat.not_lt_zero _)
    | succ fu ih_1 =>
      intro j1 hj1 hm_1 ls hl
      refine lv_iload hx hb dX4_hashNotices_17 (lv_at hl 0 rfl) ?_
      refine o_bipush (k := 16) hx hb dX4_hashNotices_19 (by decide) ?_
      refine o_icmp_ge (tgt := 86) hx hb dX4_hashNotices_21 (by decide) (by omega) (Nat.le_of_ble_eq_true rfl) (fun c_3 => ?_) (fun c_3 => ?_)
      · skip
        refine lv_lload_n hx hb dX4_hashNotices_86 rfl (lv_at hl 2 rfl) ?_
        exact W.lret (v := (o_folh (fun i h => o_fold (b_kv v (v 0 0 / 2 - 15 + i)) h 5) h j1)) hx hb hrt (fun t ht hW => ⟨_, rfl, (by unfold c_h4; rw [show v 0 0 / 2 + 1 - (v 0 0 / 2 - 15) = j1 by omega]), ht⟩) (fun _ h => nomatch h) dX4_hashNotices_87
      · skip
        refine lv_iload hx hb dX4_hashNotices_24 (lv_at hl 1 rfl) ?_
        refine lv_iload hx hb dX4_hashNotices_26 (lv_at hl 0 rfl) ?_
        refine o_iadd (a := (v 0 0 / 2 - 15)) (b := j1) (k := (v 0 0 / 2 - 15 + j1)) hx hb dX4_hashNotices_28 rfl ?_
        refine lv_aload_n hx hb dX4_hashNotices_29 rfl (lv_at hl 3 rfl) ?_
        refine va_get (D := D) (ci := 4) (v := .ref (o 5)) (C := RX4) (T := TX4) (N := 6) hx hb hts inX4_hashNotices_X4 hown hK hP 0 rfl rfl 0 (by decide) (hts (.fieldLink RX4 10 "OddNotice" "now" "LOddNotice$State;") (List.mem_of_getElem? (i := 1) (by decide +kernel))) (fun _ h9 => h9) rfl dX4_hashNotices_30 ?_
        refine va_get (D := D) (ci := 2) (v := .ref (o 6)) (C := RX2) (T := TX2) (N := 4) hx hb hts inX4_hashNotices_X2 hown hK hP 5 rfl rfl 0 (by decide) (hts (.fieldLink RX4 42 "OddNotice$State" "board" "LOddNotice$Board;") (List.mem_of_getElem? (i := 2) (by decide +kernel))) (fun _ h9 => h9) rfl dX4_hashNotices_33 ?_
        refine o_ri (va_runV (As := []) (rest := [.int (nI (v 0 0 / 2 - 15 + j1))]) ⟨hx, hb, hml, hown, hts⟩ (k_X0_latestWhole l D cI cR cS cL (fun k => o (k + 6)) v (by show v 0 0 < 2 ^ 31; first | assumption | omega)) (cwV 0 hts gX4_hashNotices_X0_latestWhole rfl rfl rfl (by decide +kernel) ⟨Nat.le_of_ble_eq_true rfl, Nat.le_of_ble_eq_true rfl⟩) (o_v (o_pR hK hN (hP.sub (ws' := (wB (fun k => o (k + 6)) cI v)) [7, 8, 9, 10, 11] rfl)) (va_recv hK hP (ci := 0) (q0 := 7) rfl rfl)) rfl rfl hl.1 rfl (lv_room (Nat.le_of_ble_eq_true rfl)) dX4_hashNotices_36 ⟨Nat.zero_le _, Nat.zero_le _⟩) (fun r_5 e_4 => ?_)
        have e_4 : r_5 = nI (v 0 0 / 2) := e_4
        subst e_4
        refine o_icmp_gt (tgt := 86) hx hb dX4_hashNotices_39 (by decide) (by omega) (by omega) (fun c_6 => ?_) (fun c_6 => ?_)
        · skip
          refine lv_lload_n hx hb dX4_hashNotices_86 rfl (lv_at hl 2 rfl) ?_
          exact W.lret (v := (o_folh (fun i h => o_fold (b_kv v (v 0 0 / 2 - 15 + i)) h 5) h j1)) hx hb hrt (fun t ht hW => ⟨_, rfl, (by unfold c_h4; rw [show v 0 0 / 2 + 1 - (v 0 0 / 2 - 15) = j1 by omega]), ht⟩) (fun _ h => nomatch h) dX4_hashNotices_87
        · skip
          refine o_const (k := 0) hx hb dX4_hashNotices_42 (by decide) ?_
          refine lv_istore (lv' := [(7, .int (nI 0)), (6, .int (nI j1)), (5, .int (nI (v 0 0 / 2 - 15))), (3, .long (o_folh (fun i h => o_fold (b_kv v (v 0 0 / 2 - 15 + i)) h 5) h j1)), (0, .ref (o 0)), (1, .long h)]) hx hb dX4_hashNotices_43 hl (by decide) rfl (fun ls hl => ?_)
          have lp_2 : ∀ (fu : Nat) (j2 : Nat), j2 ≤ 5 → 5 - j2 < fu → ∀ (ls : Array Slot) (hl : lv_has ls 8 [(7, .int (nI j2)), (6, .int (nI j1)), (5, .int (nI (v 0 0 / 2 - 15))), (3, .long (o_fold (b_kv v (v 0 0 / 2 - 15 + j1)) (o_folh (fun i h => o_fold (b_kv v (v 0 0 / 2 - 15 + i)) h 5) h j1) j2)), (0, .ref (o 0)), (1, .long h)]), W p l e (headSpec wsX4_hashNotices ({ frames := 3, cells := 0, slots := 0, locals := 64 })).room s m ([.ref (o 0), .long h] : List Value).toArray below meth cd s.heap [] 0 0 (MQ below (vp_Sl (fun rz => rz = (c_h4 v h))) ([.ref (o 0), .long h] : List Value).toArray s 0 0 (fun _ => False)) (F0 m 45 ls []) := by
            intro fu
            induction fu with
            | zero => intro j2 hj2 hm; exact absurd hm (Nat.not_lt_zero _)
            | succ fu ih_2 =>
              intro j2 hj2 hm_2 ls hl
              refine lv_iload hx hb dX4_hashNotices_45 (lv_at hl 0 rfl) ?_
              refine o_const (k := 5) hx hb dX4_hashNotices_47 (by decide) ?_
              refine o_icmp_ge (tgt := 80) hx hb dX4_hashNotices_48 (by decide) (by omega) (Nat.le_of_ble_eq_true rfl) (fun c_7 => ?_) (fun c_7 => ?_)
              · skip
                refine lv_iinc (v := nI (j1 + 1)) (lv' := [(6, .int (nI (j1 + 1))), (7, .int (nI j2)), (5, .int (nI (v 0 0 / 2 - 15))), (3, .long (o_fold (b_kv v (v 0 0 / 2 - 15 + j1)) (o_folh (fun i h => o_fold (b_kv v (v 0 0 / 2 - 15 + i)) h 5) h j1) j2)), (0, .ref (o 0)), (1, .long h)]) hx hb dX4_hashNotices_80 hl (k := 1) rfl (o_inc1 _) (by decide) rfl (fun ls hl => ?_)
                refine lv_goto (tgt := 17) hx hb dX4_hashNotices_83 (by decide) ?_
                have q_8 : ((o_fold (b_kv v (v 0 0 / 2 - 15 + j1)) (o_folh (fun i h => o_fold (b_kv v (v 0 0 / 2 - 15 + i)) h 5) h j1) j2) : Int64) = (o_folh (fun i h => o_fold (b_kv v (v 0 0 / 2 - 15 + i)) h 5) h (j1 + 1)) := by exact (show _ = o_fold (b_kv v (v 0 0 / 2 - 15 + j1)) (o_folh (fun i h => o_fold (b_kv v (v 0 0 / 2 - 15 + i)) h 5) h j1) 5 from by rw [show j2 = 5 by omega])
                have hl := o_lvset hl 3 rfl (congrArg Value.long q_8)
                exact ih_1  (j1 + 1) (by omega) (by omega) ls (lv_sub hl [0, 2, 3, 4, 5] rfl)
              · skip
                refine lv_lload_n hx hb dX4_hashNotices_51 rfl (lv_at hl 3 rfl) ?_
                refine lv_aload_n hx hb dX4_hashNotices_52 rfl (lv_at hl 4 rfl) ?_
                refine va_get (D := D) (ci := 4) (v := .ref (o 5)) (C := RX4) (T := TX4) (N := 6) hx hb hts inX4_hashNotices_X4 hown hK hP 0 rfl rfl 0 (by decide) (hts (.fieldLink RX4 10 "OddNotice" "now" "LOddNotice$State;") (List.mem_of_getElem? (i := 1) (by decide +kernel))) (fun _ h9 => h9) rfl dX4_hashNotices_53 ?_
                refine va_get (D := D) (ci := 2) (v := .ref (o 6)) (C := RX2) (T := TX2) (N := 4) hx hb hts inX4_hashNotices_X2 hown hK hP 5 rfl rfl 0 (by decide) (hts (.fieldLink RX4 42 "OddNotice$State" "board" "LOddNotice$Board;") (List.mem_of_getElem? (i := 2) (by decide +kernel))) (fun _ h9 => h9) rfl dX4_hashNotices_56 ?_
                refine lv_iload hx hb dX4_hashNotices_59 (lv_at hl 2 rfl) ?_
                refine lv_iload hx hb dX4_hashNotices_61 (lv_at hl 1 rfl) ?_
                refine o_iadd (a := (v 0 0 / 2 - 15)) (b := j1) (k := (v 0 0 / 2 - 15 + j1)) hx hb dX4_hashNotices_63 rfl ?_
                refine lv_iload hx hb dX4_hashNotices_64 (lv_at hl 0 rfl) ?_
                refine o_ri (va_runV (As := [.int (nI (v 0 0 / 2 - 15 + j1)), .int (nI j2)]) (rest := [.long (o_fold (b_kv v (v 0 0 / 2 - 15 + j1)) (o_folh (fun i h => o_fold (b_kv v (v 0 0 / 2 - 15 + i)) h 5) h j1) j2)]) ⟨hx, hb, hml, hown, hts⟩ (k_X0_keptValue l D cI cR cS cL (fun k => o (k + 6)) v (v 0 0 / 2 - 15 + j1) j2 (by show v 0 0 < 2 ^ 30; first | assumption | omega) (by show (v 0 0 / 2 - 15 + j1) < 2 ^ 31; first | assumption | omega) (by show j2 < 5; first | assumption | omega)) (cwV 2 hts gX4_hashNotices_X0_keptValue rfl rfl rfl (by decide +kernel) ⟨Nat.le_of_ble_eq_true rfl, Nat.le_of_ble_eq_true rfl⟩) (o_v (o_pR hK hN (hP.sub (ws' := (wB (fun k => o (k + 6)) cI v)) [7, 8, 9, 10, 11] rfl)) (va_recv hK hP (ci := 0) (q0 := 7) rfl rfl)) rfl rfl hl.1 rfl (lv_room (Nat.le_of_ble_eq_true rfl)) dX4_hashNotices_66 ⟨Nat.zero_le _, Nat.zero_le _⟩) (fun r_10 e_9 => ?_)
                have e_9 : r_10 = nI (b_kv v (v 0 0 / 2 - 15 + j1) j2) := e_9
                subst e_9
                refine lv_i2l (v := (nI (b_kv v (v 0 0 / 2 - 15 + j1) j2)).toInt64) hx hb dX4_hashNotices_69 rfl ?_
                refine o_rl (va_runS (As := [.long (o_fold (b_kv v (v 0 0 / 2 - 15 + j1)) (o_folh (fun i h => o_fold (b_kv v (v 0 0 / 2 - 15 + i)) h 5) h j1) j2), .long ((nI (b_kv v (v 0 0 / 2 - 15 + j1) j2)).toInt64)]) (rest := []) ⟨hx, hb, hml, hown, hts⟩ (k_X4_mix l D cI cR cS cL (o_fold (b_kv v (v 0 0 / 2 - 15 + j1)) (o_folh (fun i h => o_fold (b_kv v (v 0 0 / 2 - 15 + i)) h 5) h j1) j2) ((nI (b_kv v (v 0 0 / 2 - 15 + j1) j2)).toInt64) ) (va_cwS 2 hts gX4_hashNotices_X4_mix rfl rfl rfl (by decide +kernel) ⟨Nat.le_of_ble_eq_true rfl, Nat.le_of_ble_eq_true rfl⟩) (o_pR hK hN (hP.sub (ws' := []) [] rfl)) rfl rfl hl.1 rfl (lv_room (Nat.le_of_ble_eq_true rfl)) dX4_hashNotices_70 ⟨Nat.zero_le _, Nat.zero_le _⟩) (fun r_12 e_11 => ?_)
                have e_11 : r_12 = ((31) * (o_fold (b_kv v (v 0 0 / 2 - 15 + j1)) (o_folh (fun i h => o_fold (b_kv v (v 0 0 / 2 - 15 + i)) h 5) h j1) j2) + ((nI (b_kv v (v 0 0 / 2 - 15 + j1) j2)).toInt64)) := e_11
                subst e_11
                refine lv_lstore_n (lv' := [(3, .long ((31) * (o_fold (b_kv v (v 0 0 / 2 - 15 + j1)) (o_folh (fun i h => o_fold (b_kv v (v 0 0 / 2 - 15 + i)) h 5) h j1) j2) + ((nI (b_kv v (v 0 0 / 2 - 15 + j1) j2)).toInt64))), (7, .int (nI j2)), (6, .int (nI j1)), (5, .int (nI (v 0 0 / 2 - 15))), (0, .ref (o 0)), (1, .long h)]) hx hb dX4_hashNotices_73 rfl hl (by decide) rfl (fun ls hl => ?_)
                refine lv_iinc (v := nI (j2 + 1)) (lv' := [(7, .int (nI (j2 + 1))), (3, .long ((31) * (o_fold (b_kv v (v 0 0 / 2 - 15 + j1)) (o_folh (fun i h => o_fold (b_kv v (v 0 0 / 2 - 15 + i)) h 5) h j1) j2) + ((nI (b_kv v (v 0 0 / 2 - 15 + j1) j2)).toInt64))), (6, .int (nI j1)), (5, .int (nI (v 0 0 / 2 - 15))), (0, .ref (o 0)), (1, .long h)]) hx hb dX4_hashNotices_74 hl (k := 1) rfl (o_inc1 _) (by decide) rfl (fun ls hl => ?_)
                refine lv_goto (tgt := 45) hx hb dX4_hashNotices_77 (by decide) ?_
                have q_13 : (((31) * (o_fold (b_kv v (v 0 0 / 2 - 15 + j1)) (o_folh (fun i h => o_fold (b_kv v (v 0 0 / 2 - 15 + i)) h 5) h j1) j2) + ((nI (b_kv v (v 0 0 / 2 - 15 + j1) j2)).toInt64)) : Int64) = (o_fold (b_kv v (v 0 0 / 2 - 15 + j1)) (o_folh (fun i h => o_fold (b_kv v (v 0 0 / 2 - 15 + i)) h 5) h j1) (j2 + 1)) := by rfl
                have hl := o_lvset hl 1 rfl (congrArg Value.long q_13)
                exact ih_2  (j2 + 1) (by omega) (by omega) ls (lv_sub hl [0, 2, 3, 1, 4, 5] rfl)
          have q_14 : ((o_folh (fun i h => o_fold (b_kv v (v 0 0 / 2 - 15 + i)) h 5) h j1) : Int64) = (o_fold (b_kv v (v 0 0 / 2 - 15 + j1)) (o_folh (fun i h => o_fold (b_kv v (v 0 0 / 2 - 15 + i)) h 5) h j1) 0) := by rfl
          have hl := o_lvset hl 3 rfl (congrArg Value.long q_14)
          exact lp_2 _ 0 (Nat.zero_le _) (Nat.lt_succ_self _) ls (lv_sub hl [0, 1, 2, 3, 4, 5] rfl)
  have q_15 : (h : Int64) = (o_folh (fun i h => o_fold (b_kv v (v 0 0 / 2 - 15 + i)) h 5) h 0) := by rfl
  have hl := o_lvset hl 2 rfl (congrArg Value.long q_15)
  exact lp_1 _ 0 (Nat.zero_le _) (Nat.lt_succ_self _) ls (lv_sub hl [0, 1, 2, 3, 4] rfl)
theorem inX4_hashBuffer_X4 : ∀ w ∈ wsX40, w ∈ wsX4_hashBuffer := by decide +kernel
theorem inX4_hashBuffer_X3 : ∀ w ∈ wsX30, w ∈ wsX4_hashBuffer := by decide +kernel
set_option maxHeartbeats 4000000 in
set_option maxRecDepth 100000 in
theorem k_X4_hashBuffer (l : Launch) (D : va_G) (cI cR cS cL : ClassId) (o : Nat → Nat) (x : Nat → Nat → Nat) (v : Nat → Nat → Nat) (tl : va_W) (b : Nat) (h : Int64) (h0 : x 0 0 ≤ 60) (ht : ∀ k, x 1 k < 2 ^ 31) : Met l yX4_hashBuffer wsX4_hashBuffer ({ frames := 2, cells := 0, slots := 0, locals := 42 }) (va_Pc [.ref (o 0), .long h] (o_R D (o_T cI cR cS cL) (wO o cI cR cS x v tl))) (vp_Sl (fun rz => rz = (c_h5 x h))) 0 0 (fun _ => False) := by
  refine Met.ofW (cc := cX4_hashBuffer) (maxL := 6) (ret := (some .long)) (by decide) rfl ?_
  intro p e s m args below meth cd s₁ B hml hv
  obtain ⟨rfl, hP, hK, hN⟩ := hv
  have hx := B.exec
  have hb := B.bytes
  have hrt := B.returns
  have hts := atoms_spec (ws := wsX4_hashBuffer) B.pre
  have hown : s.vm.findClass RX4 = some m.cls := findClass_of_methodNamed B.named
  have hlocks := B.notSynchronized
  have hl := lv_entry ([.ref (o 0), .long h]) (n := 6) (Nat.le_of_ble_eq_true rfl)
  rw [lg_entry_eq]
  generalize (lg_sl ([.ref (o 0), .long h]) ++ List.replicate (6 - (lg_sl ([.ref (o 0), .long h])).length) Slot.unset).toArray = ls at hl ⊢
  have hl : lv_has ls 6 [(0, .ref (o 0)), (1, .long h)] := hl
  refine lv_lload_n hx hb dX4_hashBuffer_0 rfl (lv_at hl 1 rfl) ?_
  refine lv_aload_n hx hb dX4_hashBuffer_1 rfl (lv_at hl 0 rfl) ?_
  refine va_get (D := D) (ci := 4) (v := .ref (o 2)) (C := RX4) (T := TX4) (N := 6) hx hb hts inX4_hashBuffer_X4 hown hK hP 0 rfl rfl 4 (by decide) (hts (.fieldLink RX4 23 "OddNotice" "text" "LOddNotice$Text;") (List.mem_of_getElem? (i := 1) (by decide +kernel))) (fun _ h9 => h9) rfl dX4_hashBuffer_2 ?_
  refine va_get (D := D) (ci := 3) (v := .int (nI (x 0 0))) (C := RX3) (T := TX3) (N := 4) hx hb hts inX4_hashBuffer_X3 hown hK hP 2 rfl rfl 0 (by decide) (hts (.fieldLink RX4 128 "OddNotice$Text" "length" "I") (List.mem_of_getElem? (i := 2) (by decide +kernel))) (fun _ h9 => h9) rfl dX4_hashBuffer_5 ?_
  refine lv_i2l (v := (nI (x 0 0)).toInt64) hx hb dX4_hashBuffer_8 rfl ?_
  refine o_rl (va_runS (As := [.long h, .long ((nI (x 0 0)).toInt64)]) (rest := []) ⟨hx, hb, hml, hown, hts⟩ (k_X4_mix l D cI cR cS cL h ((nI (x 0 0)).toInt64) ) (va_cwS 2 hts gX4_hashBuffer_X4_mix rfl rfl rfl (by decide +kernel) ⟨Nat.le_of_ble_eq_true rfl, Nat.le_of_ble_eq_true rfl⟩) (o_pR hK hN (hP.sub (ws' := []) [] rfl)) rfl rfl hl.1 rfl (lv_room (Nat.le_of_ble_eq_true rfl)) dX4_hashBuffer_9 ⟨Nat.zero_le _, Nat.zero_le _⟩) (fun r_2 e_1 => ?_)
  have e_1 : r_2 = ((31) * h + ((nI (x 0 0)).toInt64)) := e_1
  subst e_1
  refine lv_lstore_n (lv' := [(3, .long ((31) * h + ((nI (x 0 0)).toInt64))), (0, .ref (o 0)), (1, .long h)]) hx hb dX4_hashBuffer_12 rfl hl (by decide) rfl (fun ls hl => ?_)
  refine o_const (k := 0) hx hb dX4_hashBuffer_13 (by decide) ?_
  refine lv_istore (lv' := [(5, .int (nI 0)), (3, .long ((31) * h + ((nI (x 0 0)).toInt64))), (0, .ref (o 0)), (1, .long h)]) hx hb dX4_hashBuffer_14 hl (by decide) rfl (fun ls hl => ?_)
  have lp_1 : ∀ (fu : Nat) (j1 : Nat), j1 ≤ x 0 0 → x 0 0 - j1 < fu → ∀ (ls : Array Slot) (hl : lv_has ls 6 [(5, .int (nI j1)), (3, .long (o_fold (t_code x) (31 * h + (nI (x 0 0)).toInt64) j1)), (0, .ref (o 0)), (1, .long h)]), W p l e (headSpec wsX4_hashBuffer ({ frames := 2, cells := 0, slots := 0, locals := 42 })).room s m ([.ref (o 0), .long h] : List Value).toArray below meth cd s.heap [] 0 0 (MQ below (vp_Sl (fun rz => rz = (c_h5 x h))) ([.ref (o 0), .long h] : List Value).toArray s 0 0 (fun _ => False)) (F0 m 16 ls []) := by
    intro fu
    induction fu with
    | zero => intro j1 hj1 hm; exact absurd hm (Nat.not_lt_zero _)
    | succ fu ih_1 =>
      intro j1 hj1 hm_1 ls hl
      refine lv_iload hx hb dX4_hashBuffer_16 (lv_at hl 0 rfl) ?_
      refine lv_aload_n hx hb dX4_hashBuffer_18 rfl (lv_at hl 2 rfl) ?_
      refine va_get (D := D) (ci := 4) (v := .ref (o 2)) (C := RX4) (T := TX4) (N := 6) hx hb hts inX4_hashBuffer_X4 hown hK hP 0 rfl rfl 4 (by decide) (hts (.fieldLink RX4 23 "OddNotice" "text" "LOddNotice$Text;") (List.mem_of_getElem? (i := 1) (by decide +kernel))) (fun _ h9 => h9) rfl dX4_hashBuffer_19 ?_
      refine va_get (D := D) (ci := 3) (v := .int (nI (x 0 0))) (C := RX3) (T := TX3) (N := 4) hx hb hts inX4_hashBuffer_X3 hown hK hP 2 rfl rfl 0 (by decide) (hts (.fieldLink RX4 128 "OddNotice$Text" "length" "I") (List.mem_of_getElem? (i := 2) (by decide +kernel))) (fun _ h9 => h9) rfl dX4_hashBuffer_22 ?_
      refine o_icmp_ge (tgt := 49) hx hb dX4_hashBuffer_25 (by decide) (by omega) (by omega) (fun c_3 => ?_) (fun c_3 => ?_)
      · skip
        refine lv_lload_n hx hb dX4_hashBuffer_49 rfl (lv_at hl 1 rfl) ?_
        exact W.lret (v := (o_fold (t_code x) (31 * h + (nI (x 0 0)).toInt64) j1)) hx hb hrt (fun t ht hW => ⟨_, rfl, (by unfold c_h5; rw [show j1 = x 0 0 by omega]), ht⟩) (fun _ h => nomatch h) dX4_hashBuffer_50
      · skip
        refine lv_lload_n hx hb dX4_hashBuffer_28 rfl (lv_at hl 1 rfl) ?_
        refine lv_aload_n hx hb dX4_hashBuffer_29 rfl (lv_at hl 2 rfl) ?_
        refine va_get (D := D) (ci := 4) (v := .ref (o 2)) (C := RX4) (T := TX4) (N := 6) hx hb hts inX4_hashBuffer_X4 hown hK hP 0 rfl rfl 4 (by decide) (hts (.fieldLink RX4 23 "OddNotice" "text" "LOddNotice$Text;") (List.mem_of_getElem? (i := 1) (by decide +kernel))) (fun _ h9 => h9) rfl dX4_hashBuffer_30 ?_
        refine lv_iload hx hb dX4_hashBuffer_33 (lv_at hl 0 rfl) ?_
        refine o_ri (va_runV (As := [.int (nI j1)]) (rest := [.long (o_fold (t_code x) (31 * h + (nI (x 0 0)).toInt64) j1)]) ⟨hx, hb, hml, hown, hts⟩ (k_X3_codeAt l D cI cR cS cL (fun k => o (k + 2)) x j1 (by show j1 < 2 ^ 31; first | assumption | omega) (by show x 0 0 ≤ 60; first | assumption | omega) (by show ∀ k, x 1 k < 2 ^ 31; first | assumption | omega)) (cwV 1 hts gX4_hashBuffer_X3_codeAt rfl rfl rfl (by decide +kernel) ⟨Nat.le_of_ble_eq_true rfl, Nat.le_of_ble_eq_true rfl⟩) (o_v (o_pR hK hN (hP.sub (ws' := (wT (fun k => o (k + 2)) cI x)) [2, 3] rfl)) (va_recv hK hP (ci := 3) (q0 := 2) rfl rfl)) rfl rfl hl.1 rfl (lv_room (Nat.le_of_ble_eq_true rfl)) dX4_hashBuffer_35 ⟨Nat.zero_le _, Nat.zero_le _⟩) (fun r_5 e_4 => ?_)
        have e_4 : r_5 = nI (t_code x j1) := e_4
        subst e_4
        have gv_6 := (t_code_lt (by assumption) j1 : t_code x j1 < 2 ^ 31)
        refine lv_i2l (v := (nI (t_code x j1)).toInt64) hx hb dX4_hashBuffer_38 rfl ?_
        refine o_rl (va_runS (As := [.long (o_fold (t_code x) (31 * h + (nI (x 0 0)).toInt64) j1), .long ((nI (t_code x j1)).toInt64)]) (rest := []) ⟨hx, hb, hml, hown, hts⟩ (k_X4_mix l D cI cR cS cL (o_fold (t_code x) (31 * h + (nI (x 0 0)).toInt64) j1) ((nI (t_code x j1)).toInt64) ) (va_cwS 2 hts gX4_hashBuffer_X4_mix rfl rfl rfl (by decide +kernel) ⟨Nat.le_of_ble_eq_true rfl, Nat.le_of_ble_eq_true rfl⟩) (o_pR hK hN (hP.sub (ws' := []) [] rfl)) rfl rfl hl.1 rfl (lv_room (Nat.le_of_ble_eq_true rfl)) dX4_hashBuffer_39 ⟨Nat.zero_le _, Nat.zero_le _⟩) (fun r_8 e_7 => ?_)
        have e_7 : r_8 = ((31) * (o_fold (t_code x) (31 * h + (nI (x 0 0)).toInt64) j1) + ((nI (t_code x j1)).toInt64)) := e_7
        subst e_7
        refine lv_lstore_n (lv' := [(3, .long ((31) * (o_fold (t_code x) (31 * h + (nI (x 0 0)).toInt64) j1) + ((nI (t_code x j1)).toInt64))), (5, .int (nI j1)), (0, .ref (o 0)), (1, .long h)]) hx hb dX4_hashBuffer_42 rfl hl (by decide) rfl (fun ls hl => ?_)
        refine lv_iinc (v := nI (j1 + 1)) (lv' := [(5, .int (nI (j1 + 1))), (3, .long ((31) * (o_fold (t_code x) (31 * h + (nI (x 0 0)).toInt64) j1) + ((nI (t_code x j1)).toInt64))), (0, .ref (o 0)), (1, .long h)]) hx hb dX4_hashBuffer_43 hl (k := 1) rfl (o_inc1 _) (by decide) rfl (fun ls hl => ?_)
        refine lv_goto (tgt := 16) hx hb dX4_hashBuffer_46 (by decide) ?_
        have q_9 : (((31) * (o_fold (t_code x) (31 * h + (nI (x 0 0)).toInt64) j1) + ((nI (t_code x j1)).toInt64)) : Int64) = (o_fold (t_code x) (31 * h + (nI (x 0 0)).toInt64) (j1 + 1)) := by rfl
        have hl := o_lvset hl 1 rfl (congrArg Value.long q_9)
        exact ih_1  (j1 + 1) (by omega) (by omega) ls (lv_sub hl [0, 1, 2, 3] rfl)
  have q_10 : (((31) * h + ((nI (x 0 0)).toInt64)) : Int64) = (o_fold (t_code x) (31 * h + (nI (x 0 0)).toInt64) 0) := by rfl
  have hl := o_lvset hl 1 rfl (congrArg Value.long q_10)
  exact lp_1 _ 0 (Nat.zero_le _) (Nat.lt_succ_self _) ls (lv_sub hl [0, 1, 2, 3] rfl)
