theorem inX2_copyFrom_X2 : ∀ w ∈ wsX20, w ∈ wsX2_copyFrom := by decide +kernel
set_option maxHeartbeats 4000000 in
set_option maxRecDepth 100000 in
theorem k_X2_copyFrom (l : Launch) (D : va_G) (cI cR cS cL : ClassId) (sz : Nat) (q : Nat → Nat) (u : Nat → Nat → Nat) (qb : Nat → Nat) (v : Nat → Nat → Nat) (b : Nat) (hSI : s_I b v) (hb : b < 2 ^ 28) : Met l yX2_copyFrom wsX2_copyFrom ({ frames := 2, cells := 0, slots := 0, locals := 39 }) (va_Pc [.ref (q 0), .ref (qb 0)] (o_B D (o_T cI cR cS cL) (wP q cI cR u u (fun k => u (k + 5)) (fun k => u (k + 8)) (fun k => u (k + 11)) (fun k => u (k + 14)) ++ wP qb cI cR v v (fun k => v (k + 5)) (fun k => v (k + 8)) (fun k => v (k + 11)) (fun k => v (k + 14))) sz)) (va_Qv (fun (_ : Unit) => True) (fun (_ : Unit) t => va_P D vwCl (wS q cI cR v ++ wS qb cI cR v) t.heap) (va_A (wP q cI cR u u (fun k => u (k + 5)) (fun k => u (k + 8)) (fun k => u (k + 11)) (fun k => u (k + 14)) ++ wP qb cI cR v v (fun k => v (k + 5)) (fun k => v (k + 8)) (fun k => v (k + 11)) (fun k => v (k + 14))) sz)) 0 0 (va_A (wP q cI cR u u (fun k => u (k + 5)) (fun k => u (k + 8)) (fun k => u (k + 11)) (fun k => u (k + 14)) ++ wP qb cI cR v v (fun k => v (k + 5)) (fun k => v (k + 8)) (fun k => v (k + 11)) (fun k => v (k + 14))) sz) := by
  refine Met.ofW (cc := cX2_copyFrom) (maxL := 3) (ret := none) (by decide) rfl ?_
  intro p e s m args below meth cd s₁ B hml hv
  obtain ⟨rfl, hsz, hP, hK, hD0, hN⟩ := hv
  have hx := B.exec
  have hb := B.bytes
  have hrt := B.returns
  have hts := atoms_spec (ws := wsX2_copyFrom) B.pre
  have hown : s.vm.findClass RX2 = some m.cls := findClass_of_methodNamed B.named
  have hlocks := B.notSynchronized
  subst hsz
  have hD := hD0.self (sz := s.heap.size)
  generalize hAe : va_A (wP q cI cR u u (fun k => u (k + 5)) (fun k => u (k + 8)) (fun k => u (k + 11)) (fun k => u (k + 14)) ++ wP qb cI cR v v (fun k => v (k + 5)) (fun k => v (k + 8)) (fun k => v (k + 11)) (fun k => v (k + 14))) s.heap.size = A at hD ⊢
  have hA : ∀ q : Nat, s.heap.size ≤ q → A q := fun q h => by rw [← hAe]; exact Or.inr h
  have hS : va_S A s.heap s.heap [] := va_S.rf
  have hl := lv_entry ([.ref (q 0), .ref (qb 0)]) (n := 3) (Nat.le_of_ble_eq_true rfl)
  rw [lg_entry_eq]
  generalize (lg_sl ([.ref (q 0), .ref (qb 0)]) ++ List.replicate (3 - (lg_sl ([.ref (q 0), .ref (qb 0)])).length) Slot.unset).toArray = ls at hl ⊢
  have hl : lv_has ls 3 [(0, .ref (q 0)), (1, .ref (qb 0))] := hl
  obtain ⟨⟨i1, i2, i3, hpl⟩, i5⟩ := hSI
  have j0 := i5 0 (by omega)
  unfold s_IR at j0
  simp only [Nat.reduceMul, Nat.reduceAdd] at j0
  have j1 := i5 1 (by omega)
  unfold s_IR at j1
  simp only [Nat.reduceMul, Nat.reduceAdd] at j1
  have j2 := i5 2 (by omega)
  unfold s_IR at j2
  simp only [Nat.reduceMul, Nat.reduceAdd] at j2
  have j3 := i5 3 (by omega)
  unfold s_IR at j3
  simp only [Nat.reduceMul, Nat.reduceAdd] at j3
  refine lv_aload_n hx hb dX2_copyFrom_0 rfl (lv_at hl 0 rfl) ?_
  refine va_get (D := D) (ci := 2) (v := .ref (q 1)) (C := RX2) (T := TX2) (N := 4) hx hb hts inX2_copyFrom_X2 hown hK hP 0 rfl rfl 0 (by decide) (hts (.fieldLink RX2 12 "OddNotice$State" "board" "LOddNotice$Board;") (List.mem_of_getElem? (i := 1) (by decide +kernel))) (fun _ h9 => h9) rfl dX2_copyFrom_1 ?_
  refine lv_aload_n hx hb dX2_copyFrom_4 rfl (lv_at hl 1 rfl) ?_
  refine va_get (D := D) (ci := 2) (v := .ref (qb 1)) (C := RX2) (T := TX2) (N := 4) hx hb hts inX2_copyFrom_X2 hown hK hP 19 rfl rfl 0 (by decide) (hts (.fieldLink RX2 12 "OddNotice$State" "board" "LOddNotice$Board;") (List.mem_of_getElem? (i := 1) (by decide +kernel))) (fun _ h9 => h9) rfl dX2_copyFrom_5 ?_
  refine o_wv (va_runV (As := [.ref (qb 1)]) (rest := []) ⟨hx, hb, hml, hown, hts⟩ (k_X0_copyFrom l D cI cR cS cL s.heap.size (fun k => q (k + 1)) u (fun k => qb (k + 1)) v ) (cwV 1 hts gX2_copyFrom_X0_copyFrom rfl rfl rfl (by decide +kernel) ⟨Nat.le_of_ble_eq_true rfl, Nat.le_of_ble_eq_true rfl⟩) (o_v (o_pB hK hN (hP.sub (ws' := (wB (fun k => q (k + 1)) cI u ++ wB (fun k => qb (k + 1)) cI v)) [2, 3, 4, 5, 6, 21, 22, 23, 24, 25] rfl) (hD.sub (ws' := (wB (fun k => q (k + 1)) cI u ++ wB (fun k => qb (k + 1)) cI v)) [2, 3, 4, 5, 6, 21, 22, 23, 24, 25] (by decide) rfl)) (va_recv hK hP (ci := 0) (q0 := 2) rfl rfl)) rfl rfl hl.1 rfl (lv_room (Nat.le_of_ble_eq_true rfl)) dX2_copyFrom_8 ⟨Nat.zero_le _, Nat.zero_le _⟩) hP hD hS hA [2, 3, 4, 5, 6, 21, 22, 23, 24, 25] (by decide) rfl (fun _ => rfl) (fun _ H locs e_1 hP hD hS => ?_)
  have hP : va_P D vwCl (wP q cI cR u v (fun k => u (k + 5)) (fun k => u (k + 8)) (fun k => u (k + 11)) (fun k => u (k + 14)) ++ wP qb cI cR v v (fun k => v (k + 5)) (fun k => v (k + 8)) (fun k => v (k + 11)) (fun k => v (k + 14))) H := hP
  have hD : va_D A (wP q cI cR u v (fun k => u (k + 5)) (fun k => u (k + 8)) (fun k => u (k + 11)) (fun k => u (k + 14)) ++ wP qb cI cR v v (fun k => v (k + 5)) (fun k => v (k + 8)) (fun k => v (k + 11)) (fun k => v (k + 14))) := hD
  refine o_const (k := 0) hx hb dX2_copyFrom_11 (by decide) ?_
  refine lv_istore_n (lv' := [(2, .int (nI 0)), (0, .ref (q 0)), (1, .ref (qb 0))]) hx hb dX2_copyFrom_12 rfl hl (by decide) rfl (fun ls hl => ?_)
  refine lv_iload_n hx hb dX2_copyFrom_13 rfl (lv_at hl 0 rfl) ?_
  refine o_const (k := 4) hx hb dX2_copyFrom_14 (by decide) ?_
  refine o_icmp_ge (tgt := 39) hx hb dX2_copyFrom_15 (by decide) (Nat.le_of_ble_eq_true rfl) (Nat.le_of_ble_eq_true rfl) (fun c0 => absurd c0 (by decide)) (fun _ => ?_)
  refine lv_aload_n hx hb dX2_copyFrom_18 rfl (lv_at hl 1 rfl) ?_
  refine va_get (D := D) (ci := 2) (v := .ref (q 6)) (C := RX2) (T := TX2) (N := 4) hx hb hts inX2_copyFrom_X2 hown hK hP 0 rfl rfl 1 (by decide) (hts (.fieldLink RX2 20 "OddNotice$State" "readers" "[LOddNotice$Reader;") (List.mem_of_getElem? (i := 2) (by decide +kernel))) (fun _ h9 => h9) rfl dX2_copyFrom_19 ?_
  refine lv_iload_n hx hb dX2_copyFrom_22 rfl (lv_at hl 0 rfl) ?_
  refine o_aldq (v := (q 7)) (C := "OddNotice$Reader") hx hb hK hP 1 1 rfl rfl (Nat.le_of_ble_eq_true rfl) (Nat.le_of_ble_eq_true rfl) rfl dX2_copyFrom_23 ?_
  refine lv_aload_n hx hb dX2_copyFrom_24 rfl (lv_at hl 2 rfl) ?_
  refine va_get (D := D) (ci := 2) (v := .ref (qb 6)) (C := RX2) (T := TX2) (N := 4) hx hb hts inX2_copyFrom_X2 hown hK hP 19 rfl rfl 1 (by decide) (hts (.fieldLink RX2 20 "OddNotice$State" "readers" "[LOddNotice$Reader;") (List.mem_of_getElem? (i := 2) (by decide +kernel))) (fun _ h9 => h9) rfl dX2_copyFrom_25 ?_
  refine lv_iload_n hx hb dX2_copyFrom_28 rfl (lv_at hl 0 rfl) ?_
  refine o_aldq (v := (qb 7)) (C := "OddNotice$Reader") hx hb hK hP 20 1 rfl rfl (Nat.le_of_ble_eq_true rfl) (Nat.le_of_ble_eq_true rfl) rfl dX2_copyFrom_29 ?_
  refine o_wv (va_runV (As := [.ref (qb 7)]) (rest := []) ⟨hx, hb, hml, hown, hts⟩ (k_X1_copyFrom l D cI cR cS cL H.size (fun k => q (k + 7)) (fun k => u (k + 5)) (fun k => qb (k + 7)) (fun k => v (k + 5)) (⟨j0.1, j0.2.1, j0.2.2.1⟩)) (cwV 1 hts gX2_copyFrom_X1_copyFrom rfl rfl rfl (by decide +kernel) ⟨Nat.le_of_ble_eq_true rfl, Nat.le_of_ble_eq_true rfl⟩) (o_v (o_pB hK hN (hP.sub (ws' := (wR (fun k => q (k + 7)) cI (fun k => u (k + 5)) ++ wR (fun k => qb (k + 7)) cI (fun k => v (k + 5)))) [7, 8, 9, 26, 27, 28] rfl) (hD.sub (ws' := (wR (fun k => q (k + 7)) cI (fun k => u (k + 5)) ++ wR (fun k => qb (k + 7)) cI (fun k => v (k + 5)))) [7, 8, 9, 26, 27, 28] (by decide) rfl)) (va_recv hK hP (ci := 1) (q0 := 7) rfl rfl)) rfl rfl hl.1 rfl (lv_room (Nat.le_of_ble_eq_true rfl)) dX2_copyFrom_30 ⟨Nat.zero_le _, Nat.zero_le _⟩) hP hD hS hA [7, 8, 9, 26, 27, 28] (by decide) rfl (fun _ => rfl) (fun _ H locs e_2 hP hD hS => ?_)
  have hP : va_P D vwCl (wP q cI cR u v (fun k => v (k + 5)) (fun k => u (k + 8)) (fun k => u (k + 11)) (fun k => u (k + 14)) ++ wP qb cI cR v v (fun k => v (k + 5)) (fun k => v (k + 8)) (fun k => v (k + 11)) (fun k => v (k + 14))) H := hP
  have hD : va_D A (wP q cI cR u v (fun k => v (k + 5)) (fun k => u (k + 8)) (fun k => u (k + 11)) (fun k => u (k + 14)) ++ wP qb cI cR v v (fun k => v (k + 5)) (fun k => v (k + 8)) (fun k => v (k + 11)) (fun k => v (k + 14))) := hD
  refine lv_iinc (v := nI 1) (lv' := [(2, .int (nI 1)), (0, .ref (q 0)), (1, .ref (qb 0))]) hx hb dX2_copyFrom_33 hl (k := 0) rfl (by decide) (by decide) rfl (fun ls hl => ?_)
  refine lv_goto (tgt := 13) hx hb dX2_copyFrom_36 (by decide) ?_
  refine lv_iload_n hx hb dX2_copyFrom_13 rfl (lv_at hl 0 rfl) ?_
  refine o_const (k := 4) hx hb dX2_copyFrom_14 (by decide) ?_
  refine o_icmp_ge (tgt := 39) hx hb dX2_copyFrom_15 (by decide) (Nat.le_of_ble_eq_true rfl) (Nat.le_of_ble_eq_true rfl) (fun c0 => absurd c0 (by decide)) (fun _ => ?_)
  refine lv_aload_n hx hb dX2_copyFrom_18 rfl (lv_at hl 1 rfl) ?_
  refine va_get (D := D) (ci := 2) (v := .ref (q 6)) (C := RX2) (T := TX2) (N := 4) hx hb hts inX2_copyFrom_X2 hown hK hP 0 rfl rfl 1 (by decide) (hts (.fieldLink RX2 20 "OddNotice$State" "readers" "[LOddNotice$Reader;") (List.mem_of_getElem? (i := 2) (by decide +kernel))) (fun _ h9 => h9) rfl dX2_copyFrom_19 ?_
  refine lv_iload_n hx hb dX2_copyFrom_22 rfl (lv_at hl 0 rfl) ?_
  refine o_aldq (v := (q 10)) (C := "OddNotice$Reader") hx hb hK hP 1 1 rfl rfl (Nat.le_of_ble_eq_true rfl) (Nat.le_of_ble_eq_true rfl) rfl dX2_copyFrom_23 ?_
  refine lv_aload_n hx hb dX2_copyFrom_24 rfl (lv_at hl 2 rfl) ?_
  refine va_get (D := D) (ci := 2) (v := .ref (qb 6)) (C := RX2) (T := TX2) (N := 4) hx hb hts inX2_copyFrom_X2 hown hK hP 19 rfl rfl 1 (by decide) (hts (.fieldLink RX2 20 "OddNotice$State" "readers" "[LOddNotice$Reader;") (List.mem_of_getElem? (i := 2) (by decide +kernel))) (fun _ h9 => h9) rfl dX2_copyFrom_25 ?_
  refine lv_iload_n hx hb dX2_copyFrom_28 rfl (lv_at hl 0 rfl) ?_
  refine o_aldq (v := (qb 10)) (C := "OddNotice$Reader") hx hb hK hP 20 1 rfl rfl (Nat.le_of_ble_eq_true rfl) (Nat.le_of_ble_eq_true rfl) rfl dX2_copyFrom_29 ?_
  refine o_wv (va_runV (As := [.ref (qb 10)]) (rest := []) ⟨hx, hb, hml, hown, hts⟩ (k_X1_copyFrom l D cI cR cS cL H.size (fun k => q (k + 10)) (fun k => u (k + 8)) (fun k => qb (k + 10)) (fun k => v (k + 8)) (⟨j1.1, j1.2.1, j1.2.2.1⟩)) (cwV 1 hts gX2_copyFrom_X1_copyFrom rfl rfl rfl (by decide +kernel) ⟨Nat.le_of_ble_eq_true rfl, Nat.le_of_ble_eq_true rfl⟩) (o_v (o_pB hK hN (hP.sub (ws' := (wR (fun k => q (k + 10)) cI (fun k => u (k + 8)) ++ wR (fun k => qb (k + 10)) cI (fun k => v (k + 8)))) [10, 11, 12, 29, 30, 31] rfl) (hD.sub (ws' := (wR (fun k => q (k + 10)) cI (fun k => u (k + 8)) ++ wR (fun k => qb (k + 10)) cI (fun k => v (k + 8)))) [10, 11, 12, 29, 30, 31] (by decide) rfl)) (va_recv hK hP (ci := 1) (q0 := 10) rfl rfl)) rfl rfl hl.1 rfl (lv_room (Nat.le_of_ble_eq_true rfl)) dX2_copyFrom_30 ⟨Nat.zero_le _, Nat.zero_le _⟩) hP hD hS hA [10, 11, 12, 29, 30, 31] (by decide) rfl (fun _ => rfl) (fun _ H locs e_3 hP hD hS => ?_)
  have hP : va_P D vwCl (wP q cI cR u v (fun k => v (k + 5)) (fun k => v (k + 8)) (fun k => u (k + 11)) (fun k => u (k + 14)) ++ wP qb cI cR v v (fun k => v (k + 5)) (fun k => v (k + 8)) (fun k => v (k + 11)) (fun k => v (k + 14))) H := hP
  have hD : va_D A (wP q cI cR u v (fun k => v (k + 5)) (fun k => v (k + 8)) (fun k => u (k + 11)) (fun k => u (k + 14)) ++ wP qb cI cR v v (fun k => v (k + 5)) (fun k => v (k + 8)) (fun k => v (k + 11)) (fun k => v (k + 14))) := hD
  refine lv_iinc (v := nI 2) (lv' := [(2, .int (nI 2)), (0, .ref (q 0)), (1, .ref (qb 0))]) hx hb dX2_copyFrom_33 hl (k := 0) rfl (by decide) (by decide) rfl (fun ls hl => ?_)
  refine lv_goto (tgt := 13) hx hb dX2_copyFrom_36 (by decide) ?_
  refine lv_iload_n hx hb dX2_copyFrom_13 rfl (lv_at hl 0 rfl) ?_
  refine o_const (k := 4) hx hb dX2_copyFrom_14 (by decide) ?_
  refine o_icmp_ge (tgt := 39) hx hb dX2_copyFrom_15 (by decide) (Nat.le_of_ble_eq_true rfl) (Nat.le_of_ble_eq_true rfl) (fun c0 => absurd c0 (by decide)) (fun _ => ?_)
  refine lv_aload_n hx hb dX2_copyFrom_18 rfl (lv_at hl 1 rfl) ?_
  refine va_get (D := D) (ci := 2) (v := .ref (q 6)) (C := RX2) (T := TX2) (N := 4) hx hb hts inX2_copyFrom_X2 hown hK hP 0 rfl rfl 1 (by decide) (hts (.fieldLink RX2 20 "OddNotice$State" "readers" "[LOddNotice$Reader;") (List.mem_of_getElem? (i := 2) (by decide +kernel))) (fun _ h9 => h9) rfl dX2_copyFrom_19 ?_
  refine lv_iload_n hx hb dX2_copyFrom_22 rfl (lv_at hl 0 rfl) ?_
  refine o_aldq (v := (q 13)) (C := "OddNotice$Reader") hx hb hK hP 1 1 rfl rfl (Nat.le_of_ble_eq_true rfl) (Nat.le_of_ble_eq_true rfl) rfl dX2_copyFrom_23 ?_
  refine lv_aload_n hx hb dX2_copyFrom_24 rfl (lv_at hl 2 rfl) ?_
  refine va_get (D := D) (ci := 2) (v := .ref (qb 6)) (C := RX2) (T := TX2) (N := 4) hx hb hts inX2_copyFrom_X2 hown hK hP 19 rfl rfl 1 (by decide) (hts (.fieldLink RX2 20 "OddNotice$State" "readers" "[LOddNotice$Reader;") (List.mem_of_getElem? (i := 2) (by decide +kernel))) (fun _ h9 => h9) rfl dX2_copyFrom_25 ?_
  refine lv_iload_n hx hb dX2_copyFrom_28 rfl (lv_at hl 0 rfl) ?_
  refine o_aldq (v := (qb 13)) (C := "OddNotice$Reader") hx hb hK hP 20 1 rfl rfl (Nat.le_of_ble_eq_true rfl) (Nat.le_of_ble_eq_true rfl) rfl dX2_copyFrom_29 ?_
  refine o_wv (va_runV (As := [.ref (qb 13)]) (rest := []) ⟨hx, hb, hml, hown, hts⟩ (k_X1_copyFrom l D cI cR cS cL H.size (fun k => q (k + 13)) (fun k => u (k + 11)) (fun k => qb (k + 13)) (fun k => v (k + 11)) (⟨j2.1, j2.2.1, j2.2.2.1⟩)) (cwV 1 hts gX2_copyFrom_X1_copyFrom rfl rfl rfl (by decide +kernel) ⟨Nat.le_of_ble_eq_true rfl, Nat.le_of_ble_eq_true rfl⟩) (o_v (o_pB hK hN (hP.sub (ws' := (wR (fun k => q (k + 13)) cI (fun k => u (k + 11)) ++ wR (fun k => qb (k + 13)) cI (fun k => v (k + 11)))) [13, 14, 15, 32, 33, 34] rfl) (hD.sub (ws' := (wR (fun k => q (k + 13)) cI (fun k => u (k + 11)) ++ wR (fun k => qb (k + 13)) cI (fun k => v (k + 11)))) [13, 14, 15, 32, 33, 34] (by decide) rfl)) (va_recv hK hP (ci := 1) (q0 := 13) rfl rfl)) rfl rfl hl.1 rfl (lv_room (Nat.le_of_ble_eq_true rfl)) dX2_copyFrom_30 ⟨Nat.zero_le _, Nat.zero_le _⟩) hP hD hS hA [13, 14, 15, 32, 33, 34] (by decide) rfl (fun _ => rfl) (fun _ H locs e_4 hP hD hS => ?_)
  have hP : va_P D vwCl (wP q cI cR u v (fun k => v (k + 5)) (fun k => v (k + 8)) (fun k => v (k + 11)) (fun k => u (k + 14)) ++ wP qb cI cR v v (fun k => v (k + 5)) (fun k => v (k + 8)) (fun k => v (k + 11)) (fun k => v (k + 14))) H := hP
  have hD : va_D A (wP q cI cR u v (fun k => v (k + 5)) (fun k => v (k + 8)) (fun k => v (k + 11)) (fun k => u (k + 14)) ++ wP qb cI cR v v (fun k => v (k + 5)) (fun k => v (k + 8)) (fun k => v (k + 11)) (fun k => v (k + 14))) := hD
  refine lv_iinc (v := nI 3) (lv' := [(2, .int (nI 3)), (0, .ref (q 0)), (1, .ref (qb 0))]) hx hb dX2_copyFrom_33 hl (k := 0) rfl (by decide) (by decide) rfl (fun ls hl => ?_)
  refine lv_goto (tgt := 13) hx hb dX2_copyFrom_36 (by decide) ?_
  refine lv_iload_n hx hb dX2_copyFrom_13 rfl (lv_at hl 0 rfl) ?_
  refine o_const (k := 4) hx hb dX2_copyFrom_14 (by decide) ?_
  refine o_icmp_ge (tgt := 39) hx hb dX2_copyFrom_15 (by decide) (Nat.le_of_ble_eq_true rfl) (Nat.le_of_ble_eq_true rfl) (fun c0 => absurd c0 (by decide)) (fun _ => ?_)
  refine lv_aload_n hx hb dX2_copyFrom_18 rfl (lv_at hl 1 rfl) ?_
  refine va_get (D := D) (ci := 2) (v := .ref (q 6)) (C := RX2) (T := TX2) (N := 4) hx hb hts inX2_copyFrom_X2 hown hK hP 0 rfl rfl 1 (by decide) (hts (.fieldLink RX2 20 "OddNotice$State" "readers" "[LOddNotice$Reader;") (List.mem_of_getElem? (i := 2) (by decide +kernel))) (fun _ h9 => h9) rfl dX2_copyFrom_19 ?_
  refine lv_iload_n hx hb dX2_copyFrom_22 rfl (lv_at hl 0 rfl) ?_
  refine o_aldq (v := (q 16)) (C := "OddNotice$Reader") hx hb hK hP 1 1 rfl rfl (Nat.le_of_ble_eq_true rfl) (Nat.le_of_ble_eq_true rfl) rfl dX2_copyFrom_23 ?_
  refine lv_aload_n hx hb dX2_copyFrom_24 rfl (lv_at hl 2 rfl) ?_
  refine va_get (D := D) (ci := 2) (v := .ref (qb 6)) (C := RX2) (T := TX2) (N := 4) hx hb hts inX2_copyFrom_X2 hown hK hP 19 rfl rfl 1 (by decide) (hts (.fieldLink RX2 20 "OddNotice$State" "readers" "[LOddNotice$Reader;") (List.mem_of_getElem? (i := 2) (by decide +kernel))) (fun _ h9 => h9) rfl dX2_copyFrom_25 ?_
  refine lv_iload_n hx hb dX2_copyFrom_28 rfl (lv_at hl 0 rfl) ?_
  refine o_aldq (v := (qb 16)) (C := "OddNotice$Reader") hx hb hK hP 20 1 rfl rfl (Nat.le_of_ble_eq_true rfl) (Nat.le_of_ble_eq_true rfl) rfl dX2_copyFrom_29 ?_
  refine o_wv (va_runV (As := [.ref (qb 16)]) (rest := []) ⟨hx, hb, hml, hown, hts⟩ (k_X1_copyFrom l D cI cR cS cL H.size (fun k => q (k + 16)) (fun k => u (k + 14)) (fun k => qb (k + 16)) (fun k => v (k + 14)) (⟨j3.1, j3.2.1, j3.2.2.1⟩)) (cwV 1 hts gX2_copyFrom_X1_copyFrom rfl rfl rfl (by decide +kernel) ⟨Nat.le_of_ble_eq_true rfl, Nat.le_of_ble_eq_true rfl⟩) (o_v (o_pB hK hN (hP.sub (ws' := (wR (fun k => q (k + 16)) cI (fun k => u (k + 14)) ++ wR (fun k => qb (k + 16)) cI (fun k => v (k + 14)))) [16, 17, 18, 35, 36, 37] rfl) (hD.sub (ws' := (wR (fun k => q (k + 16)) cI (fun k => u (k + 14)) ++ wR (fun k => qb (k + 16)) cI (fun k => v (k + 14)))) [16, 17, 18, 35, 36, 37] (by decide) rfl)) (va_recv hK hP (ci := 1) (q0 := 16) rfl rfl)) rfl rfl hl.1 rfl (lv_room (Nat.le_of_ble_eq_true rfl)) dX2_copyFrom_30 ⟨Nat.zero_le _, Nat.zero_le _⟩) hP hD hS hA [16, 17, 18, 35, 36, 37] (by decide) rfl (fun _ => rfl) (fun _ H locs e_5 hP hD hS => ?_)
  have hP : va_P D vwCl (wP q cI cR u v (fun k => v (k + 5)) (fun k => v (k + 8)) (fun k => v (k + 11)) (fun k => v (k + 14)) ++ wP qb cI cR v v (fun k => v (k + 5)) (fun k => v (k + 8)) (fun k => v (k + 11)) (fun k => v (k + 14))) H := hP
  have hD : va_D A (wP q cI cR u v (fun k => v (k + 5)) (fun k => v (k + 8)) (fun k => v (k + 11)) (fun k => v (k + 14)) ++ wP qb cI cR v v (fun k => v (k + 5)) (fun k => v (k + 8)) (fun k => v (k + 11)) (fun k => v (k + 14))) := hD
  refine lv_iinc (v := nI 4) (lv' := [(2, .int (nI 4)), (0, .ref (q 0)), (1, .ref (qb 0))]) hx hb dX2_copyFrom_33 hl (k := 0) rfl (by decide) (by decide) rfl (fun ls hl => ?_)
  refine lv_goto (tgt := 13) hx hb dX2_copyFrom_36 (by decide) ?_
  refine lv_iload_n hx hb dX2_copyFrom_13 rfl (lv_at hl 0 rfl) ?_
  refine o_const (k := 4) hx hb dX2_copyFrom_14 (by decide) ?_
  refine o_icmp_ge (tgt := 39) hx hb dX2_copyFrom_15 (by decide) (Nat.le_of_ble_eq_true rfl) (Nat.le_of_ble_eq_true rfl) (fun _ => ?_) (fun c0 => absurd c0 (by decide))
  refine lv_aload_n hx hb dX2_copyFrom_39 rfl (lv_at hl 1 rfl) ?_
  refine lv_aload_n hx hb dX2_copyFrom_40 rfl (lv_at hl 2 rfl) ?_
  refine va_get (D := D) (ci := 2) (v := .int (nI (v 0 1))) (C := RX2) (T := TX2) (N := 4) hx hb hts inX2_copyFrom_X2 hown hK hP 19 rfl rfl 2 (by decide) (hts (.fieldLink RX2 62 "OddNotice$State" "halves" "I") (List.mem_of_getElem? (i := 3) (by decide +kernel))) (fun _ h9 => h9) rfl dX2_copyFrom_41 ?_
  refine va_put (D := D) (ci := 2) (v := .int (nI (v 0 1))) (ty := .int) (C := RX2) (T := TX2) (N := 4) hx hb hts inX2_copyFrom_X2 tyX2 tyX2_ok nmX2 hown hK hP hD hS 0 rfl rfl 2 (by decide) (hts (.fieldLink RX2 62 "OddNotice$State" "halves" "I") (List.mem_of_getElem? (i := 3) (by decide +kernel))) (fun _ h9 => h9) rfl (by decide +kernel) rfl rfl (Nat.le_of_ble_eq_true rfl) dX2_copyFrom_44 (fun H locs hP hD hS => ?_)
  have hP : va_P D vwCl (wP q cI cR (va_up u 0 (va_up (u 0) 1 (v 0 1))) v (fun k => v (k + 5)) (fun k => v (k + 8)) (fun k => v (k + 11)) (fun k => v (k + 14)) ++ wP qb cI cR v v (fun k => v (k + 5)) (fun k => v (k + 8)) (fun k => v (k + 11)) (fun k => v (k + 14))) H := hP
  have hD : va_D A (wP q cI cR (va_up u 0 (va_up (u 0) 1 (v 0 1))) v (fun k => v (k + 5)) (fun k => v (k + 8)) (fun k => v (k + 11)) (fun k => v (k + 14)) ++ wP qb cI cR v v (fun k => v (k + 5)) (fun k => v (k + 8)) (fun k => v (k + 11)) (fun k => v (k + 14))) := hD
  refine lv_aload_n hx hb dX2_copyFrom_47 rfl (lv_at hl 1 rfl) ?_
  refine lv_aload_n hx hb dX2_copyFrom_48 rfl (lv_at hl 2 rfl) ?_
  refine va_get (D := D) (ci := 2) (v := .int (nI (v 0 2))) (C := RX2) (T := TX2) (N := 4) hx hb hts inX2_copyFrom_X2 hown hK hP 19 rfl rfl 3 (by decide) (hts (.fieldLink RX2 24 "OddNotice$State" "setting" "I") (List.mem_of_getElem? (i := 4) (by decide +kernel))) (fun _ h9 => h9) rfl dX2_copyFrom_49 ?_
  refine va_put (D := D) (ci := 2) (v := .int (nI (v 0 2))) (ty := .int) (C := RX2) (T := TX2) (N := 4) hx hb hts inX2_copyFrom_X2 tyX2 tyX2_ok nmX2 hown hK hP hD hS 0 rfl rfl 3 (by decide) (hts (.fieldLink RX2 24 "OddNotice$State" "setting" "I") (List.mem_of_getElem? (i := 4) (by decide +kernel))) (fun _ h9 => h9) rfl (by decide +kernel) rfl rfl (Nat.le_of_ble_eq_true rfl) dX2_copyFrom_52 (fun H locs hP hD hS => ?_)
  have hP : va_P D vwCl (wP q cI cR (va_up u 0 (va_up (va_up (u 0) 1 (v 0 1)) 2 (v 0 2))) v (fun k => v (k + 5)) (fun k => v (k + 8)) (fun k => v (k + 11)) (fun k => v (k + 14)) ++ wP qb cI cR v v (fun k => v (k + 5)) (fun k => v (k + 8)) (fun k => v (k + 11)) (fun k => v (k + 14))) H := hP
  have hD : va_D A (wP q cI cR (va_up u 0 (va_up (va_up (u 0) 1 (v 0 1)) 2 (v 0 2))) v (fun k => v (k + 5)) (fun k => v (k + 8)) (fun k => v (k + 11)) (fun k => v (k + 14)) ++ wP qb cI cR v v (fun k => v (k + 5)) (fun k => v (k + 8)) (fun k => v (k + 11)) (fun k => v (k + 14))) := hD
  have w_6 : (wS q cI cR v ++ wS qb cI cR v) = (wP q cI cR (va_up u 0 (va_up (va_up (u 0) 1 (v 0 1)) 2 (v 0 2))) v (fun k => v (k + 5)) (fun k => v (k + 8)) (fun k => v (k + 11)) (fun k => v (k + 14)) ++ wP qb cI cR v v (fun k => v (k + 5)) (fun k => v (k + 8)) (fun k => v (k + 11)) (fun k => v (k + 14))) := rfl
  rw [← w_6] at hP
  exact W.vret hx hb hrt (fun t ht hW => ⟨⟨(), rfl, trivial, by show va_P D vwCl _ t.heap; rw [ht]; exact hP⟩, hS.F ht⟩) hS.2.2 dX2_copyFrom_55
