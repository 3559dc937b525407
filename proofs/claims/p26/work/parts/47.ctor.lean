theorem inX0_init_X0 : ∀ w ∈ wsX00, w ∈ wsX0_init := by decide +kernel
set_option maxHeartbeats 8000000 in
set_option maxRecDepth 100000 in
theorem n_X0_init (l : Launch) (D : va_G) (cI cR cS cL : ClassId) (sz : Nat) (h : Nat) : Met l yX0_init wsX0_init ({ frames := 1, cells := 4, slots := 91, locals := 12 }) (va_Pc [.ref h] (o_J D (o_T cI cR cS cL) [(h, .inr (0, [.int (nI 0), .null, .null, .null, .null]))] sz)) (o_qJ D (h, .inr (0, [.int (nI 0), .null, .null, .null, .null])) sz (fun u => wB u cI b_0)) 4 91 (va_A [(h, .inr (0, [.int (nI 0), .null, .null, .null, .null]))] sz) := by
  refine Met.ofW (cc := cX0_init) (maxL := 2) (ret := none) (by decide) rfl ?_
  intro p e s m args below meth cd s₁ B hml hv
  obtain ⟨rfl, hsz, hP, hK, hD0, hN, hO⟩ := hv
  have hx := B.exec
  have hb := B.bytes
  have hrt := B.returns
  have hts := atoms_spec (ws := wsX0_init) B.pre
  have hown : s.vm.findClass RX0 = some m.cls := findClass_of_methodNamed B.named
  have hlocks := B.notSynchronized
  have hin : meth.name = "<init>" := (name_of_methodNamed B.named B.method).1
  subst hsz
  have hD := hD0.self (sz := s.heap.size)
  generalize hAe : va_A [(h, .inr (0, [.int (nI 0), .null, .null, .null, .null]))] s.heap.size = A at hD ⊢
  have hA : ∀ q : Nat, s.heap.size ≤ q → A q := fun q h => by rw [← hAe]; exact Or.inr h
  have hS : va_S A s.heap s.heap [] := va_S.rf
  have hl := lv_entry ([.ref h]) (n := 2) (Nat.le_of_ble_eq_true rfl)
  rw [lg_entry_eq]
  generalize (lg_sl ([.ref h]) ++ List.replicate (2 - (lg_sl ([.ref h])).length) Slot.unset).toArray = ls at hl ⊢
  have hl : lv_has ls 2 [(0, .ref h)] := hl
  refine lv_aload_n hx hb dX0_init_0 rfl (lv_at hl 0 rfl) ?_
  refine W.objInit hx hb hown (hts (.methodLink RX0 3 objectInit) (List.mem_of_getElem? (i := 1) (by decide +kernel))) (hts (.instanceMethod objectInit) (List.mem_of_getElem? (i := 2) (by decide +kernel))) (hts _ (List.mem_of_getElem? (i := 3) (by decide +kernel))) rfl (by rw [hml]; exact hl.1) rfl dX0_init_1 (Nat.le_of_ble_eq_true rfl) (Nat.le_of_ble_eq_true rfl) ?_
  refine W.eq (g2 := F0 m 4 ls []) rfl ?_
  refine lv_aload_n hx hb dX0_init_4 rfl (lv_at hl 0 rfl) ?_
  refine o_const (k := 5) hx hb dX0_init_5 (by decide) ?_
  refine va_newa (atype := .int) (ty := .int) (N' := 5) (a0 := (5, .inl (fun _ => nI 0))) hx hb (hts (.arrayClass .int) (List.mem_of_getElem? (i := 4) (by decide +kernel))) rfl hK hP hD hS hA (fun _ => rfl) (by decide) (by decide) (Nat.le_of_ble_eq_true rfl) (Nat.le_of_ble_eq_true rfl) (Nat.le_of_ble_eq_true rfl) dX0_init_6 (fun q1 cA H hKn hP hD hS => ?_)
  obtain rfl : cI = cA := (o_ty hKn (i := 4) (j := 0) rfl rfl).symm
  have hP : va_P D vwCl ([(h, .inr (0, [.int (nI 0), .null, .null, .null, .null]))] ++ [oa cI q1 5 (o_zf)]) H := hP
  have hD : va_D A ([(h, .inr (0, [.int (nI 0), .null, .null, .null, .null]))] ++ [oa cI q1 5 (o_zf)]) := hD
  refine W.widen (k := 1) (n := 5) (Nat.le_of_ble_eq_true rfl) (Nat.le_of_ble_eq_true rfl) ?_
  refine va_putF (D := D) (ci := 0) (v := .ref q1) (ty := .array .int) (C := RX0) (T := TX0) (N := 5) hx hb hts inX0_init_X0 tyX0 tyX0_ok nmX0 hown hK hP hD hS 0 rfl rfl 1 (by decide) (hts (.fieldLink RX0 9 "OddNotice$Board" "fields" "[I") (List.mem_of_getElem? (i := 5) (by decide +kernel))) (fun _ h9 => h9) rfl hin rfl (by decide +kernel) rfl rfl (Nat.le_of_ble_eq_true rfl) dX0_init_8 (fun H locs hP hD hS => ?_)
  have hP : va_P D vwCl ([(h, .inr (0, [.int (nI 0), .ref q1, .null, .null, .null]))] ++ [oa cI q1 5 (o_zf)]) H := hP
  have hD : va_D A ([(h, .inr (0, [.int (nI 0), .ref q1, .null, .null, .null]))] ++ [oa cI q1 5 (o_zf)]) := hD
  refine lv_aload_n hx hb dX0_init_11 rfl (lv_at hl 0 rfl) ?_
  refine o_const (k := 3) hx hb dX0_init_12 (by decide) ?_
  refine va_newa (atype := .int) (ty := .int) (N' := 3) (a0 := (3, .inl (fun _ => nI 0))) hx hb (hts (.arrayClass .int) (List.mem_of_getElem? (i := 4) (by decide +kernel))) rfl hK hP hD hS hA (fun _ => rfl) (by decide) (by decide) (Nat.le_of_ble_eq_true rfl) (Nat.le_of_ble_eq_true rfl) (Nat.le_of_ble_eq_true rfl) dX0_init_13 (fun q2 cA H hKn hP hD hS => ?_)
  obtain rfl : cI = cA := (o_ty hKn (i := 4) (j := 0) rfl rfl).symm
  have hP : va_P D vwCl (([(h, .inr (0, [.int (nI 0), .ref q1, .null, .null, .null]))] ++ [oa cI q1 5 (o_zf)]) ++ [oa cI q2 3 (o_zf)]) H := hP
  have hD : va_D A (([(h, .inr (0, [.int (nI 0), .ref q1, .null, .null, .null]))] ++ [oa cI q1 5 (o_zf)]) ++ [oa cI q2 3 (o_zf)]) := hD
  refine W.widen (k := 2) (n := 8) (Nat.le_of_ble_eq_true rfl) (Nat.le_of_ble_eq_true rfl) ?_
  refine va_putF (D := D) (ci := 0) (v := .ref q2) (ty := .array .int) (C := RX0) (T := TX0) (N := 5) hx hb hts inX0_init_X0 tyX0 tyX0_ok nmX0 hown hK hP hD hS 0 rfl rfl 2 (by decide) (hts (.fieldLink RX0 15 "OddNotice$Board" "timesDone" "[I") (List.mem_of_getElem? (i := 6) (by decide +kernel))) (fun _ h9 => h9) rfl hin rfl (by decide +kernel) rfl rfl (Nat.le_of_ble_eq_true rfl) dX0_init_15 (fun H locs hP hD hS => ?_)
  have hP : va_P D vwCl (([(h, .inr (0, [.int (nI 0), .ref q1, .ref q2, .null, .null]))] ++ [oa cI q1 5 (o_zf)]) ++ [oa cI q2 3 (o_zf)]) H := hP
  have hD : va_D A (([(h, .inr (0, [.int (nI 0), .ref q1, .ref q2, .null, .null]))] ++ [oa cI q1 5 (o_zf)]) ++ [oa cI q2 3 (o_zf)]) := hD
  refine lv_aload_n hx hb dX0_init_18 rfl (lv_at hl 0 rfl) ?_
  refine o_const (k := 3) hx hb dX0_init_19 (by decide) ?_
  refine va_newa (atype := .int) (ty := .int) (N' := 3) (a0 := (3, .inl (fun _ => nI 0))) hx hb (hts (.arrayClass .int) (List.mem_of_getElem? (i := 4) (by decide +kernel))) rfl hK hP hD hS hA (fun _ => rfl) (by decide) (by decide) (Nat.le_of_ble_eq_true rfl) (Nat.le_of_ble_eq_true rfl) (Nat.le_of_ble_eq_true rfl) dX0_init_20 (fun q3 cA H hKn hP hD hS => ?_)
  obtain rfl : cI = cA := (o_ty hKn (i := 4) (j := 0) rfl rfl).symm
  have hP : va_P D vwCl ((([(h, .inr (0, [.int (nI 0), .ref q1, .ref q2, .null, .null]))] ++ [oa cI q1 5 (o_zf)]) ++ [oa cI q2 3 (o_zf)]) ++ [oa cI q3 3 (o_zf)]) H := hP
  have hD : va_D A ((([(h, .inr (0, [.int (nI 0), .ref q1, .ref q2, .null, .null]))] ++ [oa cI q1 5 (o_zf)]) ++ [oa cI q2 3 (o_zf)]) ++ [oa cI q3 3 (o_zf)]) := hD
  refine W.widen (k := 3) (n := 11) (Nat.le_of_ble_eq_true rfl) (Nat.le_of_ble_eq_true rfl) ?_
  refine va_putF (D := D) (ci := 0) (v := .ref q3) (ty := .array .int) (C := RX0) (T := TX0) (N := 5) hx hb hts inX0_init_X0 tyX0 tyX0_ok nmX0 hown hK hP hD hS 0 rfl rfl 3 (by decide) (hts (.fieldLink RX0 18 "OddNotice$Board" "place" "[I") (List.mem_of_getElem? (i := 7) (by decide +kernel))) (fun _ h9 => h9) rfl hin rfl (by decide +kernel) rfl rfl (Nat.le_of_ble_eq_true rfl) dX0_init_22 (fun H locs hP hD hS => ?_)
  have hP : va_P D vwCl ((([(h, .inr (0, [.int (nI 0), .ref q1, .ref q2, .ref q3, .null]))] ++ [oa cI q1 5 (o_zf)]) ++ [oa cI q2 3 (o_zf)]) ++ [oa cI q3 3 (o_zf)]) H := hP
  have hD : va_D A ((([(h, .inr (0, [.int (nI 0), .ref q1, .ref q2, .ref q3, .null]))] ++ [oa cI q1 5 (o_zf)]) ++ [oa cI q2 3 (o_zf)]) ++ [oa cI q3 3 (o_zf)]) := hD
  refine lv_aload_n hx hb dX0_init_25 rfl (lv_at hl 0 rfl) ?_
  refine o_bipush (k := 80) hx hb dX0_init_26 (by decide) ?_
  refine va_newa (atype := .int) (ty := .int) (N' := 80) (a0 := (80, .inl (fun _ => nI 0))) hx hb (hts (.arrayClass .int) (List.mem_of_getElem? (i := 4) (by decide +kernel))) rfl hK hP hD hS hA (fun _ => rfl) (by decide) (by decide) (Nat.le_of_ble_eq_true rfl) (Nat.le_of_ble_eq_true rfl) (Nat.le_of_ble_eq_true rfl) dX0_init_28 (fun q4 cA H hKn hP hD hS => ?_)
  obtain rfl : cI = cA := (o_ty hKn (i := 4) (j := 0) rfl rfl).symm
  have hP : va_P D vwCl (((([(h, .inr (0, [.int (nI 0), .ref q1, .ref q2, .ref q3, .null]))] ++ [oa cI q1 5 (o_zf)]) ++ [oa cI q2 3 (o_zf)]) ++ [oa cI q3 3 (o_zf)]) ++ [oa cI q4 80 (o_zf)]) H := hP
  have hD : va_D A (((([(h, .inr (0, [.int (nI 0), .ref q1, .ref q2, .ref q3, .null]))] ++ [oa cI q1 5 (o_zf)]) ++ [oa cI q2 3 (o_zf)]) ++ [oa cI q3 3 (o_zf)]) ++ [oa cI q4 80 (o_zf)]) := hD
  refine W.widen (k := 4) (n := 91) (Nat.le_of_ble_eq_true rfl) (Nat.le_of_ble_eq_true rfl) ?_
  refine va_putF (D := D) (ci := 0) (v := .ref q4) (ty := .array .int) (C := RX0) (T := TX0) (N := 5) hx hb hts inX0_init_X0 tyX0 tyX0_ok nmX0 hown hK hP hD hS 0 rfl rfl 4 (by decide) (hts (.fieldLink RX0 21 "OddNotice$Board" "kept" "[I") (List.mem_of_getElem? (i := 8) (by decide +kernel))) (fun _ h9 => h9) rfl hin rfl (by decide +kernel) rfl rfl (Nat.le_of_ble_eq_true rfl) dX0_init_30 (fun H locs hP hD hS => ?_)
  have hP : va_P D vwCl (((([(h, .inr (0, [.int (nI 0), .ref q1, .ref q2, .ref q3, .ref q4]))] ++ [oa cI q1 5 (o_zf)]) ++ [oa cI q2 3 (o_zf)]) ++ [oa cI q3 3 (o_zf)]) ++ [oa cI q4 80 (o_zf)]) H := hP
  have hD : va_D A (((([(h, .inr (0, [.int (nI 0), .ref q1, .ref q2, .ref q3, .ref q4]))] ++ [oa cI q1 5 (o_zf)]) ++ [oa cI q2 3 (o_zf)]) ++ [oa cI q3 3 (o_zf)]) ++ [oa cI q4 80 (o_zf)]) := hD
  refine o_const (k := 0) hx hb dX0_init_33 (by decide) ?_
  refine lv_istore_n (lv' := [(1, .int (nI 0)), (0, .ref h)]) hx hb dX0_init_34 rfl hl (by decide) rfl (fun ls hl => ?_)
  refine lv_iload_n hx hb dX0_init_35 rfl (lv_at hl 0 rfl) ?_
  refine o_const (k := 3) hx hb dX0_init_36 (by decide) ?_
  refine o_icmp_ge (tgt := 53) hx hb dX0_init_37 (by decide) (Nat.le_of_ble_eq_true rfl) (Nat.le_of_ble_eq_true rfl) (fun c0 => absurd c0 (by decide)) (fun _ => ?_)
  refine lv_aload_n hx hb dX0_init_40 rfl (lv_at hl 1 rfl) ?_
  refine va_get (D := D) (ci := 0) (v := .ref q3) (C := RX0) (T := TX0) (N := 5) hx hb hts inX0_init_X0 hown hK hP 0 rfl rfl 3 (by decide) (hts (.fieldLink RX0 18 "OddNotice$Board" "place" "[I") (List.mem_of_getElem? (i := 7) (by decide +kernel))) (fun _ h9 => h9) rfl dX0_init_41 ?_
  refine lv_iload_n hx hb dX0_init_44 rfl (lv_at hl 0 rfl) ?_
  refine o_const (k := 4294967295) hx hb dX0_init_45 (by decide) ?_
  refine o_iast (g := o_zf) hx hb hK hP hD hS 3 0 rfl rfl (Nat.le_of_ble_eq_true rfl) (Nat.le_of_ble_eq_true rfl) dX0_init_46 (fun H locs hP hD hS => ?_)
  have hP : va_P D vwCl (((([(h, .inr (0, [.int (nI 0), .ref q1, .ref q2, .ref q3, .ref q4]))] ++ [oa cI q1 5 (o_zf)]) ++ [oa cI q2 3 (o_zf)]) ++ [oa cI q3 3 (va_up o_zf 0 4294967295)]) ++ [oa cI q4 80 (o_zf)]) H := hP
  have hD : va_D A (((([(h, .inr (0, [.int (nI 0), .ref q1, .ref q2, .ref q3, .ref q4]))] ++ [oa cI q1 5 (o_zf)]) ++ [oa cI q2 3 (o_zf)]) ++ [oa cI q3 3 (va_up o_zf 0 4294967295)]) ++ [oa cI q4 80 (o_zf)]) := hD
  refine lv_iinc (v := nI 1) (lv' := [(1, .int (nI 1)), (0, .ref h)]) hx hb dX0_init_47 hl (k := 0) rfl (by decide) (by decide) rfl (fun ls hl => ?_)
  refine lv_goto (tgt := 35) hx hb dX0_init_50 (by decide) ?_
  refine lv_iload_n hx hb dX0_init_35 rfl (lv_at hl 0 rfl) ?_
  refine o_const (k := 3) hx hb dX0_init_36 (by decide) ?_
  refine o_icmp_ge (tgt := 53) hx hb dX0_init_37 (by decide) (Nat.le_of_ble_eq_true rfl) (Nat.le_of_ble_eq_true rfl) (fun c0 => absurd c0 (by decide)) (fun _ => ?_)
  refine lv_aload_n hx hb dX0_init_40 rfl (lv_at hl 1 rfl) ?_
  refine va_get (D := D) (ci := 0) (v := .ref q3) (C := RX0) (T := TX0) (N := 5) hx hb hts inX0_init_X0 hown hK hP 0 rfl rfl 3 (by decide) (hts (.fieldLink RX0 18 "OddNotice$Board" "place" "[I") (List.mem_of_getElem? (i := 7) (by decide +kernel))) (fun _ h9 => h9) rfl dX0_init_41 ?_
  refine lv_iload_n hx hb dX0_init_44 rfl (lv_at hl 0 rfl) ?_
  refine o_const (k := 4294967295) hx hb dX0_init_45 (by decide) ?_
  refine o_iast (g := va_up o_zf 0 4294967295) hx hb hK hP hD hS 3 0 rfl rfl (Nat.le_of_ble_eq_true rfl) (Nat.le_of_ble_eq_true rfl) dX0_init_46 (fun H locs hP hD hS => ?_)
  have hP : va_P D vwCl (((([(h, .inr (0, [.int (nI 0), .ref q1, .ref q2, .ref q3, .ref q4]))] ++ [oa cI q1 5 (o_zf)]) ++ [oa cI q2 3 (o_zf)]) ++ [oa cI q3 3 (va_up (va_up o_zf 0 4294967295) 1 4294967295)]) ++ [oa cI q4 80 (o_zf)]) H := hP
  have hD : va_D A (((([(h, .inr (0, [.int (nI 0), .ref q1, .ref q2, .ref q3, .ref q4]))] ++ [oa cI q1 5 (o_zf)]) ++ [oa cI q2 3 (o_zf)]) ++ [oa cI q3 3 (va_up (va_up o_zf 0 4294967295) 1 4294967295)]) ++ [oa cI q4 80 (o_zf)]) := hD
  refine lv_iinc (v := nI 2) (lv' := [(1, .int (nI 2)), (0, .ref h)]) hx hb dX0_init_47 hl (k := 0) rfl (by decide) (by decide) rfl (fun ls hl => ?_)
  refine lv_goto (tgt := 35) hx hb dX0_init_50 (by decide) ?_
  refine lv_iload_n hx hb dX0_init_35 rfl (lv_at hl 0 rfl) ?_
  refine o_const (k := 3) hx hb dX0_init_36 (by decide) ?_
  refine o_icmp_ge (tgt := 53) hx hb dX0_init_37 (by decide) (Nat.le_of_ble_eq_true rfl) (Nat.le_of_ble_eq_true rfl) (fun c0 => absurd c0 (by decide)) (fun _ => ?_)
  refine lv_aload_n hx hb dX0_init_40 rfl (lv_at hl 1 rfl) ?_
  refine va_get (D := D) (ci := 0) (v := .ref q3) (C := RX0) (T := TX0) (N := 5) hx hb hts inX0_init_X0 hown hK hP 0 rfl rfl 3 (by decide) (hts (.fieldLink RX0 18 "OddNotice$Board" "place" "[I") (List.mem_of_getElem? (i := 7) (by decide +kernel))) (fun _ h9 => h9) rfl dX0_init_41 ?_
  refine lv_iload_n hx hb dX0_init_44 rfl (lv_at hl 0 rfl) ?_
  refine o_const (k := 4294967295) hx hb dX0_init_45 (by decide) ?_
  refine o_iast (g := va_up (va_up o_zf 0 4294967295) 1 4294967295) hx hb hK hP hD hS 3 0 rfl rfl (Nat.le_of_ble_eq_true rfl) (Nat.le_of_ble_eq_true rfl) dX0_init_46 (fun H locs hP hD hS => ?_)
  have hP : va_P D vwCl (((([(h, .inr (0, [.int (nI 0), .ref q1, .ref q2, .ref q3, .ref q4]))] ++ [oa cI q1 5 (o_zf)]) ++ [oa cI q2 3 (o_zf)]) ++ [oa cI q3 3 (va_up (va_up (va_up o_zf 0 4294967295) 1 4294967295) 2 4294967295)]) ++ [oa cI q4 80 (o_zf)]) H := hP
  have hD : va_D A (((([(h, .inr (0, [.int (nI 0), .ref q1, .ref q2, .ref q3, .ref q4]))] ++ [oa cI q1 5 (o_zf)]) ++ [oa cI q2 3 (o_zf)]) ++ [oa cI q3 3 (va_up (va_up (va_up o_zf 0 4294967295) 1 4294967295) 2 4294967295)]) ++ [oa cI q4 80 (o_zf)]) := hD
  refine lv_iinc (v := nI 3) (lv' := [(1, .int (nI 3)), (0, .ref h)]) hx hb dX0_init_47 hl (k := 0) rfl (by decide) (by decide) rfl (fun ls hl => ?_)
  refine lv_goto (tgt := 35) hx hb dX0_init_50 (by decide) ?_
  refine lv_iload_n hx hb dX0_init_35 rfl (lv_at hl 0 rfl) ?_
  refine o_const (k := 3) hx hb dX0_init_36 (by decide) ?_
  refine o_icmp_ge (tgt := 53) hx hb dX0_init_37 (by decide) (Nat.le_of_ble_eq_true rfl) (Nat.le_of_ble_eq_true rfl) (fun _ => ?_) (fun c0 => absurd c0 (by decide))
  have hP9 := hP.sub (ws' := wB (o_ql [h, q1, q2, q3, q4]) cI b_0) [0, 1, 2, 3, 4] rfl
  have hD9 := hD.sub (ws' := wB (o_ql [h, q1, q2, q3, q4]) cI b_0) [0, 1, 2, 3, 4] (by decide +kernel) rfl
  exact W.vret hx hb hrt (fun t ht hW => ⟨⟨(o_ql [h, q1, q2, q3, q4]), rfl, rfl, by rw [ht]; exact hP9, by rw [hAe]; exact hD9⟩, by rw [hAe]; exact hS.F ht⟩) hS.2.2 dX0_init_53
theorem inX1_init_X1 : ∀ w ∈ wsX10, w ∈ wsX1_init := by decide +kernel
set_option maxHeartbeats 8000000 in
set_option maxRecDepth 100000 in
theorem n_X1_init (l : Launch) (D : va_G) (cI cR cS cL : ClassId) (sz : Nat) (h : Nat) : Met l yX1_init wsX1_init ({ frames := 1, cells := 2, slots := 10, locals := 12 }) (va_Pc [.ref h] (o_J D (o_T cI cR cS cL) [(h, .inr (1, [.int (nI 0), .int (nI 0), .int (nI 0), .int (nI 0), .int (nI 0), .int (nI 0), .int (nI 0), .int (nI 0), .null, .null]))] sz)) (o_qJ D (h, .inr (1, [.int (nI 0), .int (nI 0), .int (nI 0), .int (nI 0), .int (nI 0), .int (nI 0), .int (nI 0), .int (nI 0), .null, .null])) sz (fun u => wR u cI r_0)) 2 10 (va_A [(h, .inr (1, [.int (nI 0), .int (nI 0), .int (nI 0), .int (nI 0), .int (nI 0), .int (nI 0), .int (nI 0), .int (nI 0), .null, .null]))] sz) := by
  refine Met.ofW (cc := cX1_init) (maxL := 1) (ret := none) (by decide) rfl ?_
  intro p e s m args below meth cd s₁ B hml hv
  obtain ⟨rfl, hsz, hP, hK, hD0, hN, hO⟩ := hv
  have hx := B.exec
  have hb := B.bytes
  have hrt := B.returns
  have hts := atoms_spec (ws := wsX1_init) B.pre
  have hown : s.vm.findClass RX1 = some m.cls := findClass_of_methodNamed B.named
  have hlocks := B.notSynchronized
  have hin : meth.name = "<init>" := (name_of_methodNamed B.named B.method).1
  subst hsz
  have hD := hD0.self (sz := s.heap.size)
  generalize hAe : va_A [(h, .inr (1, [.int (nI 0), .int (nI 0), .int (nI 0), .int (nI 0), .int (nI 0), .int (nI 0), .int (nI 0), .int (nI 0), .null, .null]))] s.heap.size = A at hD ⊢
  have hA : ∀ q : Nat, s.heap.size ≤ q → A q := fun q h => by rw [← hAe]; exact Or.inr h
  have hS : va_S A s.heap s.heap [] := va_S.rf
  have hl := lv_entry ([.ref h]) (n := 1) (Nat.le_of_ble_eq_true rfl)
  rw [lg_entry_eq]
  generalize (lg_sl ([.ref h]) ++ List.replicate (1 - (lg_sl ([.ref h])).length) Slot.unset).toArray = ls at hl ⊢
  have hl : lv_has ls 1 [(0, .ref h)] := hl
  refine lv_aload_n hx hb dX1_init_0 rfl (lv_at hl 0 rfl) ?_
  refine W.objInit hx hb hown (hts (.methodLink RX1 3 objectInit) (List.mem_of_getElem? (i := 1) (by decide +kernel))) (hts (.instanceMethod objectInit) (List.mem_of_getElem? (i := 2) (by decide +kernel))) (hts _ (List.mem_of_getElem? (i := 3) (by decide +kernel))) rfl (by rw [hml]; exact hl.1) rfl dX1_init_1 (Nat.le_of_ble_eq_true rfl) (Nat.le_of_ble_eq_true rfl) ?_
  refine W.eq (g2 := F0 m 4 ls []) rfl ?_
  refine lv_aload_n hx hb dX1_init_4 rfl (lv_at hl 0 rfl) ?_
  refine o_const (k := 1) hx hb dX1_init_5 (by decide) ?_
  refine va_put (D := D) (ci := 1) (v := .int (nI 1)) (ty := .boolean) (C := RX1) (T := TX1) (N := 10) hx hb hts inX1_init_X1 tyX1 tyX1_ok nmX1 hown hK hP hD hS 0 rfl rfl 0 (by decide) (hts (.fieldLink RX1 9 "OddNotice$Reader" "heeds" "Z") (List.mem_of_getElem? (i := 4) (by decide +kernel))) (fun _ h9 => h9) rfl (by decide +kernel) rfl rfl (Nat.le_of_ble_eq_true rfl) dX1_init_6 (fun H locs hP hD hS => ?_)
  have hP : va_P D vwCl [(h, .inr (1, [.int (nI 1), .int (nI 0), .int (nI 0), .int (nI 0), .int (nI 0), .int (nI 0), .int (nI 0), .int (nI 0), .null, .null]))] H := hP
  have hD : va_D A [(h, .inr (1, [.int (nI 1), .int (nI 0), .int (nI 0), .int (nI 0), .int (nI 0), .int (nI 0), .int (nI 0), .int (nI 0), .null, .null]))] := hD
  refine lv_aload_n hx hb dX1_init_9 rfl (lv_at hl 0 rfl) ?_
  refine o_const (k := 5) hx hb dX1_init_10 (by decide) ?_
  refine va_newa (atype := .int) (ty := .int) (N' := 5) (a0 := (5, .inl (fun _ => nI 0))) hx hb (hts (.arrayClass .int) (List.mem_of_getElem? (i := 5) (by decide +kernel))) rfl hK hP hD hS hA (fun _ => rfl) (by decide) (by decide) (Nat.le_of_ble_eq_true rfl) (Nat.le_of_ble_eq_true rfl) (Nat.le_of_ble_eq_true rfl) dX1_init_11 (fun q1 cA H hKn hP hD hS => ?_)
  obtain rfl : cI = cA := (o_ty hKn (i := 4) (j := 0) rfl rfl).symm
  have hP : va_P D vwCl ([(h, .inr (1, [.int (nI 1), .int (nI 0), .int (nI 0), .int (nI 0), .int (nI 0), .int (nI 0), .int (nI 0), .int (nI 0), .null, .null]))] ++ [oa cI q1 5 (o_zf)]) H := hP
  have hD : va_D A ([(h, .inr (1, [.int (nI 1), .int (nI 0), .int (nI 0), .int (nI 0), .int (nI 0), .int (nI 0), .int (nI 0), .int (nI 0), .null, .null]))] ++ [oa cI q1 5 (o_zf)]) := hD
  refine W.widen (k := 1) (n := 5) (Nat.le_of_ble_eq_true rfl) (Nat.le_of_ble_eq_true rfl) ?_
  refine va_putF (D := D) (ci := 1) (v := .ref q1) (ty := .array .int) (C := RX1) (T := TX1) (N := 10) hx hb hts inX1_init_X1 tyX1 tyX1_ok nmX1 hown hK hP hD hS 0 rfl rfl 8 (by decide) (hts (.fieldLink RX1 15 "OddNotice$Reader" "held" "[I") (List.mem_of_getElem? (i := 6) (by decide +kernel))) (fun _ h9 => h9) rfl hin rfl (by decide +kernel) rfl rfl (Nat.le_of_ble_eq_true rfl) dX1_init_13 (fun H locs hP hD hS => ?_)
  have hP : va_P D vwCl ([(h, .inr (1, [.int (nI 1), .int (nI 0), .int (nI 0), .int (nI 0), .int (nI 0), .int (nI 0), .int (nI 0), .int (nI 0), .ref q1, .null]))] ++ [oa cI q1 5 (o_zf)]) H := hP
  have hD : va_D A ([(h, .inr (1, [.int (nI 1), .int (nI 0), .int (nI 0), .int (nI 0), .int (nI 0), .int (nI 0), .int (nI 0), .int (nI 0), .ref q1, .null]))] ++ [oa cI q1 5 (o_zf)]) := hD
  refine lv_aload_n hx hb dX1_init_16 rfl (lv_at hl 0 rfl) ?_
  refine o_const (k := 5) hx hb dX1_init_17 (by decide) ?_
  refine va_newa (atype := .int) (ty := .int) (N' := 5) (a0 := (5, .inl (fun _ => nI 0))) hx hb (hts (.arrayClass .int) (List.mem_of_getElem? (i := 5) (by decide +kernel))) rfl hK hP hD hS hA (fun _ => rfl) (by decide) (by decide) (Nat.le_of_ble_eq_true rfl) (Nat.le_of_ble_eq_true rfl) (Nat.le_of_ble_eq_true rfl) dX1_init_18 (fun q2 cA H hKn hP hD hS => ?_)
  obtain rfl : cI = cA := (o_ty hKn (i := 4) (j := 0) rfl rfl).symm
  have hP : va_P D vwCl (([(h, .inr (1, [.int (nI 1), .int (nI 0), .int (nI 0), .int (nI 0), .int (nI 0), .int (nI 0), .int (nI 0), .int (nI 0), .ref q1, .null]))] ++ [oa cI q1 5 (o_zf)]) ++ [oa cI q2 5 (o_zf)]) H := hP
  have hD : va_D A (([(h, .inr (1, [.int (nI 1), .int (nI 0), .int (nI 0), .int (nI 0), .int (nI 0), .int (nI 0), .int (nI 0), .int (nI 0), .ref q1, .null]))] ++ [oa cI q1 5 (o_zf)]) ++ [oa cI q2 5 (o_zf)]) := hD
  refine W.widen (k := 2) (n := 10) (Nat.le_of_ble_eq_true rfl) (Nat.le_of_ble_eq_true rfl) ?_
  refine va_putF (D := D) (ci := 1) (v := .ref q2) (ty := .array .int) (C := RX1) (T := TX1) (N := 10) hx hb hts inX1_init_X1 tyX1 tyX1_ok nmX1 hown hK hP hD hS 0 rfl rfl 9 (by decide) (hts (.fieldLink RX1 19 "OddNotice$Reader" "values" "[I") (List.mem_of_getElem? (i := 7) (by decide +kernel))) (fun _ h9 => h9) rfl hin rfl (by decide +kernel) rfl rfl (Nat.le_of_ble_eq_true rfl) dX1_init_20 (fun H locs hP hD hS => ?_)
  have hP : va_P D vwCl (([(h, .inr (1, [.int (nI 1), .int (nI 0), .int (nI 0), .int (nI 0), .int (nI 0), .int (nI 0), .int (nI 0), .int (nI 0), .ref q1, .ref q2]))] ++ [oa cI q1 5 (o_zf)]) ++ [oa cI q2 5 (o_zf)]) H := hP
  have hD : va_D A (([(h, .inr (1, [.int (nI 1), .int (nI 0), .int (nI 0), .int (nI 0), .int (nI 0), .int (nI 0), .int (nI 0), .int (nI 0), .ref q1, .ref q2]))] ++ [oa cI q1 5 (o_zf)]) ++ [oa cI q2 5 (o_zf)]) := hD
  have hP9 := hP.sub (ws' := wR (o_ql [h, q1, q2]) cI r_0) [0, 1, 2] rfl
  have hD9 := hD.sub (ws' := wR (o_ql [h, q1, q2]) cI r_0) [0, 1, 2] (by decide +kernel) rfl
  exact W.vret hx hb hrt (fun t ht hW => ⟨⟨(o_ql [h, q1, q2]), rfl, rfl, by rw [ht]; exact hP9, by rw [hAe]; exact hD9⟩, by rw [hAe]; exact hS.F ht⟩) hS.2.2 dX1_init_23
theorem inX3_init_X3 : ∀ w ∈ wsX30, w ∈ wsX3_init := by decide +kernel
set_option maxHeartbeats 8000000 in
set_option maxRecDepth 100000 in
theorem n_X3_init (l : Launch) (D : va_G) (cI cR cS cL : ClassId) (sz : Nat) (h : Nat) : Met l yX3_init wsX3_init ({ frames := 1, cells := 1, slots := 60, locals := 12 }) (va_Pc [.ref h] (o_J D (o_T cI cR cS cL) [(h, .inr (3, [.int (nI 0), .int (nI 0), .int (nI 0), .null]))] sz)) (o_qJ D (h, .inr (3, [.int (nI 0), .int (nI 0), .int (nI 0), .null])) sz (fun u => wT u cI x_0)) 1 60 (va_A [(h, .inr (3, [.int (nI 0), .int (nI 0), .int (nI 0), .null]))] sz) := by
  refine Met.ofW (cc := cX3_init) (maxL := 1) (ret := none) (by decide) rfl ?_
  intro p e s m args below meth cd s₁ B hml hv
  obtain ⟨rfl, hsz, hP, hK, hD0, hN, hO⟩ := hv
  have hx := B.exec
  have hb := B.bytes
  have hrt := B.returns
  have hts := atoms_spec (ws := wsX3_init) B.pre
  have hown : s.vm.findClass RX3 = some m.cls := findClass_of_methodNamed B.named
  have hlocks := B.notSynchronized
  have hin : meth.name = "<init>" := (name_of_methodNamed B.named B.method).1
  subst hsz
  have hD := hD0.self (sz := s.heap.size)
  generalize hAe : va_A [(h, .inr (3, [.int (nI 0), .int (nI 0), .int (nI 0), .null]))] s.heap.size = A at hD ⊢
  have hA : ∀ q : Nat, s.heap.size ≤ q → A q := fun q h => by rw [← hAe]; exact Or.inr h
  have hS : va_S A s.heap s.heap [] := va_S.rf
  have hl := lv_entry ([.ref h]) (n := 1) (Nat.le_of_ble_eq_true rfl)
  rw [lg_entry_eq]
  generalize (lg_sl ([.ref h]) ++ List.replicate (1 - (lg_sl ([.ref h])).length) Slot.unset).toArray = ls at hl ⊢
  have hl : lv_has ls 1 [(0, .ref h)] := hl
  refine lv_aload_n hx hb dX3_init_0 rfl (lv_at hl 0 rfl) ?_
  refine W.objInit hx hb hown (hts (.methodLink RX3 3 objectInit) (List.mem_of_getElem? (i := 1) (by decide +kernel))) (hts (.instanceMethod objectInit) (List.mem_of_getElem? (i := 2) (by decide +kernel))) (hts _ (List.mem_of_getElem? (i := 3) (by decide +kernel))) rfl (by rw [hml]; exact hl.1) rfl dX3_init_1 (Nat.le_of_ble_eq_true rfl) (Nat.le_of_ble_eq_true rfl) ?_
  refine W.eq (g2 := F0 m 4 ls []) rfl ?_
  refine lv_aload_n hx hb dX3_init_4 rfl (lv_at hl 0 rfl) ?_
  refine o_const (k := 0) hx hb dX3_init_5 (by decide) ?_
  refine va_put (D := D) (ci := 3) (v := .int (nI 0)) (ty := .int) (C := RX3) (T := TX3) (N := 4) hx hb hts inX3_init_X3 tyX3 tyX3_ok nmX3 hown hK hP hD hS 0 rfl rfl 2 (by decide) (hts (.fieldLink RX3 11 "OddNotice$Text" "expected" "I") (List.mem_of_getElem? (i := 4) (by decide +kernel))) (fun _ h9 => h9) rfl (by decide +kernel) rfl rfl (Nat.le_of_ble_eq_true rfl) dX3_init_6 (fun H locs hP hD hS => ?_)
  have hP : va_P D vwCl [(h, .inr (3, [.int (nI 0), .int (nI 0), .int (nI 0), .null]))] H := hP
  have hD : va_D A [(h, .inr (3, [.int (nI 0), .int (nI 0), .int (nI 0), .null]))] := hD
  refine lv_aload_n hx hb dX3_init_9 rfl (lv_at hl 0 rfl) ?_
  refine o_bipush (k := 60) hx hb dX3_init_10 (by decide) ?_
  refine va_newa (atype := .int) (ty := .int) (N' := 60) (a0 := (60, .inl (fun _ => nI 0))) hx hb (hts (.arrayClass .int) (List.mem_of_getElem? (i := 5) (by decide +kernel))) rfl hK hP hD hS hA (fun _ => rfl) (by decide) (by decide) (Nat.le_of_ble_eq_true rfl) (Nat.le_of_ble_eq_true rfl) (Nat.le_of_ble_eq_true rfl) dX3_init_12 (fun q1 cA H hKn hP hD hS => ?_)
  obtain rfl : cI = cA := (o_ty hKn (i := 4) (j := 0) rfl rfl).symm
  have hP : va_P D vwCl ([(h, .inr (3, [.int (nI 0), .int (nI 0), .int (nI 0), .null]))] ++ [oa cI q1 60 (o_zf)]) H := hP
  have hD : va_D A ([(h, .inr (3, [.int (nI 0), .int (nI 0), .int (nI 0), .null]))] ++ [oa cI q1 60 (o_zf)]) := hD
  refine W.widen (k := 1) (n := 60) (Nat.le_of_ble_eq_true rfl) (Nat.le_of_ble_eq_true rfl) ?_
  refine va_putF (D := D) (ci := 3) (v := .ref q1) (ty := .array .int) (C := RX3) (T := TX3) (N := 4) hx hb hts inX3_init_X3 tyX3 tyX3_ok nmX3 hown hK hP hD hS 0 rfl rfl 3 (by decide) (hts (.fieldLink RX3 15 "OddNotice$Text" "codes" "[I") (List.mem_of_getElem? (i := 6) (by decide +kernel))) (fun _ h9 => h9) rfl hin rfl (by decide +kernel) rfl rfl (Nat.le_of_ble_eq_true rfl) dX3_init_14 (fun H locs hP hD hS => ?_)
  have hP : va_P D vwCl ([(h, .inr (3, [.int (nI 0), .int (nI 0), .int (nI 0), .ref q1]))] ++ [oa cI q1 60 (o_zf)]) H := hP
  have hD : va_D A ([(h, .inr (3, [.int (nI 0), .int (nI 0), .int (nI 0), .ref q1]))] ++ [oa cI q1 60 (o_zf)]) := hD
  have hP9 := hP.sub (ws' := wT (o_ql [h, q1]) cI x_0) [0, 1] rfl
  have hD9 := hD.sub (ws' := wT (o_ql [h, q1]) cI x_0) [0, 1] (by decide +kernel) rfl
  exact W.vret hx hb hrt (fun t ht hW => ⟨⟨(o_ql [h, q1]), rfl, rfl, by rw [ht]; exact hP9, by rw [hAe]; exact hD9⟩, by rw [hAe]; exact hS.F ht⟩) hS.2.2 dX3_init_17
theorem inX2_init_X0 : ∀ w ∈ wsX00, w ∈ wsX2_init := by decide +kernel
theorem inX2_init_X2 : ∀ w ∈ wsX20, w ∈ wsX2_init := by decide +kernel
theorem inX2_init_X1 : ∀ w ∈ wsX10, w ∈ wsX2_init := by decide +kernel
set_option maxHeartbeats 8000000 in
set_option maxRecDepth 100000 in
theorem n_X2_init (l : Launch) (D : va_G) (cI cR cS cL : ClassId) (sz : Nat) (h : Nat) : Met l yX2_init wsX2_init ({ frames := 2, cells := 18, slots := 180, locals := 33 }) (va_Pc [.ref h] (o_J D (o_T cI cR cS cL) [(h, .inr (2, [.null, .null, .int (nI 0), .int (nI 0)]))] sz)) (o_qJ D (h, .inr (2, [.null, .null, .int (nI 0), .int (nI 0)])) sz (fun u => wS u cI cR s_0)) 18 180 (va_A [(h, .inr (2, [.null, .null, .int (nI 0), .int (nI 0)]))] sz) := by
  refine Met.ofW (cc := cX2_init) (maxL := 2) (ret := none) (by decide) rfl ?_
  intro p e s m args below meth cd s₁ B hml hv
  obtain ⟨rfl, hsz, hP, hK, hD0, hN, hO⟩ := hv
  have hx := B.exec
  have hb := B.bytes
  have hrt := B.returns
  have hts := atoms_spec (ws := wsX2_init) B.pre
  have hown : s.vm.findClass RX2 = some m.cls := findClass_of_methodNamed B.named
  have hlocks := B.notSynchronized
  have hin : meth.name = "<init>" := (name_of_methodNamed B.named B.method).1
  subst hsz
  have hD := hD0.self (sz := s.heap.size)
  generalize hAe : va_A [(h, .inr (2, [.null, .null, .int (nI 0), .int (nI 0)]))] s.heap.size = A at hD ⊢
  have hA : ∀ q : Nat, s.heap.size ≤ q → A q := fun q h => by rw [← hAe]; exact Or.inr h
  have hS : va_S A s.heap s.heap [] := va_S.rf
  have hl := lv_entry ([.ref h]) (n := 2) (Nat.le_of_ble_eq_true rfl)
  rw [lg_entry_eq]
  generalize (lg_sl ([.ref h]) ++ List.replicate (2 - (lg_sl ([.ref h])).length) Slot.unset).toArray = ls at hl ⊢
  have hl : lv_has ls 2 [(0, .ref h)] := hl
  refine lv_aload_n hx hb dX2_init_0 rfl (lv_at hl 0 rfl) ?_
  refine W.objInit hx hb hown (hts (.methodLink RX2 3 objectInit) (List.mem_of_getElem? (i := 1) (by decide +kernel))) (hts (.instanceMethod objectInit) (List.mem_of_getElem? (i := 2) (by decide +kernel))) (hts _ (List.mem_of_getElem? (i := 3) (by decide +kernel))) rfl (by rw [hml]; exact hl.1) rfl dX2_init_1 (Nat.le_of_ble_eq_true rfl) (Nat.le_of_ble_eq_true rfl) ?_
  refine W.eq (g2 := F0 m 4 ls []) rfl ?_
  refine lv_aload_n hx hb dX2_init_4 rfl (lv_at hl 0 rfl) ?_
  refine va_new (ci := 0) (fs := [.int (nI 0), .null, .null, .null, .null]) (C := RX0) (T := TX0) (N := 5) hx hb hts inX2_init_X0 tyX0 tyX0_ok hown (hts (.classLink RX2 9 RX0) (List.mem_of_getElem? (i := 4) (by decide +kernel))) (hts (.instantiable RX0 5) (List.mem_of_getElem? (i := 5) (by decide +kernel))) (hts (.initialized RX0) (List.mem_of_getElem? (i := 6) (by decide +kernel))) hK hP hD hS hA rfl (fun j hj => by rcases (show j = 0 ∨ j = 1 ∨ j = 2 ∨ j = 3 ∨ j = 4 by omega) with rfl | rfl | rfl | rfl | rfl <;> rfl) (Nat.le_of_ble_eq_true rfl) (Nat.le_of_ble_eq_true rfl) dX2_init_5 (fun q1 H hP hD hS => ?_)
  have hP : va_P D vwCl ([(h, .inr (2, [.null, .null, .int (nI 0), .int (nI 0)]))] ++ [(q1, .inr (0, [.int (nI 0), .null, .null, .null, .null]))]) H := hP
  have hD : va_D A ([(h, .inr (2, [.null, .null, .int (nI 0), .int (nI 0)]))] ++ [(q1, .inr (0, [.int (nI 0), .null, .null, .null, .null]))]) := hD
  refine W.widen (k := 1) (n := 5) (Nat.le_of_ble_eq_true rfl) (Nat.le_of_ble_eq_true rfl) ?_
  refine lv_dup hx hb dX2_init_8 rfl ?_
  refine o_ctor (w1 := fun u => wB u cI b_0) [(h, .inr (2, [.null, .null, .int (nI 0), .int (nI 0)]))] (va_runI (As := []) (rest := [.ref q1, .ref h]) ⟨hx, hb, hml, hown, hts⟩ (n_X0_init l D cI cR cS cL H.size q1) (cwI 0 hts gX2_init_X0_init rfl rfl rfl (hts (.initialized RX0) (List.mem_of_getElem? (i := 6) (by decide +kernel))) (hts (.methodLink RX2 11 yX0_init) (List.mem_of_getElem? (i := 13) (by decide +kernel))) (hts (.instanceMethod yX0_init) (List.mem_of_getElem? (i := 14) (by decide +kernel))) rfl (by decide +kernel) ⟨Nat.le_of_ble_eq_true rfl, Nat.le_of_ble_eq_true rfl⟩) (o_pJ hK hN hO (o_PT (pre := [(h, .inr (2, [.null, .null, .int (nI 0), .int (nI 0)]))]) (ws := [(q1, .inr (0, [.int (nI 0), .null, .null, .null, .null]))]) hP) (o_DT (pre := [(h, .inr (2, [.null, .null, .int (nI 0), .int (nI 0)]))]) (ws := [(q1, .inr (0, [.int (nI 0), .null, .null, .null, .null]))]) hD)) rfl rfl hl.1 rfl (lv_room (Nat.le_of_ble_eq_true rfl)) dX2_init_9 ⟨Nat.le_of_ble_eq_true rfl, Nat.le_of_ble_eq_true rfl⟩) hP hD hS hA (fun u2 H locs hu3 hP8 hD8 hS => ?_)
  have hu3 : u2 0 = q1 := hu3
  subst hu3
  have hP := hP8
  have hD := hD8
  have hP : va_P D vwCl ([(h, .inr (2, [.null, .null, .int (nI 0), .int (nI 0)]))] ++ wB u2 cI b_0) H := hP
  have hD : va_D A ([(h, .inr (2, [.null, .null, .int (nI 0), .int (nI 0)]))] ++ wB u2 cI b_0) := hD
  refine W.widen (k := 5) (n := 96) (Nat.le_of_ble_eq_true rfl) (Nat.le_of_ble_eq_true rfl) ?_
  refine va_putF (D := D) (ci := 2) (v := .ref (u2 0)) (ty := .object "OddNotice$Board") (C := RX2) (T := TX2) (N := 4) hx hb hts inX2_init_X2 tyX2 tyX2_ok nmX2 hown hK hP hD hS 0 rfl rfl 0 (by decide) (hts (.fieldLink RX2 12 "OddNotice$State" "board" "LOddNotice$Board;") (List.mem_of_getElem? (i := 7) (by decide +kernel))) (fun _ h9 => h9) rfl hin rfl (by decide +kernel) rfl rfl (Nat.le_of_ble_eq_true rfl) dX2_init_12 (fun H locs hP hD hS => ?_)
  have hP : va_P D vwCl ([(h, .inr (2, [.ref (u2 0), .null, .int (nI 0), .int (nI 0)]))] ++ wB u2 cI b_0) H := hP
  have hD : va_D A ([(h, .inr (2, [.ref (u2 0), .null, .int (nI 0), .int (nI 0)]))] ++ wB u2 cI b_0) := hD
  refine lv_aload_n hx hb dX2_init_15 rfl (lv_at hl 0 rfl) ?_
  refine o_const (k := 4) hx hb dX2_init_16 (by decide) ?_
  refine va_newq (C := "OddNotice$Reader") (N' := 4) hx hb hown (hts (.classLink RX2 18 RX1) (List.mem_of_getElem? (i := 8) (by decide +kernel))) hO.1 hK hP hD hS hA (by decide) (by decide) (Nat.le_of_ble_eq_true rfl) (Nat.le_of_ble_eq_true rfl) (Nat.le_of_ble_eq_true rfl) dX2_init_17 (fun q4 cA H hKn hP hD hS => ?_)
  obtain rfl : cR = cA := (o_ty hKn (i := 4) (j := 1) rfl rfl).symm
  have hP : va_P D vwCl (([(h, .inr (2, [.ref (u2 0), .null, .int (nI 0), .int (nI 0)]))] ++ wB u2 cI b_0) ++ [(q4, .inl (cR, 4, .inr (.inr (.inr (.inr (fun _ => none))))))]) H := hP
  have hD : va_D A (([(h, .inr (2, [.ref (u2 0), .null, .int (nI 0), .int (nI 0)]))] ++ wB u2 cI b_0) ++ [(q4, .inl (cR, 4, .inr (.inr (.inr (.inr (fun _ => none))))))]) := hD
  refine W.widen (k := 6) (n := 100) (Nat.le_of_ble_eq_true rfl) (Nat.le_of_ble_eq_true rfl) ?_
  refine va_putF (D := D) (ci := 2) (v := .ref q4) (ty := .array (.object "OddNotice$Reader")) (C := RX2) (T := TX2) (N := 4) hx hb hts inX2_init_X2 tyX2 tyX2_ok nmX2 hown hK hP hD hS 0 rfl rfl 1 (by decide) (hts (.fieldLink RX2 20 "OddNotice$State" "readers" "[LOddNotice$Reader;") (List.mem_of_getElem? (i := 9) (by decide +kernel))) (fun _ h9 => h9) rfl hin rfl (by decide +kernel) rfl rfl (Nat.le_of_ble_eq_true rfl) dX2_init_20 (fun H locs hP hD hS => ?_)
  have hP : va_P D vwCl (([(h, .inr (2, [.ref (u2 0), .ref q4, .int (nI 0), .int (nI 0)]))] ++ wB u2 cI b_0) ++ [(q4, .inl (cR, 4, .inr (.inr (.inr (.inr (fun _ => none))))))]) H := hP
  have hD : va_D A (([(h, .inr (2, [.ref (u2 0), .ref q4, .int (nI 0), .int (nI 0)]))] ++ wB u2 cI b_0) ++ [(q4, .inl (cR, 4, .inr (.inr (.inr (.inr (fun _ => none))))))]) := hD
  refine lv_aload_n hx hb dX2_init_23 rfl (lv_at hl 0 rfl) ?_
  refine o_const (k := 5) hx hb dX2_init_24 (by decide) ?_
  refine va_put (D := D) (ci := 2) (v := .int (nI 5)) (ty := .int) (C := RX2) (T := TX2) (N := 4) hx hb hts inX2_init_X2 tyX2 tyX2_ok nmX2 hown hK hP hD hS 0 rfl rfl 3 (by decide) (hts (.fieldLink RX2 24 "OddNotice$State" "setting" "I") (List.mem_of_getElem? (i := 10) (by decide +kernel))) (fun _ h9 => h9) rfl (by decide +kernel) rfl rfl (Nat.le_of_ble_eq_true rfl) dX2_init_25 (fun H locs hP hD hS => ?_)
  have hP : va_P D vwCl (([(h, .inr (2, [.ref (u2 0), .ref q4, .int (nI 0), .int (nI 5)]))] ++ wB u2 cI b_0) ++ [(q4, .inl (cR, 4, .inr (.inr (.inr (.inr (fun _ => none))))))]) H := hP
  have hD : va_D A (([(h, .inr (2, [.ref (u2 0), .ref q4, .int (nI 0), .int (nI 5)]))] ++ wB u2 cI b_0) ++ [(q4, .inl (cR, 4, .inr (.inr (.inr (.inr (fun _ => none))))))]) := hD
  refine o_const (k := 0) hx hb dX2_init_28 (by decide) ?_
  refine lv_istore_n (lv' := [(1, .int (nI 0)), (0, .ref h)]) hx hb dX2_init_29 rfl hl (by decide) rfl (fun ls hl => ?_)
  refine lv_iload_n hx hb dX2_init_30 rfl (lv_at hl 0 rfl) ?_
  refine o_const (k := 4) hx hb dX2_init_31 (by decide) ?_
  refine o_icmp_ge (tgt := 54) hx hb dX2_init_32 (by decide) (Nat.le_of_ble_eq_true rfl) (Nat.le_of_ble_eq_true rfl) (fun c0 => absurd c0 (by decide)) (fun _ => ?_)
  refine lv_aload_n hx hb dX2_init_35 rfl (lv_at hl 1 rfl) ?_
  refine va_get (D := D) (ci := 2) (v := .ref q4) (C := RX2) (T := TX2) (N := 4) hx hb hts inX2_init_X2 hown hK hP 0 rfl rfl 1 (by decide) (hts (.fieldLink RX2 20 "OddNotice$State" "readers" "[LOddNotice$Reader;") (List.mem_of_getElem? (i := 9) (by decide +kernel))) (fun _ h9 => h9) rfl dX2_init_36 ?_
  refine lv_iload_n hx hb dX2_init_39 rfl (lv_at hl 0 rfl) ?_
  refine va_new (ci := 1) (fs := [.int (nI 0), .int (nI 0), .int (nI 0), .int (nI 0), .int (nI 0), .int (nI 0), .int (nI 0), .int (nI 0), .null, .null]) (C := RX1) (T := TX1) (N := 10) hx hb hts inX2_init_X1 tyX1 tyX1_ok hown (hts (.classLink RX2 18 RX1) (List.mem_of_getElem? (i := 8) (by decide +kernel))) (hts (.instantiable RX1 10) (List.mem_of_getElem? (i := 11) (by decide +kernel))) (hts (.initialized RX1) (List.mem_of_getElem? (i := 12) (by decide +kernel))) hK hP hD hS hA rfl (fun j hj => by rcases (show j = 0 ∨ j = 1 ∨ j = 2 ∨ j = 3 ∨ j = 4 ∨ j = 5 ∨ j = 6 ∨ j = 7 ∨ j = 8 ∨ j = 9 by omega) with rfl | rfl | rfl | rfl | rfl | rfl | rfl | rfl | rfl | rfl <;> rfl) (Nat.le_of_ble_eq_true rfl) (Nat.le_of_ble_eq_true rfl) dX2_init_40 (fun q5 H hP hD hS => ?_)
  have hP : va_P D vwCl ((([(h, .inr (2, [.ref (u2 0), .ref q4, .int (nI 0), .int (nI 5)]))] ++ wB u2 cI b_0) ++ [(q4, .inl (cR, 4, .inr (.inr (.inr (.inr (fun _ => none))))))]) ++ [(q5, .inr (1, [.int (nI 0), .int (nI 0), .int (nI 0), .int (nI 0), .int (nI 0), .int (nI 0), .int (nI 0), .int (nI 0), .null, .null]))]) H := hP
  have hD : va_D A ((([(h, .inr (2, [.ref (u2 0), .ref q4, .int (nI 0), .int (nI 5)]))] ++ wB u2 cI b_0) ++ [(q4, .inl (cR, 4, .inr (.inr (.inr (.inr (fun _ => none))))))]) ++ [(q5, .inr (1, [.int (nI 0), .int (nI 0), .int (nI 0), .int (nI 0), .int (nI 0), .int (nI 0), .int (nI 0), .int (nI 0), .null, .null]))]) := hD
  refine W.widen (k := 7) (n := 110) (Nat.le_of_ble_eq_true rfl) (Nat.le_of_ble_eq_true rfl) ?_
  refine lv_dup hx hb dX2_init_43 rfl ?_
  refine o_ctor (w1 := fun u => wR u cI r_0) (([(h, .inr (2, [.ref (u2 0), .ref q4, .int (nI 0), .int (nI 5)]))] ++ wB u2 cI b_0) ++ [(q4, .inl (cR, 4, .inr (.inr (.inr (.inr (fun _ => none))))))]) (va_runIN (As := []) (rest := [.ref q5, .int (nI 0), .ref q4]) ⟨hx, hb, hml, hown, hts⟩ (n_X1_init l D cI cR cS cL H.size q5) ⟨va_cnB 0 hts gX2_init_X1_init_n28 rfl rfl rfl hN.2.1 (hts (.initialized RX1) (List.mem_of_getElem? (i := 12) (by decide +kernel))) (by decide +kernel) ⟨Nat.le_of_ble_eq_true rfl, Nat.le_of_ble_eq_true rfl⟩, rfl, (hts (.instanceMethod yX1_init) (List.mem_of_getElem? (i := 22) (by decide +kernel)))⟩ (o_pJ hK hN hO (o_PT (pre := (([(h, .inr (2, [.ref (u2 0), .ref q4, .int (nI 0), .int (nI 5)]))] ++ wB u2 cI b_0) ++ [(q4, .inl (cR, 4, .inr (.inr (.inr (.inr (fun _ => none))))))])) (ws := [(q5, .inr (1, [.int (nI 0), .int (nI 0), .int (nI 0), .int (nI 0), .int (nI 0), .int (nI 0), .int (nI 0), .int (nI 0), .null, .null]))]) hP) (o_DT (pre := (([(h, .inr (2, [.ref (u2 0), .ref q4, .int (nI 0), .int (nI 5)]))] ++ wB u2 cI b_0) ++ [(q4, .inl (cR, 4, .inr (.inr (.inr (.inr (fun _ => none))))))])) (ws := [(q5, .inr (1, [.int (nI 0), .int (nI 0), .int (nI 0), .int (nI 0), .int (nI 0), .int (nI 0), .int (nI 0), .int (nI 0), .null, .null]))]) hD)) rfl rfl hl.1 rfl (lv_room (Nat.le_of_ble_eq_true rfl)) dX2_init_44 ⟨Nat.le_of_ble_eq_true rfl, Nat.le_of_ble_eq_true rfl⟩) hP hD hS hA (fun u6 H locs hu7 hP8 hD8 hS => ?_)
  have hu7 : u6 0 = q5 := hu7
  subst hu7
  have hP := hP8
  have hD := hD8
  have hP : va_P D vwCl ((([(h, .inr (2, [.ref (u2 0), .ref q4, .int (nI 0), .int (nI 5)]))] ++ wB u2 cI b_0) ++ [(q4, .inl (cR, 4, .inr (.inr (.inr (.inr (fun _ => none))))))]) ++ wR u6 cI r_0) H := hP
  have hD : va_D A ((([(h, .inr (2, [.ref (u2 0), .ref q4, .int (nI 0), .int (nI 5)]))] ++ wB u2 cI b_0) ++ [(q4, .inl (cR, 4, .inr (.inr (.inr (.inr (fun _ => none))))))]) ++ wR u6 cI r_0) := hD
  refine W.widen (k := 9) (n := 120) (Nat.le_of_ble_eq_true rfl) (Nat.le_of_ble_eq_true rfl) ?_
  refine va_astq hx hb hK hP hD hS 6 1 7 1 rfl rfl rfl rfl (vp_in_nI (Nat.le_of_ble_eq_true rfl) (Nat.le_of_ble_eq_true rfl)) dX2_init_47 (fun H locs hP hD hS => ?_)
  rw [nI_clamp (show 0 < 2 ^ 31 by decide)] at hP hD
  have hP : va_P D vwCl ((([(h, .inr (2, [.ref (u2 0), .ref q4, .int (nI 0), .int (nI 5)]))] ++ wB u2 cI b_0) ++ [(q4, .inl (cR, 4, .inr (.inr (.inr (.inr (va_up (fun _ => none) 0 (some ((u6 0)))))))))]) ++ wR u6 cI r_0) H := hP
  have hD : va_D A ((([(h, .inr (2, [.ref (u2 0), .ref q4, .int (nI 0), .int (nI 5)]))] ++ wB u2 cI b_0) ++ [(q4, .inl (cR, 4, .inr (.inr (.inr (.inr (va_up (fun _ => none) 0 (some ((u6 0)))))))))]) ++ wR u6 cI r_0) := hD
  refine lv_iinc (v := nI 1) (lv' := [(1, .int (nI 1)), (0, .ref h)]) hx hb dX2_init_48 hl (k := 0) rfl (by decide) (by decide) rfl (fun ls hl => ?_)
  refine lv_goto (tgt := 30) hx hb dX2_init_51 (by decide) ?_
  refine lv_iload_n hx hb dX2_init_30 rfl (lv_at hl 0 rfl) ?_
  refine o_const (k := 4) hx hb dX2_init_31 (by decide) ?_
  refine o_icmp_ge (tgt := 54) hx hb dX2_init_32 (by decide) (Nat.le_of_ble_eq_true rfl) (Nat.le_of_ble_eq_true rfl) (fun c0 => absurd c0 (by decide)) (fun _ => ?_)
  refine lv_aload_n hx hb dX2_init_35 rfl (lv_at hl 1 rfl) ?_
  refine va_get (D := D) (ci := 2) (v := .ref q4) (C := RX2) (T := TX2) (N := 4) hx hb hts inX2_init_X2 hown hK hP 0 rfl rfl 1 (by decide) (hts (.fieldLink RX2 20 "OddNotice$State" "readers" "[LOddNotice$Reader;") (List.mem_of_getElem? (i := 9) (by decide +kernel))) (fun _ h9 => h9) rfl dX2_init_36 ?_
  refine lv_iload_n hx hb dX2_init_39 rfl (lv_at hl 0 rfl) ?_
  refine va_new (ci := 1) (fs := [.int (nI 0), .int (nI 0), .int (nI 0), .int (nI 0), .int (nI 0), .int (nI 0), .int (nI 0), .int (nI 0), .null, .null]) (C := RX1) (T := TX1) (N := 10) hx hb hts inX2_init_X1 tyX1 tyX1_ok hown (hts (.classLink RX2 18 RX1) (List.mem_of_getElem? (i := 8) (by decide +kernel))) (hts (.instantiable RX1 10) (List.mem_of_getElem? (i := 11) (by decide +kernel))) (hts (.initialized RX1) (List.mem_of_getElem? (i := 12) (by decide +kernel))) hK hP hD hS hA rfl (fun j hj => by rcases (show j = 0 ∨ j = 1 ∨ j = 2 ∨ j = 3 ∨ j = 4 ∨ j = 5 ∨ j = 6 ∨ j = 7 ∨ j = 8 ∨ j = 9 by omega) with rfl | rfl | rfl | rfl | rfl | rfl | rfl | rfl | rfl | rfl <;> rfl) (Nat.le_of_ble_eq_true rfl) (Nat.le_of_ble_eq_true rfl) dX2_init_40 (fun q8 H hP hD hS => ?_)
  have hP : va_P D vwCl (((([(h, .inr (2, [.ref (u2 0), .ref q4, .int (nI 0), .int (nI 5)]))] ++ wB u2 cI b_0) ++ [(q4, .inl (cR, 4, .inr (.inr (.inr (.inr (va_up (fun _ => none) 0 (some ((u6 0)))))))))]) ++ wR u6 cI r_0) ++ [(q8, .inr (1, [.int (nI 0), .int (nI 0), .int (nI 0), .int (nI 0), .int (nI 0), .int (nI 0), .int (nI 0), .int (nI 0), .null, .null]))]) H := hP
  have hD : va_D A (((([(h, .inr (2, [.ref (u2 0), .ref q4, .int (nI 0), .int (nI 5)]))] ++ wB u2 cI b_0) ++ [(q4, .inl (cR, 4, .inr (.inr (.inr (.inr (va_up (fun _ => none) 0 (some ((u6 0)))))))))]) ++ wR u6 cI r_0) ++ [(q8, .inr (1, [.int (nI 0), .int (nI 0), .int (nI 0), .int (nI 0), .int (nI 0), .int (nI 0), .int (nI 0), .int (nI 0), .null, .null]))]) := hD
  refine W.widen (k := 10) (n := 130) (Nat.le_of_ble_eq_true rfl) (Nat.le_of_ble_eq_true rfl) ?_
  refine lv_dup hx hb dX2_init_43 rfl ?_
  refine o_ctor (w1 := fun u => wR u cI r_0) ((([(h, .inr (2, [.ref (u2 0), .ref q4, .int (nI 0), .int (nI 5)]))] ++ wB u2 cI b_0) ++ [(q4, .inl (cR, 4, .inr (.inr (.inr (.inr (va_up (fun _ => none) 0 (some ((u6 0)))))))))]) ++ wR u6 cI r_0) (va_runIN (As := []) (rest := [.ref q8, .int (nI 1), .ref q4]) ⟨hx, hb, hml, hown, hts⟩ (n_X1_init l D cI cR cS cL H.size q8) ⟨va_cnB 0 hts gX2_init_X1_init_n28 rfl rfl rfl hN.2.1 (hts (.initialized RX1) (List.mem_of_getElem? (i := 12) (by decide +kernel))) (by decide +kernel) ⟨Nat.le_of_ble_eq_true rfl, Nat.le_of_ble_eq_true rfl⟩, rfl, (hts (.instanceMethod yX1_init) (List.mem_of_getElem? (i := 22) (by decide +kernel)))⟩ (o_pJ hK hN hO (o_PT (pre := ((([(h, .inr (2, [.ref (u2 0), .ref q4, .int (nI 0), .int (nI 5)]))] ++ wB u2 cI b_0) ++ [(q4, .inl (cR, 4, .inr (.inr (.inr (.inr (va_up (fun _ => none) 0 (some ((u6 0)))))))))]) ++ wR u6 cI r_0)) (ws := [(q8, .inr (1, [.int (nI 0), .int (nI 0), .int (nI 0), .int (nI 0), .int (nI 0), .int (nI 0), .int (nI 0), .int (nI 0), .null, .null]))]) hP) (o_DT (pre := ((([(h, .inr (2, [.ref (u2 0), .ref q4, .int (nI 0), .int (nI 5)]))] ++ wB u2 cI b_0) ++ [(q4, .inl (cR, 4, .inr (.inr (.inr (.inr (va_up (fun _ => none) 0 (some ((u6 0)))))))))]) ++ wR u6 cI r_0)) (ws := [(q8, .inr (1, [.int (nI 0), .int (nI 0), .int (nI 0), .int (nI 0), .int (nI 0), .int (nI 0), .int (nI 0), .int (nI 0), .null, .null]))]) hD)) rfl rfl hl.1 rfl (lv_room (Nat.le_of_ble_eq_true rfl)) dX2_init_44 ⟨Nat.le_of_ble_eq_true rfl, Nat.le_of_ble_eq_true rfl⟩) hP hD hS hA (fun u9 H locs hu10 hP8 hD8 hS => ?_)
  have hu10 : u9 0 = q8 := hu10
  subst hu10
  have hP := hP8
  have hD := hD8
  have hP : va_P D vwCl (((([(h, .inr (2, [.ref (u2 0), .ref q4, .int (nI 0), .int (nI 5)]))] ++ wB u2 cI b_0) ++ [(q4, .inl (cR, 4, .inr (.inr (.inr (.inr (va_up (fun _ => none) 0 (some ((u6 0)))))))))]) ++ wR u6 cI r_0) ++ wR u9 cI r_0) H := hP
  have hD : va_D A (((([(h, .inr (2, [.ref (u2 0), .ref q4, .int (nI 0), .int (nI 5)]))] ++ wB u2 cI b_0) ++ [(q4, .inl (cR, 4, .inr (.inr (.inr (.inr (va_up (fun _ => none) 0 (some ((u6 0)))))))))]) ++ wR u6 cI r_0) ++ wR u9 cI r_0) := hD
  refine W.widen (k := 12) (n := 140) (Nat.le_of_ble_eq_true rfl) (Nat.le_of_ble_eq_true rfl) ?_
  refine va_astq hx hb hK hP hD hS 6 1 10 1 rfl rfl rfl rfl (vp_in_nI (Nat.le_of_ble_eq_true rfl) (Nat.le_of_ble_eq_true rfl)) dX2_init_47 (fun H locs hP hD hS => ?_)
  rw [nI_clamp (show 1 < 2 ^ 31 by decide)] at hP hD
  have hP : va_P D vwCl (((([(h, .inr (2, [.ref (u2 0), .ref q4, .int (nI 0), .int (nI 5)]))] ++ wB u2 cI b_0) ++ [(q4, .inl (cR, 4, .inr (.inr (.inr (.inr (va_up (va_up (fun _ => none) 0 (some ((u6 0)))) 1 (some ((u9 0)))))))))]) ++ wR u6 cI r_0) ++ wR u9 cI r_0) H := hP
  have hD : va_D A (((([(h, .inr (2, [.ref (u2 0), .ref q4, .int (nI 0), .int (nI 5)]))] ++ wB u2 cI b_0) ++ [(q4, .inl (cR, 4, .inr (.inr (.inr (.inr (va_up (va_up (fun _ => none) 0 (some ((u6 0)))) 1 (some ((u9 0)))))))))]) ++ wR u6 cI r_0) ++ wR u9 cI r_0) := hD
  refine lv_iinc (v := nI 2) (lv' := [(1, .int (nI 2)), (0, .ref h)]) hx hb dX2_init_48 hl (k := 0) rfl (by decide) (by decide) rfl (fun ls hl => ?_)
  refine lv_goto (tgt := 30) hx hb dX2_init_51 (by decide) ?_
  refine lv_iload_n hx hb dX2_init_30 rfl (lv_at hl 0 rfl) ?_
  refine o_const (k := 4) hx hb dX2_init_31 (by decide) ?_
  refine o_icmp_ge (tgt := 54) hx hb dX2_init_32 (by decide) (Nat.le_of_ble_eq_true rfl) (Nat.le_of_ble_eq_true rfl) (fun c0 => absurd c0 (by decide)) (fun _ => ?_)
  refine lv_aload_n hx hb dX2_init_35 rfl (lv_at hl 1 rfl) ?_
  refine va_get (D := D) (ci := 2) (v := .ref q4) (C := RX2) (T := TX2) (N := 4) hx hb hts inX2_init_X2 hown hK hP 0 rfl rfl 1 (by decide) (hts (.fieldLink RX2 20 "OddNotice$State" "readers" "[LOddNotice$Reader;") (List.mem_of_getElem? (i := 9) (by decide +kernel))) (fun _ h9 => h9) rfl dX2_init_36 ?_
  refine lv_iload_n hx hb dX2_init_39 rfl (lv_at hl 0 rfl) ?_
  refine va_new (ci := 1) (fs := [.int (nI 0), .int (nI 0), .int (nI 0), .int (nI 0), .int (nI 0), .int (nI 0), .int (nI 0), .int (nI 0), .null, .null]) (C := RX1) (T := TX1) (N := 10) hx hb hts inX2_init_X1 tyX1 tyX1_ok hown (hts (.classLink RX2 18 RX1) (List.mem_of_getElem? (i := 8) (by decide +kernel))) (hts (.instantiable RX1 10) (List.mem_of_getElem? (i := 11) (by decide +kernel))) (hts (.initialized RX1) (List.mem_of_getElem? (i := 12) (by decide +kernel))) hK hP hD hS hA rfl (fun j hj => by rcases (show j = 0 ∨ j = 1 ∨ j = 2 ∨ j = 3 ∨ j = 4 ∨ j = 5 ∨ j = 6 ∨ j = 7 ∨ j = 8 ∨ j = 9 by omega) with rfl | rfl | rfl | rfl | rfl | rfl | rfl | rfl | rfl | rfl <;> rfl) (Nat.le_of_ble_eq_true rfl) (Nat.le_of_ble_eq_true rfl) dX2_init_40 (fun q11 H hP hD hS => ?_)
  have hP : va_P D vwCl ((((([(h, .inr (2, [.ref (u2 0), .ref q4, .int (nI 0), .int (nI 5)]))] ++ wB u2 cI b_0) ++ [(q4, .inl (cR, 4, .inr (.inr (.inr (.inr (va_up (va_up (fun _ => none) 0 (some ((u6 0)))) 1 (some ((u9 0)))))))))]) ++ wR u6 cI r_0) ++ wR u9 cI r_0) ++ [(q11, .inr (1, [.int (nI 0), .int (nI 0), .int (nI 0), .int (nI 0), .int (nI 0), .int (nI 0), .int (nI 0), .int (nI 0), .null, .null]))]) H := hP
  have hD : va_D A ((((([(h, .inr (2, [.ref (u2 0), .ref q4, .int (nI 0), .int (nI 5)]))] ++ wB u2 cI b_0) ++ [(q4, .inl (cR, 4, .inr (.inr (.inr (.inr (va_up (va_up (fun _ => none) 0 (some ((u6 0)))) 1 (some ((u9 0)))))))))]) ++ wR u6 cI r_0) ++ wR u9 cI r_0) ++ [(q11, .inr (1, [.int (nI 0), .int (nI 0), .int (nI 0), .int (nI 0), .int (nI 0), .int (nI 0), .int (nI 0), .int (nI 0), .null, .null]))]) := hD
  refine W.widen (k := 13) (n := 150) (Nat.le_of_ble_eq_true rfl) (Nat.le_of_ble_eq_true rfl) ?_
  refine lv_dup hx hb dX2_init_43 rfl ?_
  refine o_ctor (w1 := fun u => wR u cI r_0) (((([(h, .inr (2, [.ref (u2 0), .ref q4, .int (nI 0), .int (nI 5)]))] ++ wB u2 cI b_0) ++ [(q4, .inl (cR, 4, .inr (.inr (.inr (.inr (va_up (va_up (fun _ => none) 0 (some ((u6 0)))) 1 (some ((u9 0)))))))))]) ++ wR u6 cI r_0) ++ wR u9 cI r_0) (va_runIN (As := []) (rest := [.ref q11, .int (nI 2), .ref q4]) ⟨hx, hb, hml, hown, hts⟩ (n_X1_init l D cI cR cS cL H.size q11) ⟨va_cnB 0 hts gX2_init_X1_init_n28 rfl rfl rfl hN.2.1 (hts (.initialized RX1) (List.mem_of_getElem? (i := 12) (by decide +kernel))) (by decide +kernel) ⟨Nat.le_of_ble_eq_true rfl, Nat.le_of_ble_eq_true rfl⟩, rfl, (hts (.instanceMethod yX1_init) (List.mem_of_getElem? (i := 22) (by decide +kernel)))⟩ (o_pJ hK hN hO (o_PT (pre := (((([(h, .inr (2, [.ref (u2 0), .ref q4, .int (nI 0), .int (nI 5)]))] ++ wB u2 cI b_0) ++ [(q4, .inl (cR, 4, .inr (.inr (.inr (.inr (va_up (va_up (fun _ => none) 0 (some ((u6 0)))) 1 (some ((u9 0)))))))))]) ++ wR u6 cI r_0) ++ wR u9 cI r_0)) (ws := [(q11, .inr (1, [.int (nI 0), .int (nI 0), .int (nI 0), .int (nI 0), .int (nI 0), .int (nI 0), .int (nI 0), .int (nI 0), .null, .null]))]) hP) (o_DT (pre := (((([(h, .inr (2, [.ref (u2 0), .ref q4, .int (nI 0), .int (nI 5)]))] ++ wB u2 cI b_0) ++ [(q4, .inl (cR, 4, .inr (.inr (.inr (.inr (va_up (va_up (fun _ => none) 0 (some ((u6 0)))) 1 (some ((u9 0)))))))))]) ++ wR u6 cI r_0) ++ wR u9 cI r_0)) (ws := [(q11, .inr (1, [.int (nI 0), .int (nI 0), .int (nI 0), .int (nI 0), .int (nI 0), .int (nI 0), .int (nI 0), .int (nI 0), .null, .null]))]) hD)) rfl rfl hl.1 rfl (lv_room (Nat.le_of_ble_eq_true rfl)) dX2_init_44 ⟨Nat.le_of_ble_eq_true rfl, Nat.le_of_ble_eq_true rfl⟩) hP hD hS hA (fun u12 H locs hu13 hP8 hD8 hS => ?_)
  have hu13 : u12 0 = q11 := hu13
  subst hu13
  have hP := hP8
  have hD := hD8
  have hP : va_P D vwCl ((((([(h, .inr (2, [.ref (u2 0), .ref q4, .int (nI 0), .int (nI 5)]))] ++ wB u2 cI b_0) ++ [(q4, .inl (cR, 4, .inr (.inr (.inr (.inr (va_up (va_up (fun _ => none) 0 (some ((u6 0)))) 1 (some ((u9 0)))))))))]) ++ wR u6 cI r_0) ++ wR u9 cI r_0) ++ wR u12 cI r_0) H := hP
  have hD : va_D A ((((([(h, .inr (2, [.ref (u2 0), .ref q4, .int (nI 0), .int (nI 5)]))] ++ wB u2 cI b_0) ++ [(q4, .inl (cR, 4, .inr (.inr (.inr (.inr (va_up (va_up (fun _ => none) 0 (some ((u6 0)))) 1 (some ((u9 0)))))))))]) ++ wR u6 cI r_0) ++ wR u9 cI r_0) ++ wR u12 cI r_0) := hD
  refine W.widen (k := 15) (n := 160) (Nat.le_of_ble_eq_true rfl) (Nat.le_of_ble_eq_true rfl) ?_
  refine va_astq hx hb hK hP hD hS 6 1 13 1 rfl rfl rfl rfl (vp_in_nI (Nat.le_of_ble_eq_true rfl) (Nat.le_of_ble_eq_true rfl)) dX2_init_47 (fun H locs hP hD hS => ?_)
  rw [nI_clamp (show 2 < 2 ^ 31 by decide)] at hP hD
  have hP : va_P D vwCl ((((([(h, .inr (2, [.ref (u2 0), .ref q4, .int (nI 0), .int (nI 5)]))] ++ wB u2 cI b_0) ++ [(q4, .inl (cR, 4, .inr (.inr (.inr (.inr (va_up (va_up (va_up (fun _ => none) 0 (some ((u6 0)))) 1 (some ((u9 0)))) 2 (some ((u12 0)))))))))]) ++ wR u6 cI r_0) ++ wR u9 cI r_0) ++ wR u12 cI r_0) H := hP
  have hD : va_D A ((((([(h, .inr (2, [.ref (u2 0), .ref q4, .int (nI 0), .int (nI 5)]))] ++ wB u2 cI b_0) ++ [(q4, .inl (cR, 4, .inr (.inr (.inr (.inr (va_up (va_up (va_up (fun _ => none) 0 (some ((u6 0)))) 1 (some ((u9 0)))) 2 (some ((u12 0)))))))))]) ++ wR u6 cI r_0) ++ wR u9 cI r_0) ++ wR u12 cI r_0) := hD
  refine lv_iinc (v := nI 3) (lv' := [(1, .int (nI 3)), (0, .ref h)]) hx hb dX2_init_48 hl (k := 0) rfl (by decide) (by decide) rfl (fun ls hl => ?_)
  refine lv_goto (tgt := 30) hx hb dX2_init_51 (by decide) ?_
  refine lv_iload_n hx hb dX2_init_30 rfl (lv_at hl 0 rfl) ?_
  refine o_const (k := 4) hx hb dX2_init_31 (by decide) ?_
  refine o_icmp_ge (tgt := 54) hx hb dX2_init_32 (by decide) (Nat.le_of_ble_eq_true rfl) (Nat.le_of_ble_eq_true rfl) (fun c0 => absurd c0 (by decide)) (fun _ => ?_)
  refine lv_aload_n hx hb dX2_init_35 rfl (lv_at hl 1 rfl) ?_
  refine va_get (D := D) (ci := 2) (v := .ref q4) (C := RX2) (T := TX2) (N := 4) hx hb hts inX2_init_X2 hown hK hP 0 rfl rfl 1 (by decide) (hts (.fieldLink RX2 20 "OddNotice$State" "readers" "[LOddNotice$Reader;") (List.mem_of_getElem? (i := 9) (by decide +kernel))) (fun _ h9 => h9) rfl dX2_init_36 ?_
  refine lv_iload_n hx hb dX2_init_39 rfl (lv_at hl 0 rfl) ?_
  refine va_new (ci := 1) (fs := [.int (nI 0), .int (nI 0), .int (nI 0), .int (nI 0), .int (nI 0), .int (nI 0), .int (nI 0), .int (nI 0), .null, .null]) (C := RX1) (T := TX1) (N := 10) hx hb hts inX2_init_X1 tyX1 tyX1_ok hown (hts (.classLink RX2 18 RX1) (List.mem_of_getElem? (i := 8) (by decide +kernel))) (hts (.instantiable RX1 10) (List.mem_of_getElem? (i := 11) (by decide +kernel))) (hts (.initialized RX1) (List.mem_of_getElem? (i := 12) (by decide +kernel))) hK hP hD hS hA rfl (fun j hj => by rcases (show j = 0 ∨ j = 1 ∨ j = 2 ∨ j = 3 ∨ j = 4 ∨ j = 5 ∨ j = 6 ∨ j = 7 ∨ j = 8 ∨ j = 9 by omega) with rfl | rfl | rfl | rfl | rfl | rfl | rfl | rfl | rfl | rfl <;> rfl) (Nat.le_of_ble_eq_true rfl) (Nat.le_of_ble_eq_true rfl) dX2_init_40 (fun q14 H hP hD hS => ?_)
  have hP : va_P D vwCl (((((([(h, .inr (2, [.ref (u2 0), .ref q4, .int (nI 0), .int (nI 5)]))] ++ wB u2 cI b_0) ++ [(q4, .inl (cR, 4, .inr (.inr (.inr (.inr (va_up (va_up (va_up (fun _ => none) 0 (some ((u6 0)))) 1 (some ((u9 0)))) 2 (some ((u12 0)))))))))]) ++ wR u6 cI r_0) ++ wR u9 cI r_0) ++ wR u12 cI r_0) ++ [(q14, .inr (1, [.int (nI 0), .int (nI 0), .int (nI 0), .int (nI 0), .int (nI 0), .int (nI 0), .int (nI 0), .int (nI 0), .null, .null]))]) H := hP
  have hD : va_D A (((((([(h, .inr (2, [.ref (u2 0), .ref q4, .int (nI 0), .int (nI 5)]))] ++ wB u2 cI b_0) ++ [(q4, .inl (cR, 4, .inr (.inr (.inr (.inr (va_up (va_up (va_up (fun _ => none) 0 (some ((u6 0)))) 1 (some ((u9 0)))) 2 (some ((u12 0)))))))))]) ++ wR u6 cI r_0) ++ wR u9 cI r_0) ++ wR u12 cI r_0) ++ [(q14, .inr (1, [.int (nI 0), .int (nI 0), .int (nI 0), .int (nI 0), .int (nI 0), .int (nI 0), .int (nI 0), .int (nI 0), .null, .null]))]) := hD
  refine W.widen (k := 16) (n := 170) (Nat.le_of_ble_eq_true rfl) (Nat.le_of_ble_eq_true rfl) ?_
  refine lv_dup hx hb dX2_init_43 rfl ?_
  refine o_ctor (w1 := fun u => wR u cI r_0) ((((([(h, .inr (2, [.ref (u2 0), .ref q4, .int (nI 0), .int (nI 5)]))] ++ wB u2 cI b_0) ++ [(q4, .inl (cR, 4, .inr (.inr (.inr (.inr (va_up (va_up (va_up (fun _ => none) 0 (some ((u6 0)))) 1 (some ((u9 0)))) 2 (some ((u12 0)))))))))]) ++ wR u6 cI r_0) ++ wR u9 cI r_0) ++ wR u12 cI r_0) (va_runIN (As := []) (rest := [.ref q14, .int (nI 3), .ref q4]) ⟨hx, hb, hml, hown, hts⟩ (n_X1_init l D cI cR cS cL H.size q14) ⟨va_cnB 0 hts gX2_init_X1_init_n28 rfl rfl rfl hN.2.1 (hts (.initialized RX1) (List.mem_of_getElem? (i := 12) (by decide +kernel))) (by decide +kernel) ⟨Nat.le_of_ble_eq_true rfl, Nat.le_of_ble_eq_true rfl⟩, rfl, (hts (.instanceMethod yX1_init) (List.mem_of_getElem? (i := 22) (by decide +kernel)))⟩ (o_pJ hK hN hO (o_PT (pre := ((((([(h, .inr (2, [.ref (u2 0), .ref q4, .int (nI 0), .int (nI 5)]))] ++ wB u2 cI b_0) ++ [(q4, .inl (cR, 4, .inr (.inr (.inr (.inr (va_up (va_up (va_up (fun _ => none) 0 (some ((u6 0)))) 1 (some ((u9 0)))) 2 (some ((u12 0)))))))))]) ++ wR u6 cI r_0) ++ wR u9 cI r_0) ++ wR u12 cI r_0)) (ws := [(q14, .inr (1, [.int (nI 0), .int (nI 0), .int (nI 0), .int (nI 0), .int (nI 0), .int (nI 0), .int (nI 0), .int (nI 0), .null, .null]))]) hP) (o_DT (pre := ((((([(h, .inr (2, [.ref (u2 0), .ref q4, .int (nI 0), .int (nI 5)]))] ++ wB u2 cI b_0) ++ [(q4, .inl (cR, 4, .inr (.inr (.inr (.inr (va_up (va_up (va_up (fun _ => none) 0 (some ((u6 0)))) 1 (some ((u9 0)))) 2 (some ((u12 0)))))))))]) ++ wR u6 cI r_0) ++ wR u9 cI r_0) ++ wR u12 cI r_0)) (ws := [(q14, .inr (1, [.int (nI 0), .int (nI 0), .int (nI 0), .int (nI 0), .int (nI 0), .int (nI 0), .int (nI 0), .int (nI 0), .null, .null]))]) hD)) rfl rfl hl.1 rfl (lv_room (Nat.le_of_ble_eq_true rfl)) dX2_init_44 ⟨Nat.le_of_ble_eq_true rfl, Nat.le_of_ble_eq_true rfl⟩) hP hD hS hA (fun u15 H locs hu16 hP8 hD8 hS => ?_)
  have hu16 : u15 0 = q14 := hu16
  subst hu16
  have hP := hP8
  have hD := hD8
  have hP : va_P D vwCl (((((([(h, .inr (2, [.ref (u2 0), .ref q4, .int (nI 0), .int (nI 5)]))] ++ wB u2 cI b_0) ++ [(q4, .inl (cR, 4, .inr (.inr (.inr (.inr (va_up (va_up (va_up (fun _ => none) 0 (some ((u6 0)))) 1 (some ((u9 0)))) 2 (some ((u12 0)))))))))]) ++ wR u6 cI r_0) ++ wR u9 cI r_0) ++ wR u12 cI r_0) ++ wR u15 cI r_0) H := hP
  have hD : va_D A (((((([(h, .inr (2, [.ref (u2 0), .ref q4, .int (nI 0), .int (nI 5)]))] ++ wB u2 cI b_0) ++ [(q4, .inl (cR, 4, .inr (.inr (.inr (.inr (va_up (va_up (va_up (fun _ => none) 0 (some ((u6 0)))) 1 (some ((u9 0)))) 2 (some ((u12 0)))))))))]) ++ wR u6 cI r_0) ++ wR u9 cI r_0) ++ wR u12 cI r_0) ++ wR u15 cI r_0) := hD
  refine W.widen (k := 18) (n := 180) (Nat.le_of_ble_eq_true rfl) (Nat.le_of_ble_eq_true rfl) ?_
  refine va_astq hx hb hK hP hD hS 6 1 16 1 rfl rfl rfl rfl (vp_in_nI (Nat.le_of_ble_eq_true rfl) (Nat.le_of_ble_eq_true rfl)) dX2_init_47 (fun H locs hP hD hS => ?_)
  rw [nI_clamp (show 3 < 2 ^ 31 by decide)] at hP hD
  have hP : va_P D vwCl (((((([(h, .inr (2, [.ref (u2 0), .ref q4, .int (nI 0), .int (nI 5)]))] ++ wB u2 cI b_0) ++ [(q4, .inl (cR, 4, .inr (.inr (.inr (.inr (va_up (va_up (va_up (va_up (fun _ => none) 0 (some ((u6 0)))) 1 (some ((u9 0)))) 2 (some ((u12 0)))) 3 (some ((u15 0)))))))))]) ++ wR u6 cI r_0) ++ wR u9 cI r_0) ++ wR u12 cI r_0) ++ wR u15 cI r_0) H := hP
  have hD : va_D A (((((([(h, .inr (2, [.ref (u2 0), .ref q4, .int (nI 0), .int (nI 5)]))] ++ wB u2 cI b_0) ++ [(q4, .inl (cR, 4, .inr (.inr (.inr (.inr (va_up (va_up (va_up (va_up (fun _ => none) 0 (some ((u6 0)))) 1 (some ((u9 0)))) 2 (some ((u12 0)))) 3 (some ((u15 0)))))))))]) ++ wR u6 cI r_0) ++ wR u9 cI r_0) ++ wR u12 cI r_0) ++ wR u15 cI r_0) := hD
  refine lv_iinc (v := nI 4) (lv' := [(1, .int (nI 4)), (0, .ref h)]) hx hb dX2_init_48 hl (k := 0) rfl (by decide) (by decide) rfl (fun ls hl => ?_)
  refine lv_goto (tgt := 30) hx hb dX2_init_51 (by decide) ?_
  refine lv_iload_n hx hb dX2_init_30 rfl (lv_at hl 0 rfl) ?_
  refine o_const (k := 4) hx hb dX2_init_31 (by decide) ?_
  refine o_icmp_ge (tgt := 54) hx hb dX2_init_32 (by decide) (Nat.le_of_ble_eq_true rfl) (Nat.le_of_ble_eq_true rfl) (fun _ => ?_) (fun c0 => absurd c0 (by decide))
  have hDr := o_D_eq (e := .inl (cR, 4, .inr (.inr (.inr (.inr (fun j => some ((o_ql [h, (u2 0), u2 1, u2 2, u2 3, u2 4, q4, (u6 0), u6 1, u6 2, (u9 0), u9 1, u9 2, (u12 0), u12 1, u12 2, (u15 0), u15 1, u15 2]) (7 + 3 * j)))))))) hD (k := 6) rfl
  have hPr := o_Pq_eq (g := fun j => (o_ql [h, (u2 0), u2 1, u2 2, u2 3, u2 4, q4, (u6 0), u6 1, u6 2, (u9 0), u9 1, u9 2, (u12 0), u12 1, u12 2, (u15 0), u15 1, u15 2]) (7 + 3 * j)) hP 6 rfl (fun j hj => by rcases (show j = 0 ∨ j = 1 ∨ j = 2 ∨ j = 3 by omega) with rfl | rfl | rfl | rfl <;> rfl)
  have hP := hPr
  have hD := hDr
  have hP9 := hP.sub (ws' := wS (o_ql [h, (u2 0), u2 1, u2 2, u2 3, u2 4, q4, (u6 0), u6 1, u6 2, (u9 0), u9 1, u9 2, (u12 0), u12 1, u12 2, (u15 0), u15 1, u15 2]) cI cR s_0) [0, 6, 1, 2, 3, 4, 5, 7, 8, 9, 10, 11, 12, 13, 14, 15, 16, 17, 18] rfl
  have hD9 := hD.sub (ws' := wS (o_ql [h, (u2 0), u2 1, u2 2, u2 3, u2 4, q4, (u6 0), u6 1, u6 2, (u9 0), u9 1, u9 2, (u12 0), u12 1, u12 2, (u15 0), u15 1, u15 2]) cI cR s_0) [0, 6, 1, 2, 3, 4, 5, 7, 8, 9, 10, 11, 12, 13, 14, 15, 16, 17, 18] (by decide +kernel) rfl
  exact W.vret hx hb hrt (fun t ht hW => ⟨⟨(o_ql [h, (u2 0), u2 1, u2 2, u2 3, u2 4, q4, (u6 0), u6 1, u6 2, (u9 0), u9 1, u9 2, (u12 0), u12 1, u12 2, (u15 0), u15 1, u15 2]), rfl, rfl, by rw [ht]; exact hP9, by rw [hAe]; exact hD9⟩, by rw [hAe]; exact hS.F ht⟩) hS.2.2 dX2_init_54
