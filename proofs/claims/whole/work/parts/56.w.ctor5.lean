theorem inX5_init_X5 : ∀ w ∈ wsX50, w ∈ wsX5_init := by decide +kernel
set_option maxHeartbeats 8000000 in
set_option maxRecDepth 100000 in
theorem n_X5_init (l : Launch) (D : va_G) (cI cR cS cL : ClassId) (sz : Nat) (h : Nat) : Met l yX5_init wsX5_init ({ frames := 1, cells := 4, slots := 1294, locals := 12 }) (va_Pc [.ref h] (o_J D (o_T cI cR cS cL) [(h, .inr (5, [.null, .null, .int (nI 0), .null, .int (nI 0), .int (nI 0), .int (nI 0), .int (nI 0), .null, .int (nI 0)]))] sz)) (o_qJ D (h, .inr (5, [.null, .null, .int (nI 0), .null, .int (nI 0), .int (nI 0), .int (nI 0), .int (nI 0), .null, .int (nI 0)])) sz (fun u => wM u cI m_0)) 4 1294 (va_A [(h, .inr (5, [.null, .null, .int (nI 0), .null, .int (nI 0), .int (nI 0), .int (nI 0), .int (nI 0), .null, .int (nI 0)]))] sz) := by
  refine Met.ofW (cc := cX5_init) (maxL := 2) (ret := none) (by decide) rfl ?_
  intro p e s m args below meth cd s₁ B hml hv
  obtain ⟨rfl, hsz, hP, hK, hD0, hN, hO⟩ := hv
  have hx := B.exec
  have hb := B.bytes
  have hrt := B.returns
  have hts := atoms_spec (ws := wsX5_init) B.pre
  have hown : s.vm.findClass RX5 = some m.cls := findClass_of_methodNamed B.named
  have hlocks := B.notSynchronized
  have hin : meth.name = "<init>" := (name_of_methodNamed B.named B.method).1
  subst hsz
  have hD := hD0.self (sz := s.heap.size)
  generalize hAe : va_A [(h, .inr (5, [.null, .null, .int (nI 0), .null, .int (nI 0), .int (nI 0), .int (nI 0), .int (nI 0), .null, .int (nI 0)]))] s.heap.size = A at hD ⊢
  have hA : ∀ q : Nat, s.heap.size ≤ q → A q := fun q h => by rw [← hAe]; exact Or.inr h
  have hS : va_S A s.heap s.heap [] := va_S.rf
  have hl := lv_entry ([.ref h]) (n := 2) (Nat.le_of_ble_eq_true rfl)
  rw [lg_entry_eq]
  generalize (lg_sl ([.ref h]) ++ List.replicate (2 - (lg_sl ([.ref h])).length) Slot.unset).toArray = ls at hl ⊢
  have hl : lv_has ls 2 [(0, .ref h)] := hl
  refine lv_aload_n hx hb dX5_init_0 rfl (lv_at hl 0 rfl) ?_
  refine W.objInit hx hb hown (hts (.methodLink RX5 1 objectInit) (List.mem_of_getElem? (i := 1) (by decide +kernel))) (hts (.instanceMethod objectInit) (List.mem_of_getElem? (i := 2) (by decide +kernel))) (hts _ (List.mem_of_getElem? (i := 3) (by decide +kernel))) rfl (by rw [hml]; exact hl.1) rfl dX5_init_1 (Nat.le_of_ble_eq_true rfl) (Nat.le_of_ble_eq_true rfl) ?_
  refine W.eq (g2 := F0 m 4 ls []) rfl ?_
  refine lv_aload_n hx hb dX5_init_4 rfl (lv_at hl 0 rfl) ?_
  refine o_sipush (k := 163) hx hb dX5_init_5 (by decide) ?_
  refine va_newa (atype := .int) (ty := .int) (N' := 163) (a0 := (163, .inl (fun _ => nI 0))) hx hb (hts (.arrayClass .int) (List.mem_of_getElem? (i := 4) (by decide +kernel))) rfl hK hP hD hS hA (fun _ => rfl) (by decide) (by decide) (Nat.le_of_ble_eq_true rfl) (Nat.le_of_ble_eq_true rfl) (Nat.le_of_ble_eq_true rfl) dX5_init_8 (fun q1 cA H hKn hP hD hS => ?_)
  obtain rfl : cI = cA := (o_ty hKn (i := 4) (j := 0) rfl rfl).symm
  have hP : va_P D vwCl ([(h, .inr (5, [.null, .null, .int (nI 0), .null, .int (nI 0), .int (nI 0), .int (nI 0), .int (nI 0), .null, .int (nI 0)]))] ++ [oa cI q1 163 (o_zf)]) H := hP
  have hD : va_D A ([(h, .inr (5, [.null, .null, .int (nI 0), .null, .int (nI 0), .int (nI 0), .int (nI 0), .int (nI 0), .null, .int (nI 0)]))] ++ [oa cI q1 163 (o_zf)]) := hD
  refine W.widen (k := 1) (n := 163) (Nat.le_of_ble_eq_true rfl) (Nat.le_of_ble_eq_true rfl) ?_
  refine va_putF (D := D) (ci := 5) (v := .ref q1) (ty := .array .int) (C := RX5) (T := TX5) (N := 10) hx hb hts inX5_init_X5 tyX5 tyX5_ok nmX5 hown hK hP hD hS 0 rfl rfl 0 (by decide) (hts (.fieldLink RX5 7 "OddNoticeModel" "now" "[I") (List.mem_of_getElem? (i := 5) (by decide +kernel))) (fun _ h9 => h9) rfl hin rfl (by decide +kernel) rfl rfl (Nat.le_of_ble_eq_true rfl) dX5_init_10 (fun H locs hP hD hS => ?_)
  have hP : va_P D vwCl ([(h, .inr (5, [.ref q1, .null, .int (nI 0), .null, .int (nI 0), .int (nI 0), .int (nI 0), .int (nI 0), .null, .int (nI 0)]))] ++ [oa cI q1 163 (o_zf)]) H := hP
  have hD : va_D A ([(h, .inr (5, [.ref q1, .null, .int (nI 0), .null, .int (nI 0), .int (nI 0), .int (nI 0), .int (nI 0), .null, .int (nI 0)]))] ++ [oa cI q1 163 (o_zf)]) := hD
  refine lv_aload_n hx hb dX5_init_13 rfl (lv_at hl 0 rfl) ?_
  refine o_sipush (k := 978) hx hb dX5_init_14 (by decide) ?_
  refine va_newa (atype := .int) (ty := .int) (N' := 978) (a0 := (978, .inl (fun _ => nI 0))) hx hb (hts (.arrayClass .int) (List.mem_of_getElem? (i := 4) (by decide +kernel))) rfl hK hP hD hS hA (fun _ => rfl) (by decide) (by decide) (Nat.le_of_ble_eq_true rfl) (Nat.le_of_ble_eq_true rfl) (Nat.le_of_ble_eq_true rfl) dX5_init_17 (fun q2 cA H hKn hP hD hS => ?_)
  obtain rfl : cI = cA := (o_ty hKn (i := 4) (j := 0) rfl rfl).symm
  have hP : va_P D vwCl (([(h, .inr (5, [.ref q1, .null, .int (nI 0), .null, .int (nI 0), .int (nI 0), .int (nI 0), .int (nI 0), .null, .int (nI 0)]))] ++ [oa cI q1 163 (o_zf)]) ++ [oa cI q2 978 (o_zf)]) H := hP
  have hD : va_D A (([(h, .inr (5, [.ref q1, .null, .int (nI 0), .null, .int (nI 0), .int (nI 0), .int (nI 0), .int (nI 0), .null, .int (nI 0)]))] ++ [oa cI q1 163 (o_zf)]) ++ [oa cI q2 978 (o_zf)]) := hD
  refine W.widen (k := 2) (n := 1141) (Nat.le_of_ble_eq_true rfl) (Nat.le_of_ble_eq_true rfl) ?_
  refine va_putF (D := D) (ci := 5) (v := .ref q2) (ty := .array .int) (C := RX5) (T := TX5) (N := 10) hx hb hts inX5_init_X5 tyX5 tyX5_ok nmX5 hown hK hP hD hS 0 rfl rfl 1 (by decide) (hts (.fieldLink RX5 13 "OddNoticeModel" "past" "[I") (List.mem_of_getElem? (i := 6) (by decide +kernel))) (fun _ h9 => h9) rfl hin rfl (by decide +kernel) rfl rfl (Nat.le_of_ble_eq_true rfl) dX5_init_19 (fun H locs hP hD hS => ?_)
  have hP : va_P D vwCl (([(h, .inr (5, [.ref q1, .ref q2, .int (nI 0), .null, .int (nI 0), .int (nI 0), .int (nI 0), .int (nI 0), .null, .int (nI 0)]))] ++ [oa cI q1 163 (o_zf)]) ++ [oa cI q2 978 (o_zf)]) H := hP
  have hD : va_D A (([(h, .inr (5, [.ref q1, .ref q2, .int (nI 0), .null, .int (nI 0), .int (nI 0), .int (nI 0), .int (nI 0), .null, .int (nI 0)]))] ++ [oa cI q1 163 (o_zf)]) ++ [oa cI q2 978 (o_zf)]) := hD
  refine lv_aload_n hx hb dX5_init_22 rfl (lv_at hl 0 rfl) ?_
  refine o_bipush (k := 60) hx hb dX5_init_23 (by decide) ?_
  refine va_newa (atype := .int) (ty := .int) (N' := 60) (a0 := (60, .inl (fun _ => nI 0))) hx hb (hts (.arrayClass .int) (List.mem_of_getElem? (i := 4) (by decide +kernel))) rfl hK hP hD hS hA (fun _ => rfl) (by decide) (by decide) (Nat.le_of_ble_eq_true rfl) (Nat.le_of_ble_eq_true rfl) (Nat.le_of_ble_eq_true rfl) dX5_init_25 (fun q3 cA H hKn hP hD hS => ?_)
  obtain rfl : cI = cA := (o_ty hKn (i := 4) (j := 0) rfl rfl).symm
  have hP : va_P D vwCl ((([(h, .inr (5, [.ref q1, .ref q2, .int (nI 0), .null, .int (nI 0), .int (nI 0), .int (nI 0), .int (nI 0), .null, .int (nI 0)]))] ++ [oa cI q1 163 (o_zf)]) ++ [oa cI q2 978 (o_zf)]) ++ [oa cI q3 60 (o_zf)]) H := hP
  have hD : va_D A ((([(h, .inr (5, [.ref q1, .ref q2, .int (nI 0), .null, .int (nI 0), .int (nI 0), .int (nI 0), .int (nI 0), .null, .int (nI 0)]))] ++ [oa cI q1 163 (o_zf)]) ++ [oa cI q2 978 (o_zf)]) ++ [oa cI q3 60 (o_zf)]) := hD
  refine W.widen (k := 3) (n := 1201) (Nat.le_of_ble_eq_true rfl) (Nat.le_of_ble_eq_true rfl) ?_
  refine va_putF (D := D) (ci := 5) (v := .ref q3) (ty := .array .int) (C := RX5) (T := TX5) (N := 10) hx hb hts inX5_init_X5 tyX5 tyX5_ok nmX5 hown hK hP hD hS 0 rfl rfl 3 (by decide) (hts (.fieldLink RX5 16 "OddNoticeModel" "text" "[I") (List.mem_of_getElem? (i := 7) (by decide +kernel))) (fun _ h9 => h9) rfl hin rfl (by decide +kernel) rfl rfl (Nat.le_of_ble_eq_true rfl) dX5_init_27 (fun H locs hP hD hS => ?_)
  have hP : va_P D vwCl ((([(h, .inr (5, [.ref q1, .ref q2, .int (nI 0), .ref q3, .int (nI 0), .int (nI 0), .int (nI 0), .int (nI 0), .null, .int (nI 0)]))] ++ [oa cI q1 163 (o_zf)]) ++ [oa cI q2 978 (o_zf)]) ++ [oa cI q3 60 (o_zf)]) H := hP
  have hD : va_D A ((([(h, .inr (5, [.ref q1, .ref q2, .int (nI 0), .ref q3, .int (nI 0), .int (nI 0), .int (nI 0), .int (nI 0), .null, .int (nI 0)]))] ++ [oa cI q1 163 (o_zf)]) ++ [oa cI q2 978 (o_zf)]) ++ [oa cI q3 60 (o_zf)]) := hD
  refine lv_aload_n hx hb dX5_init_30 rfl (lv_at hl 0 rfl) ?_
  refine o_bipush (k := 93) hx hb dX5_init_31 (by decide) ?_
  refine va_newa (atype := .int) (ty := .int) (N' := 93) (a0 := (93, .inl (fun _ => nI 0))) hx hb (hts (.arrayClass .int) (List.mem_of_getElem? (i := 4) (by decide +kernel))) rfl hK hP hD hS hA (fun _ => rfl) (by decide) (by decide) (Nat.le_of_ble_eq_true rfl) (Nat.le_of_ble_eq_true rfl) (Nat.le_of_ble_eq_true rfl) dX5_init_33 (fun q4 cA H hKn hP hD hS => ?_)
  obtain rfl : cI = cA := (o_ty hKn (i := 4) (j := 0) rfl rfl).symm
  have hP : va_P D vwCl (((([(h, .inr (5, [.ref q1, .ref q2, .int (nI 0), .ref q3, .int (nI 0), .int (nI 0), .int (nI 0), .int (nI 0), .null, .int (nI 0)]))] ++ [oa cI q1 163 (o_zf)]) ++ [oa cI q2 978 (o_zf)]) ++ [oa cI q3 60 (o_zf)]) ++ [oa cI q4 93 (o_zf)]) H := hP
  have hD : va_D A (((([(h, .inr (5, [.ref q1, .ref q2, .int (nI 0), .ref q3, .int (nI 0), .int (nI 0), .int (nI 0), .int (nI 0), .null, .int (nI 0)]))] ++ [oa cI q1 163 (o_zf)]) ++ [oa cI q2 978 (o_zf)]) ++ [oa cI q3 60 (o_zf)]) ++ [oa cI q4 93 (o_zf)]) := hD
  refine W.widen (k := 4) (n := 1294) (Nat.le_of_ble_eq_true rfl) (Nat.le_of_ble_eq_true rfl) ?_
  refine va_putF (D := D) (ci := 5) (v := .ref q4) (ty := .array .int) (C := RX5) (T := TX5) (N := 10) hx hb hts inX5_init_X5 tyX5 tyX5_ok nmX5 hown hK hP hD hS 0 rfl rfl 8 (by decide) (hts (.fieldLink RX5 19 "OddNoticeModel" "told" "[I") (List.mem_of_getElem? (i := 8) (by decide +kernel))) (fun _ h9 => h9) rfl hin rfl (by decide +kernel) rfl rfl (Nat.le_of_ble_eq_true rfl) dX5_init_35 (fun H locs hP hD hS => ?_)
  have hP : va_P D vwCl (((([(h, .inr (5, [.ref q1, .ref q2, .int (nI 0), .ref q3, .int (nI 0), .int (nI 0), .int (nI 0), .int (nI 0), .ref q4, .int (nI 0)]))] ++ [oa cI q1 163 (o_zf)]) ++ [oa cI q2 978 (o_zf)]) ++ [oa cI q3 60 (o_zf)]) ++ [oa cI q4 93 (o_zf)]) H := hP
  have hD : va_D A (((([(h, .inr (5, [.ref q1, .ref q2, .int (nI 0), .ref q3, .int (nI 0), .int (nI 0), .int (nI 0), .int (nI 0), .ref q4, .int (nI 0)]))] ++ [oa cI q1 163 (o_zf)]) ++ [oa cI q2 978 (o_zf)]) ++ [oa cI q3 60 (o_zf)]) ++ [oa cI q4 93 (o_zf)]) := hD
  refine lv_aload_n hx hb dX5_init_38 rfl (lv_at hl 0 rfl) ?_
  refine va_get (D := D) (ci := 5) (v := .ref q1) (C := RX5) (T := TX5) (N := 10) hx hb hts inX5_init_X5 hown hK hP 0 rfl rfl 0 (by decide) (hts (.fieldLink RX5 7 "OddNoticeModel" "now" "[I") (List.mem_of_getElem? (i := 5) (by decide +kernel))) (fun _ h9 => h9) rfl dX5_init_39 ?_
  refine o_const (k := 1) hx hb dX5_init_42 (by decide) ?_
  refine o_const (k := 5) hx hb dX5_init_43 (by decide) ?_
  refine o_iast (g := o_zf) hx hb hK hP hD hS 1 0 rfl rfl (Nat.le_of_ble_eq_true rfl) (Nat.le_of_ble_eq_true rfl) dX5_init_44 (fun H locs hP hD hS => ?_)
  have hP : va_P D vwCl (((([(h, .inr (5, [.ref q1, .ref q2, .int (nI 0), .ref q3, .int (nI 0), .int (nI 0), .int (nI 0), .int (nI 0), .ref q4, .int (nI 0)]))] ++ [oa cI q1 163 (va_up o_zf 1 5)]) ++ [oa cI q2 978 (o_zf)]) ++ [oa cI q3 60 (o_zf)]) ++ [oa cI q4 93 (o_zf)]) H := hP
  have hD : va_D A (((([(h, .inr (5, [.ref q1, .ref q2, .int (nI 0), .ref q3, .int (nI 0), .int (nI 0), .int (nI 0), .int (nI 0), .ref q4, .int (nI 0)]))] ++ [oa cI q1 163 (va_up o_zf 1 5)]) ++ [oa cI q2 978 (o_zf)]) ++ [oa cI q3 60 (o_zf)]) ++ [oa cI q4 93 (o_zf)]) := hD
  refine lv_aload_n hx hb dX5_init_45 rfl (lv_at hl 0 rfl) ?_
  refine va_get (D := D) (ci := 5) (v := .ref q1) (C := RX5) (T := TX5) (N := 10) hx hb hts inX5_init_X5 hown hK hP 0 rfl rfl 0 (by decide) (hts (.fieldLink RX5 7 "OddNoticeModel" "now" "[I") (List.mem_of_getElem? (i := 5) (by decide +kernel))) (fun _ h9 => h9) rfl dX5_init_46 ?_
  refine o_const (k := 3) hx hb dX5_init_49 (by decide) ?_
  refine o_const (k := 4294967295) hx hb dX5_init_50 (by decide) ?_
  refine o_iast (g := va_up o_zf 1 5) hx hb hK hP hD hS 1 0 rfl rfl (Nat.le_of_ble_eq_true rfl) (Nat.le_of_ble_eq_true rfl) dX5_init_51 (fun H locs hP hD hS => ?_)
  have hP : va_P D vwCl (((([(h, .inr (5, [.ref q1, .ref q2, .int (nI 0), .ref q3, .int (nI 0), .int (nI 0), .int (nI 0), .int (nI 0), .ref q4, .int (nI 0)]))] ++ [oa cI q1 163 (va_up (va_up o_zf 1 5) 3 4294967295)]) ++ [oa cI q2 978 (o_zf)]) ++ [oa cI q3 60 (o_zf)]) ++ [oa cI q4 93 (o_zf)]) H := hP
  have hD : va_D A (((([(h, .inr (5, [.ref q1, .ref q2, .int (nI 0), .ref q3, .int (nI 0), .int (nI 0), .int (nI 0), .int (nI 0), .ref q4, .int (nI 0)]))] ++ [oa cI q1 163 (va_up (va_up o_zf 1 5) 3 4294967295)]) ++ [oa cI q2 978 (o_zf)]) ++ [oa cI q3 60 (o_zf)]) ++ [oa cI q4 93 (o_zf)]) := hD
  refine o_const (k := 0) hx hb dX5_init_52 (by decide) ?_
  refine lv_istore_n (lv' := [(1, .int (nI 0)), (0, .ref h)]) hx hb dX5_init_53 rfl hl (by decide) rfl (fun ls hl => ?_)
  refine lv_iload_n hx hb dX5_init_54 rfl (lv_at hl 0 rfl) ?_
  refine o_const (k := 4) hx hb dX5_init_55 (by decide) ?_
  refine o_icmp_ge (tgt := 93) hx hb dX5_init_56 (by decide) (Nat.le_of_ble_eq_true rfl) (Nat.le_of_ble_eq_true rfl) (fun c0 => absurd c0 (by decide)) (fun _ => ?_)
  refine lv_aload_n hx hb dX5_init_59 rfl (lv_at hl 1 rfl) ?_
  refine va_get (D := D) (ci := 5) (v := .ref q1) (C := RX5) (T := TX5) (N := 10) hx hb hts inX5_init_X5 hown hK hP 0 rfl rfl 0 (by decide) (hts (.fieldLink RX5 7 "OddNoticeModel" "now" "[I") (List.mem_of_getElem? (i := 5) (by decide +kernel))) (fun _ h9 => h9) rfl dX5_init_60 ?_
  refine o_bipush (k := 15) hx hb dX5_init_63 (by decide) ?_
  refine o_bipush (k := 17) hx hb dX5_init_65 (by decide) ?_
  refine lv_iload_n hx hb dX5_init_67 rfl (lv_at hl 0 rfl) ?_
  refine o_imul (a := 17) (b := 0) (k := 0) hx hb dX5_init_68 rfl ?_
  refine o_iadd (a := 15) (b := 0) (k := 15) hx hb dX5_init_69 rfl ?_
  refine o_const (k := 1) hx hb dX5_init_70 (by decide) ?_
  refine o_iast (g := va_up (va_up o_zf 1 5) 3 4294967295) hx hb hK hP hD hS 1 0 rfl rfl (Nat.le_of_ble_eq_true rfl) (Nat.le_of_ble_eq_true rfl) dX5_init_71 (fun H locs hP hD hS => ?_)
  have hP : va_P D vwCl (((([(h, .inr (5, [.ref q1, .ref q2, .int (nI 0), .ref q3, .int (nI 0), .int (nI 0), .int (nI 0), .int (nI 0), .ref q4, .int (nI 0)]))] ++ [oa cI q1 163 (va_up (va_up (va_up o_zf 1 5) 3 4294967295) 15 1)]) ++ [oa cI q2 978 (o_zf)]) ++ [oa cI q3 60 (o_zf)]) ++ [oa cI q4 93 (o_zf)]) H := hP
  have hD : va_D A (((([(h, .inr (5, [.ref q1, .ref q2, .int (nI 0), .ref q3, .int (nI 0), .int (nI 0), .int (nI 0), .int (nI 0), .ref q4, .int (nI 0)]))] ++ [oa cI q1 163 (va_up (va_up (va_up o_zf 1 5) 3 4294967295) 15 1)]) ++ [oa cI q2 978 (o_zf)]) ++ [oa cI q3 60 (o_zf)]) ++ [oa cI q4 93 (o_zf)]) := hD
  refine lv_aload_n hx hb dX5_init_72 rfl (lv_at hl 1 rfl) ?_
  refine va_get (D := D) (ci := 5) (v := .ref q1) (C := RX5) (T := TX5) (N := 10) hx hb hts inX5_init_X5 hown hK hP 0 rfl rfl 0 (by decide) (hts (.fieldLink RX5 7 "OddNoticeModel" "now" "[I") (List.mem_of_getElem? (i := 5) (by decide +kernel))) (fun _ h9 => h9) rfl dX5_init_73 ?_
  refine o_bipush (k := 15) hx hb dX5_init_76 (by decide) ?_
  refine o_bipush (k := 17) hx hb dX5_init_78 (by decide) ?_
  refine lv_iload_n hx hb dX5_init_80 rfl (lv_at hl 0 rfl) ?_
  refine o_imul (a := 17) (b := 0) (k := 0) hx hb dX5_init_81 rfl ?_
  refine o_iadd (a := 15) (b := 0) (k := 15) hx hb dX5_init_82 rfl ?_
  refine o_const (k := 1) hx hb dX5_init_83 (by decide) ?_
  refine o_iadd (a := 15) (b := 1) (k := 16) hx hb dX5_init_84 rfl ?_
  refine o_const (k := 4294967295) hx hb dX5_init_85 (by decide) ?_
  refine o_iast (g := va_up (va_up (va_up o_zf 1 5) 3 4294967295) 15 1) hx hb hK hP hD hS 1 0 rfl rfl (Nat.le_of_ble_eq_true rfl) (Nat.le_of_ble_eq_true rfl) dX5_init_86 (fun H locs hP hD hS => ?_)
  have hP : va_P D vwCl (((([(h, .inr (5, [.ref q1, .ref q2, .int (nI 0), .ref q3, .int (nI 0), .int (nI 0), .int (nI 0), .int (nI 0), .ref q4, .int (nI 0)]))] ++ [oa cI q1 163 (va_up (va_up (va_up (va_up o_zf 1 5) 3 4294967295) 15 1) 16 4294967295)]) ++ [oa cI q2 978 (o_zf)]) ++ [oa cI q3 60 (o_zf)]) ++ [oa cI q4 93 (o_zf)]) H := hP
  have hD : va_D A (((([(h, .inr (5, [.ref q1, .ref q2, .int (nI 0), .ref q3, .int (nI 0), .int (nI 0), .int (nI 0), .int (nI 0), .ref q4, .int (nI 0)]))] ++ [oa cI q1 163 (va_up (va_up (va_up (va_up o_zf 1 5) 3 4294967295) 15 1) 16 4294967295)]) ++ [oa cI q2 978 (o_zf)]) ++ [oa cI q3 60 (o_zf)]) ++ [oa cI q4 93 (o_zf)]) := hD
  refine lv_iinc (v := nI 1) (lv' := [(1, .int (nI 1)), (0, .ref h)]) hx hb dX5_init_87 hl (k := 0) rfl (by decide) (by decide) rfl (fun ls hl => ?_)
  refine lv_goto (tgt := 54) hx hb dX5_init_90 (by decide) ?_
  refine lv_iload_n hx hb dX5_init_54 rfl (lv_at hl 0 rfl) ?_
  refine o_const (k := 4) hx hb dX5_init_55 (by decide) ?_
  refine o_icmp_ge (tgt := 93) hx hb dX5_init_56 (by decide) (Nat.le_of_ble_eq_true rfl) (Nat.le_of_ble_eq_true rfl) (fun c0 => absurd c0 (by decide)) (fun _ => ?_)
  refine lv_aload_n hx hb dX5_init_59 rfl (lv_at hl 1 rfl) ?_
  refine va_get (D := D) (ci := 5) (v := .ref q1) (C := RX5) (T := TX5) (N := 10) hx hb hts inX5_init_X5 hown hK hP 0 rfl rfl 0 (by decide) (hts (.fieldLink RX5 7 "OddNoticeModel" "now" "[I") (List.mem_of_getElem? (i := 5) (by decide +kernel))) (fun _ h9 => h9) rfl dX5_init_60 ?_
  refine o_bipush (k := 15) hx hb dX5_init_63 (by decide) ?_
  refine o_bipush (k := 17) hx hb dX5_init_65 (by decide) ?_
  refine lv_iload_n hx hb dX5_init_67 rfl (lv_at hl 0 rfl) ?_
  refine o_imul (a := 17) (b := 1) (k := 17) hx hb dX5_init_68 rfl ?_
  refine o_iadd (a := 15) (b := 17) (k := 32) hx hb dX5_init_69 rfl ?_
  refine o_const (k := 1) hx hb dX5_init_70 (by decide) ?_
  refine o_iast (g := va_up (va_up (va_up (va_up o_zf 1 5) 3 4294967295) 15 1) 16 4294967295) hx hb hK hP hD hS 1 0 rfl rfl (Nat.le_of_ble_eq_true rfl) (Nat.le_of_ble_eq_true rfl) dX5_init_71 (fun H locs hP hD hS => ?_)
  have hP : va_P D vwCl (((([(h, .inr (5, [.ref q1, .ref q2, .int (nI 0), .ref q3, .int (nI 0), .int (nI 0), .int (nI 0), .int (nI 0), .ref q4, .int (nI 0)]))] ++ [oa cI q1 163 (va_up (va_up (va_up (va_up (va_up o_zf 1 5) 3 4294967295) 15 1) 16 4294967295) 32 1)]) ++ [oa cI q2 978 (o_zf)]) ++ [oa cI q3 60 (o_zf)]) ++ [oa cI q4 93 (o_zf)]) H := hP
  have hD : va_D A (((([(h, .inr (5, [.ref q1, .ref q2, .int (nI 0), .ref q3, .int (nI 0), .int (nI 0), .int (nI 0), .int (nI 0), .ref q4, .int (nI 0)]))] ++ [oa cI q1 163 (va_up (va_up (va_up (va_up (va_up o_zf 1 5) 3 4294967295) 15 1) 16 4294967295) 32 1)]) ++ [oa cI q2 978 (o_zf)]) ++ [oa cI q3 60 (o_zf)]) ++ [oa cI q4 93 (o_zf)]) := hD
  refine lv_aload_n hx hb dX5_init_72 rfl (lv_at hl 1 rfl) ?_
  refine va_get (D := D) (ci := 5) (v := .ref q1) (C := RX5) (T := TX5) (N := 10) hx hb hts inX5_init_X5 hown hK hP 0 rfl rfl 0 (by decide) (hts (.fieldLink RX5 7 "OddNoticeModel" "now" "[I") (List.mem_of_getElem? (i := 5) (by decide +kernel))) (fun _ h9 => h9) rfl dX5_init_73 ?_
  refine o_bipush (k := 15) hx hb dX5_init_76 (by decide) ?_
  refine o_bipush (k := 17) hx hb dX5_init_78 (by decide) ?_
  refine lv_iload_n hx hb dX5_init_80 rfl (lv_at hl 0 rfl) ?_
  refine o_imul (a := 17) (b := 1) (k := 17) hx hb dX5_init_81 rfl ?_
  refine o_iadd (a := 15) (b := 17) (k := 32) hx hb dX5_init_82 rfl ?_
  refine o_const (k := 1) hx hb dX5_init_83 (by decide) ?_
  refine o_iadd (a := 32) (b := 1) (k := 33) hx hb dX5_init_84 rfl ?_
  refine o_const (k := 4294967295) hx hb dX5_init_85 (by decide) ?_
  refine o_iast (g := va_up (va_up (va_up (va_up (va_up o_zf 1 5) 3 4294967295) 15 1) 16 4294967295) 32 1) hx hb hK hP hD hS 1 0 rfl rfl (Nat.le_of_ble_eq_true rfl) (Nat.le_of_ble_eq_true rfl) dX5_init_86 (fun H locs hP hD hS => ?_)
  have hP : va_P D vwCl (((([(h, .inr (5, [.ref q1, .ref q2, .int (nI 0), .ref q3, .int (nI 0), .int (nI 0), .int (nI 0), .int (nI 0), .ref q4, .int (nI 0)]))] ++ [oa cI q1 163 (va_up (va_up (va_up (va_up (va_up (va_up o_zf 1 5) 3 4294967295) 15 1) 16 4294967295) 32 1) 33 4294967295)]) ++ [oa cI q2 978 (o_zf)]) ++ [oa cI q3 60 (o_zf)]) ++ [oa cI q4 93 (o_zf)]) H := hP
  have hD : va_D A (((([(h, .inr (5, [.ref q1, .ref q2, .int (nI 0), .ref q3, .int (nI 0), .int (nI 0), .int (nI 0), .int (nI 0), .ref q4, .int (nI 0)]))] ++ [oa cI q1 163 (va_up (va_up (va_up (va_up (va_up (va_up o_zf 1 5) 3 4294967295) 15 1) 16 4294967295) 32 1) 33 4294967295)]) ++ [oa cI q2 978 (o_zf)]) ++ [oa cI q3 60 (o_zf)]) ++ [oa cI q4 93 (o_zf)]) := hD
  refine lv_iinc (v := nI 2) (lv' := [(1, .int (nI 2)), (0, .ref h)]) hx hb dX5_init_87 hl (k := 0) rfl (by decide) (by decide) rfl (fun ls hl => ?_)
  refine lv_goto (tgt := 54) hx hb dX5_init_90 (by decide) ?_
  refine lv_iload_n hx hb dX5_init_54 rfl (lv_at hl 0 rfl) ?_
  refine o_const (k := 4) hx hb dX5_init_55 (by decide) ?_
  refine o_icmp_ge (tgt := 93) hx hb dX5_init_56 (by decide) (Nat.le_of_ble_eq_true rfl) (Nat.le_of_ble_eq_true rfl) (fun c0 => absurd c0 (by decide)) (fun _ => ?_)
  refine lv_aload_n hx hb dX5_init_59 rfl (lv_at hl 1 rfl) ?_
  refine va_get (D := D) (ci := 5) (v := .ref q1) (C := RX5) (T := TX5) (N := 10) hx hb hts inX5_init_X5 hown hK hP 0 rfl rfl 0 (by decide) (hts (.fieldLink RX5 7 "OddNoticeModel" "now" "[I") (List.mem_of_getElem? (i := 5) (by decide +kernel))) (fun _ h9 => h9) rfl dX5_init_60 ?_
  refine o_bipush (k := 15) hx hb dX5_init_63 (by decide) ?_
  refine o_bipush (k := 17) hx hb dX5_init_65 (by decide) ?_
  refine lv_iload_n hx hb dX5_init_67 rfl (lv_at hl 0 rfl) ?_
  refine o_imul (a := 17) (b := 2) (k := 34) hx hb dX5_init_68 rfl ?_
  refine o_iadd (a := 15) (b := 34) (k := 49) hx hb dX5_init_69 rfl ?_
  refine o_const (k := 1) hx hb dX5_init_70 (by decide) ?_
  refine o_iast (g := va_up (va_up (va_up (va_up (va_up (va_up o_zf 1 5) 3 4294967295) 15 1) 16 4294967295) 32 1) 33 4294967295) hx hb hK hP hD hS 1 0 rfl rfl (Nat.le_of_ble_eq_true rfl) (Nat.le_of_ble_eq_true rfl) dX5_init_71 (fun H locs hP hD hS => ?_)
  have hP : va_P D vwCl (((([(h, .inr (5, [.ref q1, .ref q2, .int (nI 0), .ref q3, .int (nI 0), .int (nI 0), .int (nI 0), .int (nI 0), .ref q4, .int (nI 0)]))] ++ [oa cI q1 163 (va_up (va_up (va_up (va_up (va_up (va_up (va_up o_zf 1 5) 3 4294967295) 15 1) 16 4294967295) 32 1) 33 4294967295) 49 1)]) ++ [oa cI q2 978 (o_zf)]) ++ [oa cI q3 60 (o_zf)]) ++ [oa cI q4 93 (o_zf)]) H := hP
  have hD : va_D A (((([(h, .inr (5, [.ref q1, .ref q2, .int (nI 0), .ref q3, .int (nI 0), .int (nI 0), .int (nI 0), .int (nI 0), .ref q4, .int (nI 0)]))] ++ [oa cI q1 163 (va_up (va_up (va_up (va_up (va_up (va_up (va_up o_zf 1 5) 3 4294967295) 15 1) 16 4294967295) 32 1) 33 4294967295) 49 1)]) ++ [oa cI q2 978 (o_zf)]) ++ [oa cI q3 60 (o_zf)]) ++ [oa cI q4 93 (o_zf)]) := hD
  refine lv_aload_n hx hb dX5_init_72 rfl (lv_at hl 1 rfl) ?_
  refine va_get (D := D) (ci := 5) (v := .ref q1) (C := RX5) (T := TX5) (N := 10) hx hb hts inX5_init_X5 hown hK hP 0 rfl rfl 0 (by decide) (hts (.fieldLink RX5 7 "OddNoticeModel" "now" "[I") (List.mem_of_getElem? (i := 5) (by decide +kernel))) (fun _ h9 => h9) rfl dX5_init_73 ?_
  refine o_bipush (k := 15) hx hb dX5_init_76 (by decide) ?_
  refine o_bipush (k := 17) hx hb dX5_init_78 (by decide) ?_
  refine lv_iload_n hx hb dX5_init_80 rfl (lv_at hl 0 rfl) ?_
  refine o_imul (a := 17) (b := 2) (k := 34) hx hb dX5_init_81 rfl ?_
  refine o_iadd (a := 15) (b := 34) (k := 49) hx hb dX5_init_82 rfl ?_
  refine o_const (k := 1) hx hb dX5_init_83 (by decide) ?_
  refine o_iadd (a := 49) (b := 1) (k := 50) hx hb dX5_init_84 rfl ?_
  refine o_const (k := 4294967295) hx hb dX5_init_85 (by decide) ?_
  refine o_iast (g := va_up (va_up (va_up (va_up (va_up (va_up (va_up o_zf 1 5) 3 4294967295) 15 1) 16 4294967295) 32 1) 33 4294967295) 49 1) hx hb hK hP hD hS 1 0 rfl rfl (Nat.le_of_ble_eq_true rfl) (Nat.le_of_ble_eq_true rfl) dX5_init_86 (fun H locs hP hD hS => ?_)
  have hP : va_P D vwCl (((([(h, .inr (5, [.ref q1, .ref q2, .int (nI 0), .ref q3, .int (nI 0), .int (nI 0), .int (nI 0), .int (nI 0), .ref q4, .int (nI 0)]))] ++ [oa cI q1 163 (va_up (va_up (va_up (va_up (va_up (va_up (va_up (va_up o_zf 1 5) 3 4294967295) 15 1) 16 4294967295) 32 1) 33 4294967295) 49 1) 50 4294967295)]) ++ [oa cI q2 978 (o_zf)]) ++ [oa cI q3 60 (o_zf)]) ++ [oa cI q4 93 (o_zf)]) H := hP
  have hD : va_D A (((([(h, .inr (5, [.ref q1, .ref q2, .int (nI 0), .ref q3, .int (nI 0), .int (nI 0), .int (nI 0), .int (nI 0), .ref q4, .int (nI 0)]))] ++ [oa cI q1 163 (va_up (va_up (va_up (va_up (va_up (va_up (va_up (va_up o_zf 1 5) 3 4294967295) 15 1) 16 4294967295) 32 1) 33 4294967295) 49 1) 50 4294967295)]) ++ [oa cI q2 978 (o_zf)]) ++ [oa cI q3 60 (o_zf)]) ++ [oa cI q4 93 (o_zf)]) := hD
  refine lv_iinc (v := nI 3) (lv' := [(1, .int (nI 3)), (0, .ref h)]) hx hb dX5_init_87 hl (k := 0) rfl (by decide) (by decide) rfl (fun ls hl => ?_)
  refine lv_goto (tgt := 54) hx hb dX5_init_90 (by decide) ?_
  refine lv_iload_n hx hb dX5_init_54 rfl (lv_at hl 0 rfl) ?_
  refine o_const (k := 4) hx hb dX5_init_55 (by decide) ?_
  refine o_icmp_ge (tgt := 93) hx hb dX5_init_56 (by decide) (Nat.le_of_ble_eq_true rfl) (Nat.le_of_ble_eq_true rfl) (fun c0 => absurd c0 (by decide)) (fun _ => ?_)
  refine lv_aload_n hx hb dX5_init_59 rfl (lv_at hl 1 rfl) ?_
  refine va_get (D := D) (ci := 5) (v := .ref q1) (C := RX5) (T := TX5) (N := 10) hx hb hts inX5_init_X5 hown hK hP 0 rfl rfl 0 (by decide) (hts (.fieldLink RX5 7 "OddNoticeModel" "now" "[I") (List.mem_of_getElem? (i := 5) (by decide +kernel))) (fun _ h9 => h9) rfl dX5_init_60 ?_
  refine o_bipush (k := 15) hx hb dX5_init_63 (by decide) ?_
  refine o_bipush (k := 17) hx hb dX5_init_65 (by decide) ?_
  refine lv_iload_n hx hb dX5_init_67 rfl (lv_at hl 0 rfl) ?_
  refine o_imul (a := 17) (b := 3) (k := 51) hx hb dX5_init_68 rfl ?_
  refine o_iadd (a := 15) (b := 51) (k := 66) hx hb dX5_init_69 rfl ?_
  refine o_const (k := 1) hx hb dX5_init_70 (by decide) ?_
  refine o_iast (g := va_up (va_up (va_up (va_up (va_up (va_up (va_up (va_up o_zf 1 5) 3 4294967295) 15 1) 16 4294967295) 32 1) 33 4294967295) 49 1) 50 4294967295) hx hb hK hP hD hS 1 0 rfl rfl (Nat.le_of_ble_eq_true rfl) (Nat.le_of_ble_eq_true rfl) dX5_init_71 (fun H locs hP hD hS => ?_)
  have hP : va_P D vwCl (((([(h, .inr (5, [.ref q1, .ref q2, .int (nI 0), .ref q3, .int (nI 0), .int (nI 0), .int (nI 0), .int (nI 0), .ref q4, .int (nI 0)]))] ++ [oa cI q1 163 (va_up (va_up (va_up (va_up (va_up (va_up (va_up (va_up (va_up o_zf 1 5) 3 4294967295) 15 1) 16 4294967295) 32 1) 33 4294967295) 49 1) 50 4294967295) 66 1)]) ++ [oa cI q2 978 (o_zf)]) ++ [oa cI q3 60 (o_zf)]) ++ [oa cI q4 93 (o_zf)]) H := hP
  have hD : va_D A (((([(h, .inr (5, [.ref q1, .ref q2, .int (nI 0), .ref q3, .int (nI 0), .int (nI 0), .int (nI 0), .int (nI 0), .ref q4, .int (nI 0)]))] ++ [oa cI q1 163 (va_up (va_up (va_up (va_up (va_up (va_up (va_up (va_up (va_up o_zf 1 5) 3 4294967295) 15 1) 16 4294967295) 32 1) 33 4294967295) 49 1) 50 4294967295) 66 1)]) ++ [oa cI q2 978 (o_zf)]) ++ [oa cI q3 60 (o_zf)]) ++ [oa cI q4 93 (o_zf)]) := hD
  refine lv_aload_n hx hb dX5_init_72 rfl (lv_at hl 1 rfl) ?_
  refine va_get (D := D) (ci := 5) (v := .ref q1) (C := RX5) (T := TX5) (N := 10) hx hb hts inX5_init_X5 hown hK hP 0 rfl rfl 0 (by decide) (hts (.fieldLink RX5 7 "OddNoticeModel" "now" "[I") (List.mem_of_getElem? (i := 5) (by decide +kernel))) (fun _ h9 => h9) rfl dX5_init_73 ?_
  refine o_bipush (k := 15) hx hb dX5_init_76 (by decide) ?_
  refine o_bipush (k := 17) hx hb dX5_init_78 (by decide) ?_
  refine lv_iload_n hx hb dX5_init_80 rfl (lv_at hl 0 rfl) ?_
  refine o_imul (a := 17) (b := 3) (k := 51) hx hb dX5_init_81 rfl ?_
  refine o_iadd (a := 15) (b := 51) (k := 66) hx hb dX5_init_82 rfl ?_
  refine o_const (k := 1) hx hb dX5_init_83 (by decide) ?_
  refine o_iadd (a := 66) (b := 1) (k := 67) hx hb dX5_init_84 rfl ?_
  refine o_const (k := 4294967295) hx hb dX5_init_85 (by decide) ?_
  refine o_iast (g := va_up (va_up (va_up (va_up (va_up (va_up (va_up (va_up (va_up o_zf 1 5) 3 4294967295) 15 1) 16 4294967295) 32 1) 33 4294967295) 49 1) 50 4294967295) 66 1) hx hb hK hP hD hS 1 0 rfl rfl (Nat.le_of_ble_eq_true rfl) (Nat.le_of_ble_eq_true rfl) dX5_init_86 (fun H locs hP hD hS => ?_)
  have hP : va_P D vwCl (((([(h, .inr (5, [.ref q1, .ref q2, .int (nI 0), .ref q3, .int (nI 0), .int (nI 0), .int (nI 0), .int (nI 0), .ref q4, .int (nI 0)]))] ++ [oa cI q1 163 (va_up (va_up (va_up (va_up (va_up (va_up (va_up (va_up (va_up (va_up o_zf 1 5) 3 4294967295) 15 1) 16 4294967295) 32 1) 33 4294967295) 49 1) 50 4294967295) 66 1) 67 4294967295)]) ++ [oa cI q2 978 (o_zf)]) ++ [oa cI q3 60 (o_zf)]) ++ [oa cI q4 93 (o_zf)]) H := hP
  have hD : va_D A (((([(h, .inr (5, [.ref q1, .ref q2, .int (nI 0), .ref q3, .int (nI 0), .int (nI 0), .int (nI 0), .int (nI 0), .ref q4, .int (nI 0)]))] ++ [oa cI q1 163 (va_up (va_up (va_up (va_up (va_up (va_up (va_up (va_up (va_up (va_up o_zf 1 5) 3 4294967295) 15 1) 16 4294967295) 32 1) 33 4294967295) 49 1) 50 4294967295) 66 1) 67 4294967295)]) ++ [oa cI q2 978 (o_zf)]) ++ [oa cI q3 60 (o_zf)]) ++ [oa cI q4 93 (o_zf)]) := hD
  refine lv_iinc (v := nI 4) (lv' := [(1, .int (nI 4)), (0, .ref h)]) hx hb dX5_init_87 hl (k := 0) rfl (by decide) (by decide) rfl (fun ls hl => ?_)
  refine lv_goto (tgt := 54) hx hb dX5_init_90 (by decide) ?_
  refine lv_iload_n hx hb dX5_init_54 rfl (lv_at hl 0 rfl) ?_
  refine o_const (k := 4) hx hb dX5_init_55 (by decide) ?_
  refine o_icmp_ge (tgt := 93) hx hb dX5_init_56 (by decide) (Nat.le_of_ble_eq_true rfl) (Nat.le_of_ble_eq_true rfl) (fun _ => ?_) (fun c0 => absurd c0 (by decide))
  have hP9 := hP.sub (ws' := wM (o_ql [h, q1, q2, q3, q4]) cI m_0) [0, 1, 2, 3, 4] rfl
  have hD9 := hD.sub (ws' := wM (o_ql [h, q1, q2, q3, q4]) cI m_0) [0, 1, 2, 3, 4] (by decide +kernel) rfl
  exact W.vret hx hb hrt (fun t ht hW => ⟨⟨(o_ql [h, q1, q2, q3, q4]), rfl, rfl, by rw [ht]; exact hP9, by rw [hAe]; exact hD9⟩, by rw [hAe]; exact hS.F ht⟩) hS.2.2 dX5_init_93
