theorem inX5_init_X5 : ∀ w ∈ wsX50, w ∈ wsX5_init := by decide +kernel
set_option maxHeartbeats 8000000 in
set_option maxRecDepth 100000 in
theorem n_X5_init (l : Launch) (D : va_G) (cI cR cS cL : ClassId) (sz : Nat) (h : Nat) : Met l yX5_init wsX5_init ({ frames := 1, cells := 4, slots := 1294, locals := 12 }) (va_Pc [.ref h] (o_J D (o_T cI cR cS cL) [(h, .inr (5, [.null, .null, .int (nI 0), .null, .int (nI 0), .int (nI 0), .int (nI 0), .int (nI 0), .null, .int (nI 0)]))] sz)) (o_qJ D (h, .inr (5, [.null, .null, .int (nI 0), .null, .int (nI 0), .int (nI 0), .int (nI 0), .int (nI 0), .null, .int (nI 0)])) sz (fun u => wM u cI m_0)) 4 1294 (va_A [(h, .inr (5, [.null, .null, .int (nI 0), .null, .int (nI 0), .int (nI 0), .int (nI 0), .int (nI 0), .null, .int (nI 0)]))] sz) := by
  refine Met.ofW (cc := cX5_init) (maxL := 2) (ret := none) (by decide) rfl ?_
  intro p e s m args below meth cd s₁ B hml hv
  obtain ⟨rfl, hsz, hP, hK, hD0, hN, hO⟩ := hv
  have hx := B.exec
  have hb := B.bytes
  have hrt := B.returns
  have hts := atoms_spec (ws := wsX5_init) B.pre
  have hown : s.vm.findClass RX5 = some m.cls := findClass_of_methodNamed B.named
  have hlocks := B.notSynchronized
  have hin : meth.name = "<init>" := (name_of_methodNamed B.named B.method).1
  subst hsz
  have hD := hD0.self (sz := s.heap.size)
  generalize hAe : va_A [(h, .inr (5, [.null, .null, .int (nI 0), .null, .int (nI 0), .int (nI 0), .int (nI 0), .int (nI 0), .null, .int (nI 0)]))] s.heap.size = A at hD ⊢
  have hA : ∀ q : Nat, s.heap.size ≤ q → A q := fun q h => by rw [← hAe]; exact Or.inr h
  have hS : va_S A s.heap s.heap [] := va_S.rf
  have hl := lv_entry ([.ref h]) (n := 2) (Nat.le_of_ble_eq_true rfl)
  rw [lg_entry_eq]
  generalize (lg_sl ([.ref h]) ++ List.replicate (2 - (lg_sl ([.ref h])).length) Slot.unset).toArray = ls at hl ⊢
  have hl : lv_has ls 2 [(0, .ref h)] := hl
  refine lv_aload_n hx hb dX5_init_0 rfl (lv_at hl 0 rfl) ?_
  refine W.objInit hx hb hown (hts (.methodLink RX5 1 objectInit) (List.mem_of_getElem? (i := 1) (by decide +kernel))) (hts (.instanceMethod objectInit) (List.mem_of_getElem? (i := 2) (by decide +kernel))) (hts _ (List.mem_of_getElem? (i := 3) (by decide +kernel))) rfl (by rw [hml]; exact hl.1) rfl dX5_init_1 (Nat.le_of_ble_eq_true rfl) (Nat.le_of_ble_eq_true rfl) ?_
  refine W.eq (g2 := F0 m 4 ls []) rfl ?_
  refine lv_aload_n hx hb dX5_init_4 rfl (lv_at hl 0 rfl) ?_
  refine o_sipush (k := 163) hx hb dX5_init_5 (by decide) ?_
  refine va_newa (atype := .int) (ty := .int) (N' := 163) (a0 := (163, .inl (fun _ => nI 0))) hx hb (hts (.arrayClass .int) (List.mem_of_getElem? (i := 4) (by decide +kernel))) rfl hK hP hD hS hA (fun _ => rfl) (by decide) (by decide) (Nat.le_of_ble_eq_true rfl) (Nat.le_of_ble_eq_true rfl) (Nat.le_of_ble_eq_true rfl) dX5_init_8 (fun q1 cA H hKn hP hD hS => ?_)
  obtain rfl : cI = cA := (o_ty hKn (i := 4) (j := 0) rfl rfl).symm
  have hP : va_P D vwCl ([(h, .inr (5, [.null, .null, .int (nI 0), .null, .int (nI 0), .int (nI 0), .int (nI 0), .int (nI 0), .null, .int (nI 0)]))] ++ [oa cI q1 163 (o_zf)]) H := hP
  have hD : va_D A ([(h, .inr (5, [.null, .null, .int (nI 0), .null, .int (nI 0), .int (nI 0), .int (nI 0), .int (nI 0), .null, .int (nI 0)]))] ++ [oa cI q1 163 (o_zf)]) := hD
  refine W.widen (k := 1) (n := 163) (Nat.le_of_ble_eq_true rfl) (Nat.le_of_ble_eq_true rfl) ?_
  refine va_putF (D := D) (ci := 5) (v := .ref q1) (ty := .array .int) (C := RX5) (T := TX5) (N := 10) hx hb hts inX5_init_X5 tyX5 tyX5_ok nmX5 hown hK hP hD hS 0 rfl rfl 0 (by decide) (hts (.fieldLink RX5 7 "OddNoticeModel" "now" "[I") (List.mem_of_getElem? (i := 5) (by decide +kernel))) (fun _ h9 => h9) rfl hin rfl (by decide +kernel) rfl rfl (Nat.le_of_ble_eq_true rfl) dX5_init_10 (fun H locs hP hD hS => ?_)
  have hP : va_P D vwCl ([(h, .inr (5, [.ref q1, .null, .int (nI 0), .null, .int (nI 0), .int (nI 0), .int (nI 0), .int (nI 0), .null, .int (nI 0)]))] ++ [oa cI q1 163 (o_zf)]) H := hP
  have hD : va_D A ([(h, .inr (5, [.ref q1, .null, .int (nI 0), .null, .int (nI 0), .int (nI 0), .int (nI 0), .int (nI 0), .null, .int (nI 0)]))] ++ [oa cI q1 163 (o_zf)]) := hD
  refine lv_aload_n hx hb dX5_init_13 rfl (lv_at hl 0 rfl) ?_
  refine o_sipush (k := 978) hx hb dX5_init_14 (by decide) ?_
  refine va_newa (atype := .int) (ty := .int) (N' := 978) (a0 := (978, .inl (fun _ => nI 0))) hx hb (hts (.arrayClass .int) (List.mem_of_getElem? (i := 4) (by decide +kernel))) rfl hK hP hD hS hA (fun _ => rfl) (by decide) (by decide) (Nat.le_of_ble_eq_true rfl) (Nat.le_of_ble_eq_true rfl) (Nat.le_of_ble_eq_true rfl) dX5_init_17 (fun q2 cA H hKn hP hD hS => ?_)
  obtain rfl : cI = cA := (o_ty hKn (i := 4) (j := 0) rfl rfl).symm
  have hP : va_P D vwCl (([(h, .inr (5, [.ref q1, .null, .int (nI 0), .null, .int (nI 0), .int (nI 0), .int (nI 0), .int (nI 0), .null, .int (nI 0)]))] ++ [oa cI q1 163 (o_zf)]) ++ [oa cI q2 978 (o_zf)]) H := hP
  have hD : va_D A (([(h, .inr (5, [.ref q1, .null, .int (nI 0), .null, .int (nI 0), .int (nI 0), .int (nI 0), .int (nI 0), .null, .int (nI 0)]))] ++ [oa cI q1 163 (o_zf)]) ++ [oa cI q2 978 (o_zf)]) := hD
  refine W.widen (k := 2) (n := 1141) (Nat.le_of_ble_eq_true rfl) (Nat.le_of_ble_eq_true rfl) ?_
  refine va_putF (D := D) (ci := 5) (v := .ref q2) (ty := .array .int) (C := RX5) (T := TX5) (N := 10) hx hb hts inX5_init_X5 tyX5 tyX5_ok nmX5 hown hK hP hD hS 0 rfl rfl 1 (by decide) (hts (.fieldLink RX5 13 "OddNoticeModel" "past" "[I") (List.mem_of_getElem? (i := 6) (by decide +kernel))) (fun _ h9 => h9) rfl hin rfl (by decide +kernel) rfl rfl (Nat.le_of_ble_eq_true rfl) dX5_init_19 (fun H locs hP hD hS => ?_)
  have hP : va_P D vwCl (([(h, .inr (5, [.ref q1, .ref q2, .int (nI 0), .null, .int (nI 0), .int (nI 0), .int (nI 0), .int (nI 0), .null, .int (nI 0)]))] ++ [oa cI q1 163 (o_zf)]) ++ [oa cI q2 978 (o_zf)]) H := hP
  have hD : va_D A (([(h, .inr (5, [.ref q1, .ref q2, .int (nI 0), .null, .int (nI 0), .int (nI 0), .int (nI 0), .int (nI 0), .null, .int (nI 0)]))] ++ [oa cI q1 163 (o_zf)]) ++ [oa cI q2 978 (o_zf)]) := hD
  refine lv_aload_n hx hb dX5_init_22 rfl (lv_at hl 0 rfl) ?_
  refine o_bipush (k := 60) hx hb dX5_init_23 (by decide) ?_
  refine va_newa (atype := .int) (ty := .int) (N' := 60) (a0 := (60, .inl (fun _ => nI 0))) hx hb (hts (.arrayClass .int) (List.mem_of_getElem? (i := 4) (by decide +kernel))) rfl hK hP hD hS hA (fun _ => rfl) (by decide) (by decide) (Nat.le_of_ble_eq_true rfl) (Nat.le_of_ble_eq_true rfl) (Nat.le_of_ble_eq_true rfl) dX5_init_25 (fun q3 cA H hKn hP hD hS => ?_)
  obtain rfl : cI = cA := (o_ty hKn (i := 4) (j := 0) rfl rfl).symm
  have hP : va_P D vwCl ((([(h, .inr (5, [.ref q1, .ref q2, .int (nI 0), .null, .int (nI 0), .int (nI 0), .int (nI 0), .int (nI 0), .null, .int (nI 0)]))] ++ [oa cI q1 163 (o_zf)]) ++ [oa cI q2 978 (o_zf)]) ++ [oa cI q3 60 (o_zf)]) H := hP
  have hD : va_D A ((([(h, .inr (5, [.ref q1, .ref q2, .int (nI 0), .null, .int (nI 0), .int (nI 0), .int (nI 0), .int (nI 0), .null, .int (nI 0)]))] ++ [oa cI q1 163 (o_zf)]) ++ [oa cI q2 978 (o_zf)]) ++ [oa cI q3 60 (o_zf)]) := hD
  refine W.widen (k := 3) (n := 1201) (Nat.le_of_ble_eq_true rfl) (Nat.le_of_ble_eq_true rfl) ?_
  refine va_putF (D := D) (ci := 5) (v := .ref q3) (ty := .array .int) (C := RX5) (T := TX5) (N := 10) hx hb hts inX5_init_X5 tyX5 tyX5_ok nmX5 hown hK hP hD hS 0 rfl rfl 3 (by decide) (hts (.fieldLink RX5 16 "OddNoticeModel" "text" "[I") (List.mem_of_getElem? (i := 7) (by decide +kernel))) (fun _ h9 => h9) rfl hin rfl (by decide +kernel) rfl rfl (Nat.le_of_ble_eq_true rfl) dX5_init_27 (fun H locs hP hD hS => ?_)
  have hP : va_P D vwCl ((([(h, .inr (5, [.ref q1, .ref q2, .int (nI 0), .ref q3, .int (nI 0), .int (nI 0), .int (nI 0), .int (nI 0), .null, .int (nI 0)]))] ++ [oa cI q1 163 (o_zf)]) ++ [oa cI q2 978 (o_zf)]) ++ [oa cI q3 60 (o_zf)]) H := hP
  have hD : va_D A ((([(h, .inr (5, [.ref q1, .ref q2, .int (nI 0), .ref q3, .int (nI 0), .int (nI 0), .int (nI 0), .int (nI 0), .null, .int (nI 0)]))] ++ [oa cI q1 163 (o_zf)]) ++ [oa cI q2 978 (o_zf)]) ++ [oa cI q3 60 (o_zf)]) := hD
  refine lv_aload_n hx hb dX5_init_30 rfl (lv_at hl 0 rfl) ?_
  refine o_bipush (k := 93) hx hb dX5_init_31 (by decide) ?_
  refine va_newa (atype := .int) (ty := .int) (N' := 93) (a0 := (93, .inl (fun _ => nI 0))) hx hb (hts (.arrayClass .int) (List.mem_of_getElem? (i := 4) (by decide +kernel))) rfl hK hP hD hS hA (fun _ => rfl) (by decide) (by decide) (Nat.le_of_ble_eq_true rfl) (Nat.le_of_ble_eq_true rfl) (Nat.le_of_ble_eq_true rfl) dX5_init_33 (fun q4 cA H hKn hP hD hS => ?_)
  obtain rfl : cI = cA := (o_ty hKn (i := 4) (j := 0) rfl rfl).symm
  have hP : va_P D vwCl (((([(h, .inr (5, [.ref q1, .ref q2, .int (nI 0), .ref q3, .int (nI 0), .int (nI 0), .int (nI 0), .int (nI 0), .null, .int (nI 0)]))] ++ [oa cI q1 163 (o_zf)]) ++ [oa cI q2 978 (o_zf)]) ++ [oa cI q3 60 (o_zf)]) ++ [oa cI q4 93 (o_zf)]) H := hP
  have hD : va_D A (((([(h, .inr (5, [.ref q1, .ref q2, .int (nI 0), .ref q3, .int (nI 0), .int (nI 0), .int (nI 0), .int (nI 0), .null, .int (nI 0)]))] ++ [oa cI q1 163 (o_zf)]) ++ [oa cI q2 978 (o_zf)]) ++ [oa cI q3 60 (o_zf)]) ++ [oa cI q4 93 (o_zf)]) := hD
  refine W.widen (k := 4) (n := 1294) (Nat.le_of_ble_eq_true rfl) (Nat.le_of_ble_eq_true rfl) ?_
  refine va_putF (D := D) (ci := 5) (v := .ref q4) (ty := .array .int) (C := RX5) (T := TX5) (N := 10) hx hb hts inX5_init_X5 tyX5 tyX5_ok nmX5 hown hK hP hD hS 0 rfl rfl 8 (by decide) (hts (.fieldLink RX5 19 "OddNoticeModel" "told" "[I") (List.mem_of_getElem? (i := 8) (by decide +kernel))) (fun _ h9 => h9) rfl hin rfl (by decide +kernel) rfl rfl (Nat.le_of_ble_eq_true rfl) dX5_init_35 (fun H locs hP hD hS => ?_)
  have hP : va_P D vwCl (((([(h, .inr (5, [.ref q1, .ref q2, .int (nI 0), .ref q3, .int (nI 0), .int (nI 0), .int (nI 0), .int (nI 0), .ref q4, .int (nI 0)]))] ++ [oa cI q1 163 (o_zf)]) ++ [oa cI q2 978 (o_zf)]) ++ [oa cI q3 60 (o_zf)]) ++ [oa cI q4 93 (o_zf)]) H := hP
  have hD : va_D A (((([(h, .inr (5, [.ref q1, .ref q2, .int (nI 0), .ref q3, .int (nI 0), .int (nI 0), .int (nI 0), .int (nI 0), .ref q4, .int (nI 0)]))] ++ [oa cI q1 163 (o_zf)]) ++ [oa cI q2 978 (o_zf)]) ++ [oa cI q3 60 (o_zf)]) ++ [oa cI q4 93 (o_zf)]) := hD
  refine lv_aload_n hx hb dX5_init_38 rfl (lv_at hl 0 rfl) ?_
  refine va_get (D := D) (ci := 5) (v := .ref q1) (C := RX5) (T := TX5) (N := 10) hx hb hts inX5_init_X5 hown hK hP 0 rfl rfl 0 (by decide) (hts (.fieldLink RX5 7 "OddNoticeModel" "now" "[I") (List.mem_of_getElem? (i := 5) (by decide +kernel))) (fun _ h9 => h9) rfl dX5_init_39 ?_
  refine o_const (k := 1) hx hb dX5_init_42 (by decide) ?_
  refine o_const (k := 5) hx hb dX5_init_43 (by decide) ?_
  refine o_iast (g := o_zf) hx hb hK hP hD hS 1 0 rfl rfl (Nat.le_of_ble_eq_true rfl) (Nat.le_of_ble_eq_true rfl) dX5_init_44 (fun H locs hP hD hS => ?_)
  have hP : va_P D vwCl (((([(h, .inr (5, [.ref q1, .ref q2, .int (nI 0), .ref q3, .int (nI 0), .int (nI 0), .int (nI 0), .int (nI 0), .ref q4, .int (nI 0)]))] ++ [oa cI q1 163 (va_up o_zf 1 5)]) ++ [oa cI q2 978 (o_zf)]) ++ [oa cI q3 60 (o_zf)]) ++ [oa cI q4 93 (o_zf)]) H := hP
  have hD : va_D A (((([(h, .inr (5, [.ref q1, .ref q2, .int (nI 0), .ref q3, .int (nI 0), .int (nI 0), .int (nI 0), .int (nI 0), .ref q4, .int (nI 0)]))] ++ [oa cI q1 163 (va_up o_zf 1 5)]) ++ [oa cI q2 978 (o_zf)]) ++ [oa cI q3 60 (o_zf)]) ++ [oa cI q4 93 (o_zf)]) := hD
  refine lv_aload_n hx hb dX5_init_45 rfl (lv_at hl 0 rfl) ?_
  refine va_get (D := D) (ci := 5) (v := .ref q1) (C := RX5) (T := TX5) (N := 10) hx hb hts inX5_init_X5 hown hK hP 0 rfl rfl 0 (by decide) (hts (.fieldLink RX5 7 "OddNoticeModel" "now" "[I") (List.mem_of_getElem? (i := 5) (by decide +kernel))) (fun _ h9 => h9) rfl dX5_init_46 ?_
  refine o_const (k := 3) hx hb dX5_init_49 (by decide) ?_
  refine o_const (k := 4294967295) hx hb dX5_init_50 (by decide) ?_
  refine o_iast (g := va_up o_zf 1 5) hx hb hK hP hD hS 1 0 rfl rfl (Nat.le_of_ble_eq_true rfl) (Nat.le_of_ble_eq_true rfl) dX5_init_51 (fun H locs hP hD hS => ?_)
  have hP : va_P D vwCl (((([(h, .inr (5, [.ref q1, .ref q2, .int (nI 0), .ref q3, .int (nI 0), .int (nI 0), .int (nI 0), .int (nI 0), .ref q4, .int (nI 0)]))] ++ [oa cI q1 163 (va_up (va_up o_zf 1 5) 3 4294967295)]) ++ [oa cI q2 978 (o_zf)]) ++ [oa cI q3 60 (o_zf)]) ++ [oa cI q4 93 (o_zf)]) H := hP
  have hD : va_D A (((([(h, .inr (5, [.ref q1, .ref q2, .int (nI 0), .ref q3, .int (nI 0), .int (nI 0), .int (nI 0), .int (nI 0), .ref q4, .int (nI 0)]))] ++ [oa cI q1 163 (va_up (va_up o_zf 1 5) 3 4294967295)]) ++ [oa cI q2 978 (o_zf)]) ++ [oa cI q3 60 (o_zf)]) ++ [oa cI q4 93 (o_zf)]) := hD
  refine o_const (k := 0) hx hb dX5_init_52 (by decide) ?_
  refine lv_istore_n (lv' := [(1, .int (nI 0)), (0, .ref h)]) hx hb dX5_init_53 rfl hl (by decide) rfl (fun ls hl => ?_)
  refine lv_iload_n hx hb dX5_init_54 rfl (lv_at hl 0 rfl) ?_
  refine o_const (k := 4) hx hb dX5_init_55 (by decide) ?_
  refine o_icmp_ge (tgt := 93) hx hb dX5_init_56 (by decide) (Nat.le_of_ble_eq_true rfl) (Nat.le_of_ble_eq_true rfl) (fun c0 => absurd c0 (by decide)) (fun _ => ?_)
  refine lv_aload_n hx hb dX5_init_59 rfl (lv_at hl 1 rfl) ?_
  refine va_get (D := D) (ci := 5) (v := .ref q1) (C := RX5) (T := TX5) (N := 10) hx hb hts inX5_init_X5 hown hK hP 0 rfl rfl 0 (by decide) (hts (.fieldLink RX5 7 "OddNoticeModel" "now" "[I") (List.mem_of_getElem? (i := 5) (by decide +kernel))) (fun _ h9 => h9) rfl dX5_init_60 ?_
  refine o_bipush (k := 15) hx hb dX5_init_63 (by decide) ?_
  refine o_bipush (k := 17) hx hb dX5_init_65 (by decide) ?_
  refine lv_iload_n hx hb dX5_init_67 rfl (lv_at hl 0 rfl) ?_
  refine o_imul (a := 17) (b := 0) (k := 0) hx hb dX5_init_68 rfl ?_
  refine o_iadd (a := 15) (b := 0) (k := 15) hx hb dX5_init_69 rfl ?_
  refine o_const (k := 1) hx hb dX5_init_70 (by decide) ?_
  refine o_iast (g := va_up (va_up o_zf 1 5) 3 4294967295) hx hb hK hP hD hS 1 0 rfl rfl (Nat.le_of_ble_eq_true rfl) (Nat.le_of_ble_eq_true rfl) dX5_init_71 (fun H locs hP hD hS => ?_)
  have hP : va_P D vwCl (((([(h, .inr (5, [.ref q1, .ref q2, .int (nI 0), .ref q3, .int (nI 0), .int (nI 0), .int (nI 0), .int (nI 0), .ref q4, .int (nI 0)]))] ++ [oa cI q1 163 (va_up (va_up (va_up o_zf 1 5) 3 4294967295) 15 1)]) ++ [oa cI q2 978 (o_zf)]) ++ [oa cI q3 60 (o_zf)]) ++ [oa cI q4 93 (o_zf)]) H := hP
  have hD : va_D A (((([(h, .inr (5, [.ref q1, .ref q2, .int (nI 0), .ref q3, .int (nI 0), .int (nI 0), .int (nI 0), .int (nI 0), .ref q4, .int (nI 0)]))] ++ [oa cI q1 163 (va_up (va_up (va_up o_zf 1 5) 3 4294967295) 15 1)]) ++ [oa cI q2 978 (o_zf)]) ++ [oa cI q3 60 (o_zf)]) ++ [oa cI q4 93 (o_zf)]) := hD
  refine lv_aload_n hx hb dX5_init_72 rfl (lv_at hl 1 rfl) ?_
  refine va_get (D := D) (ci := 5) (v := .ref q1) (C := RX5) (T := TX5) (N := 10) hx hb hts inX5_init_X5 hown hK hP 0 rfl rfl 0 (by decide) (hts (.fieldLink RX5 7 "OddNoticeModel" "now" "[I") (List.mem_of_getElem? (i := 5) (by decide +kernel))) (fun _ h9 => h9) rfl dX5_init_73 ?_
  refine o_bipush (k := 15) hx hb dX5_init_76 (by decide) ?_
  refine o_bipush (k := 17) hx hb dX5_init_78 (by decide) ?_
  refine lv_iload_n hx hb dX5_init_80 rfl (lv_at hl 0 rfl) ?_
  refine o_imul (a := 17) (b := 0) (k := 0) hx hb dX5_init_81 rfl ?_
  refine o_iadd (a := 15) (b := 0) (k := 15) hx hb dX5_init_82 rfl ?_
  refine o_const (k := 1) hx hb dX5_init_83 (by decide) ?_
  refine o_iadd (a := 15) (b := 1) (k := 16) hx hb dX5_init_84 rfl ?_
  refine o_const (k := 4294967295) hx hb dX5_init_85 (by decide) ?_
  refine o_iast (g := va_up (va_up (va_up o_zf 1 5) 3 4294967295) 15 1) hx hb hK hP hD hS 1 0 rfl rfl (Nat.le_of_ble_eq_true rfl) (Nat.le_of_ble_eq_true rfl) dX5_init_86 (fun H locs hP hD hS => ?_)
  have hP : va_P D vwCl (((([(h, .inr (5, [.ref q1, .ref q2, .int (nI 0), .ref q3, .int (nI 0), .int (nI 0), .int (nI 0), .int (nI 0), .ref q4, .int (nI 0)]))] ++ [oa cI q1 163 (va_up (va_up (va_up (va_up o_zf 1 5) 3 4294967295) 15 1) 16 4294967295)]) ++ [oa cI q2 978 (o_zf)]) ++ [oa cI q3 60 (o_zf)]) ++ [oa cI q4 93 (o_zf)]) H := hP
  have hD : va_D A (((([(h, .inr (5, [.ref q1, .ref q2, .int (nI 0), .ref q3, .int (nI 0), .int (nI 0), .int (nI 0), .int (nI 0), .ref q4, .int (nI 0)]))] ++ [oa cI q1 163 (va_up (va_up (va_up (va_up o_zf 1 5) 3 4294967295) 15 1) 16 4294967295)]) ++ [oa cI q2 978 (o_zf)]) ++ [oa cI q3 60 (o_zf)]) ++ [oa cI q4 93 (o_zf)]) := hD
  refine lv_iinc (v := nI 1) (lv' := [(1, .int (nI 1)), (0, .ref h)]) hx hb dX5_init_87 hl (k := 0) rfl (by decide) (by decide) rfl (fun ls hl => ?_)
  refine lv_goto (tgt := 54) hx hb dX5_init_90 (by decide) ?_
  refine lv_iload_n hx hb dX5_init_54 rfl (lv_at hl 0 rfl) ?_
  refine o_const (k := 4) hx hb dX5_init_55 (by decide) ?_
  refine o_icmp_ge (tgt := 93) hx hb dX5_init_56 (by decide) (Nat.le_of_ble_eq_true rfl) (Nat.le_of_ble_eq_true rfl) (fun c0 => absurd c0 (by decide)) (fun _ => ?_)
  refine lv_aload_n hx hb dX5_init_59 rfl (lv_at hl 1 rfl) ?_
  refine va_get (D := D) (ci := 5) (v := .ref q1) (C := RX5) (T := TX5) (N := 10) hx hb hts inX5_init_X5 hown hK hP 0 rfl rfl 0 (by decide) (hts (.fieldLink RX5 7 "OddNoticeModel" "now" "[I") (List.mem_of_getElem? (i := 5) (by decide +kernel))) (fun _ h9 => h9) rfl dX5_init_60 ?_
  refine o_bipush (k := 15) hx hb dX5_init_63 (by decide) ?_
  refine o_bipush (k := 17) hx hb dX5_init_65 (by decide) ?_
  refine lv_iload_n hx hb dX5_init_67 rfl (lv_at hl 0 rfl) ?_
  refine o_imul (a := 17) (b := 1) (k := 17) hx hb dX5_init_68 rfl ?_
  refine o_iadd (a := 15) (b := 17) (k := 32) hx hb dX5_init_69 rfl ?_
  refine o_const (k := 1) hx hb dX5_init_70 (by decide) ?_
  refine o_iast (g := va_up (va_up (va_up (va_up o_zf 1 5) 3 4294967295) 15 1) 16 4294967295) hx hb hK hP hD hS 1 0 rfl rfl (Nat.le_of_ble_eq_true rfl) (Nat.le_of_ble_eq_true rfl) dX5_init_71 (fun H locs hP hD hS => ?_)
  have hP : va_P D vwCl (((([(h, .inr (5, [.ref q1, .ref q2, .int (nI 0), .ref q3, .int (nI 0), .int (nI 0), .int (nI 0), .int (nI 0), .ref q4, .int (nI 0)]))] ++ [oa cI q1 163 (va_up (va_up (va_up (va_up (va_up o_zf 1 5) 3 4294967295) 15 1) 16 4294967295) 32 1)]) ++ [oa cI q2 978 (o_zf)]) ++ [oa cI q3 60 (o_zf)]) ++ [oa cI q4 93 (o_zf)]) H := hP
  have hD : va_D A (((([(h, .inr (5, [.ref q1, .ref q2, .int (nI 0), .ref q3, .int (nI 0), .int (nI 0), .int (nI 0), .int (nI 0), .ref q4, .int (nI 0)]))] ++ [oa cI q1 163 (va_up (va_up (va_up (va_up (va_up o_zf 1 5) 3 4294967295) 15 1) 16 4294967295) 32 1)]) ++ [oa cI q2 978 (o_zf)]) ++ [oa cI q3 60 (o_zf)]) ++ [oa cI q4 93 (o_zf)]) := hD
  refine lv_aload_n hx hb dX5_init_72 rfl (lv_at hl 1 rfl) ?_
  refine va_get (D := D) (ci := 5) (v := .ref q1) (C := RX5) (T := TX5) (N := 10) hx hb hts inX5_init_X5 hown hK hP 0 rfl rfl 0 (by decide) (hts (.fieldLink RX5 7 "OddNoticeModel" "now" "[I") (List.mem_of_getElem? (i := 5) (by decide +kernel))) (fun _ h9 => h9) rfl dX5_init_73 ?_
  refine o_bipush (k := 15) hx hb dX5_init_76 (by decide) ?_
  refine o_bipush (k := 17) hx hb dX5_init_78 (by decide) ?_
  refine lv_iload_n hx hb dX5_init_80 rfl (lv_at hl 0 rfl) ?_
  refine o_imul (a := 17) (b := 1) (k := 17) hx hb dX5_init_81 rfl ?_
  refine o_iadd (a := 15) (b := 17) (k := 32) hx hb dX5_init_82 rfl ?_
  refine o_const (k := 1) hx hb dX5_init_83 (by decide) ?_
  refine o_iadd (a := 32) (b := 1) (k := 33) hx hb dX5_init_84 rfl ?_
  refine o_const (k := 4294967295) hx hb dX5_init_85 (by decide) ?_
  refine o_iast (g := va_up (va_up (va_up (va_up (va_up o_zf 1 5) 3 4294967295) 15 1) 16 4294967295) 32 1) hx hb hK hP hD hS 1 0 rfl rfl (Nat.le_of_ble_eq_true rfl) (Nat.le_of_ble_eq_true rfl) dX5_init_86 (fun H locs hP hD hS => ?_)
  have hP : va_P D vwCl (((([(h, .inr (5, [.ref q1, .ref q2, .int (nI 0), .ref q3, .int (nI 0), .int (nI 0), .int (nI 0), .int (nI 0), .ref q4, .int (nI 0)]))] ++ [oa cI q1 163 (va_up (va_up (va_up (va_up (va_up (va_up o_zf 1 5) 3 4294967295) 15 1) 16 4294967295) 32 1) 33 4294967295)]) ++ [oa cI q2 978 (o_zf)]) ++ [oa cI q3 60 (o_zf)]) ++ [oa cI q4 93 (o_zf)]) H := hP
  have hD : va_D A (((([(h, .inr (5, [.ref q1, .ref q2, .int (nI 0), .ref q3, .int (nI 0), .int (nI 0), .int (nI 0), .int (nI 0), .ref q4, .int (nI 0)]))] ++ [oa cI q1 163 (va_up (va_up (va_up (va_up (va_up (va_up o_zf 1 5) 3 4294967295) 15 1) 16 4294967295) 32 1) 33 4294967295)]) ++ [oa cI q2 978 (o_zf)]) ++ [oa cI q3 60 (o_zf)]) ++ [oa cI q4 93 (o_zf)]) := hD
  refine lv_iinc (v := nI 2) (lv' := [(1, .int (nI 2)), (0, .ref h)]) hx hb dX5_init_87 hl (k := 0) rfl (by decide) (by decide) rfl (fun ls hl => ?_)
  refine lv_goto (tgt := 54) hx hb dX5_init_90 (by decide) ?_
  refine lv_iload_n hx hb dX5_init_54 rfl (lv_at hl 0 rfl) ?_
  refine o_const (k := 4) hx hb dX5_init_55 (by decide) ?_
  refine o_icmp_ge (tgt := 93) hx hb dX5_init_56 (by decide) (Nat.le_of_ble_eq_true rfl) (Nat.le_of_ble_eq_true rfl) (fun c0 => absurd c0 (by decide)) (fun _ => ?_)
  refine lv_aload_n hx hb dX5_init_59 rfl (lv_at hl 1 rfl) ?_
  refine va_get (D := D) (ci := 5) (v := .ref q1) (C := RX5) (T := TX5) (N := 10) hx hb hts inX5_init_X5 hown hK hP 0 rfl rfl 0 (by decide) (hts (.fieldLink RX5 7 "OddNoticeModel" "now" "[I") (List.mem_of_getElem? (i := 5) (by decide +kernel))) (fun _ h9 => h9) rfl dX5_init_60 ?_
  refine o_bipush (k := 15) hx hb dX5_init_63 (by decide) ?_
  refine o_bipush (k := 17) hx hb dX5_init_65 (by decide) ?_
  refine lv_iload_n hx hb dX5_init_67 rfl (lv_at hl 0 rfl) ?_
  refine o_imul (a := 17) (b := 2) (k := 34) hx hb dX5_init_68 rfl ?_
  refine o_iadd (a := 15) (b := 34) (k := 49) hx hb dX5_init_69 rfl ?_
  refine o_const (k := 1) hx hb dX5_init_70 (by decide) ?_
  refine o_iast (g := va_up (va_up (va_up (va_up (va_up (va_up o_zf 1 5) 3 4294967295) 15 1) 16 4294967295) 32 1) 33 4294967295) hx hb hK hP hD hS 1 0 rfl rfl (Nat.le_of_ble_eq_true rfl) (Nat.le_of_ble_eq_true rfl) dX5_init_71 (fun H locs hP hD hS => ?_)
  have hP : va_P D vwCl (((([(h, .inr (5, [.ref q1, .ref q2, .int (nI 0), .ref q3, .int (nI 0), .int (nI 0), .int (nI 0), .int (nI 0), .ref q4, .int (nI 0)]))] ++ [oa cI q1 163 (va_up (va_up (va_up (va_up (va_up (va_up (va_up o_zf 1 5) 3 4294967295) 15 1) 16 4294967295) 32 1) 33 4294967295) 49 1)]) ++ [oa cI q2 978 (o_zf)]) ++ [oa cI q3 60 (o_zf)]) ++ [oa cI q4 93 (o_zf)]) H := hP
  have hD : va_D A (((([(h, .inr (5, [.ref q1, .ref q2, .int (nI 0), .ref q3, .int (nI 0), .int (nI 0), .int (nI 0), .int (nI 0), .ref q4, .int (nI 0)]))] ++ [oa cI q1 163 (va_up (va_up (va_up (va_up (va_up (va_up (va_up o_zf 1 5) 3 4294967295) 15 1) 16 4294967295) 32 1) 33 4294967295) 49 1)]) ++ [oa cI q2 978 (o_zf)]) ++ [oa cI q3 60 (o_zf)]) ++ [oa cI q4 93 (o_zf)]) := hD
  refine lv_aload_n hx hb dX5_init_72 rfl (lv_at hl 1 rfl) ?_
  refine va_get (D := D) (ci := 5) (v := .ref q1) (C := RX5) (T := TX5) (N := 10) hx hb hts inX5_init_X5 hown hK hP 0 rfl rfl 0 (by decide) (hts (.fieldLink RX5 7 "OddNoticeModel" "now" "[I") (List.mem_of_getElem? (i := 5) (by decide +kernel))) (fun _ h9 => h9) rfl dX5_init_73 ?_
  refine o_bipush (k := 15) hx hb dX5_init_76 (by decide) ?_
  refine o_bipush (k := 17) hx hb dX5_init_78 (by decide) ?_
  refine lv_iload_n hx hb dX5_init_80 rfl (lv_at hl 0 rfl) ?_
  refine o_imul (a := 17) (b := 2) (k := 34) hx hb dX5_init_81 rfl ?_
  refine o_iadd (a := 15) (b := 34) (k := 49) hx hb dX5_init_82 rfl ?_
  refine o_const (k := 1) hx hb dX5_init_83 (by decide) ?_
  refine o_iadd (a := 49) (b := 1) (k := 50) hx hb dX5_init_84 rfl ?_
  refine o_const (k := 4294967295) hx hb dX5_init_85 (by decide) ?_
  refine o_iast (g := va_up (va_up (va_up (va_up (va_up (va_up (va_up o_zf 1 5) 3 4294967295) 15 1) 16 4294967295) 32 1) 33 4294967295) 49 1) hx hb hK hP hD hS 1 0 rfl rfl (Nat.le_of_ble_eq_true rfl) (Nat.le_of_ble_eq_true rfl) dX5_init_86 (fun H locs hP hD hS => ?_)
  have hP : va_P D vwCl (((([(h, .inr (5, [.ref q1, .ref q2, .int (nI 0), .ref q3, .int (nI 0), .int (nI 0), .int (nI 0), .int (nI 0), .ref q4, .int (nI 0)]))] ++ [oa cI q1 163 (va_up (va_up (va_up (va_up (va_up (va_up (va_up (va_up o_zf 1 5) 3 4294967295) 15 1) 16 4294967295) 32 1) 33 4294967295) 49 1) 50 4294967295)]) ++ [oa cI q2 978 (o_zf)]) ++ [oa cI q3 60 (o_zf)]) ++ [oa cI q4 93 (o_zf)]) H := hP
  have hD : va_D A (((([(h, .inr (5, [.ref q1, .ref q2, .int (nI 0), .ref q3, .int (nI 0), .int (nI 0), .int (nI 0), .int (nI 0), .ref q4, .int (nI 0)]))] ++ [oa cI q1 163 (va_up (va_up (va_up (va_up (va_up (va_up (va_up (va_up o_zf 1 5) 3 4294967295) 15 1) 16 4294967295) 32 1) 33 4294967295) 49 1) 50 4294967295)]) ++ [oa cI q2 978 (o_zf)]) ++ [oa cI q3 60 (o_zf)]) ++ [oa cI q4 93 (o_zf)]) := hD
  refine lv_iinc (v := nI 3) (lv' := [(1, .int (nI 3)), (0, .ref h)]) hx hb dX5_init_87 hl (k := 0) rfl (by decide) (by decide) rfl (fun ls hl => ?_)
  refine lv_goto (tgt := 54) hx hb dX5_init_90 (by decide) ?_
  refine lv_iload_n hx hb dX5_init_54 rfl (lv_at hl 0 rfl) ?_
  refine o_const (k := 4) hx hb dX5_init_55 (by decide) ?_
  refine o_icmp_ge (tgt := 93) hx hb dX5_init_56 (by decide) (Nat.le_of_ble_eq_true rfl) (Nat.le_of_ble_eq_true rfl) (fun c0 => absurd c0 (by decide)) (fun _ => ?_)
  refine lv_aload_n hx hb dX5_init_59 rfl (lv_at hl 1 rfl) ?_
  refine va_get (D := D) (ci := 5) (v := .ref q1) (C := RX5) (T := TX5) (N := 10) hx hb hts inX5_init_X5 hown hK hP 0 rfl rfl 0 (by decide) (hts (.fieldLink RX5 7 "OddNoticeModel" "now" "[I") (List.mem_of_getElem? (i := 5) (by decide +kernel))) (fun _ h9 => h9) rfl dX5_init_60 ?_
  refine o_bipush (k := 15) hx hb dX5_init_63 (by decide) ?_
  refine o_bipush (k := 17) hx hb dX5_init_65 (by decide) ?_
  refine lv_iload_n hx hb dX5_init_67 rfl (lv_at hl 0 rfl) ?_
  refine o_imul (a := 17) (b := 3) (k := 51) hx hb dX5_init_68 rfl ?_
  refine o_iadd (a := 15) (b := 51) (k := 66) hx hb dX5_init_69 rfl ?_
  refine o_const (k := 1) hx hb dX5_init_70 (by decide) ?_
  refine o_iast (g := va_up (va_up (va_up (va_up (va_up (va_up (va_up (va_up o_zf 1 5) 3 4294967295) 15 1) 16 4294967295) 32 1) 33 4294967295) 49 1) 50 4294967295) hx hb hK hP hD hS 1 0 rfl rfl (Nat.le_of_ble_eq_true rfl) (Nat.le_of_ble_eq_true rfl) dX5_init_71 (fun H locs hP hD hS => ?_)
  have hP : va_P D vwCl (((([(h, .inr (5, [.ref q1, .ref q2, .int (nI 0), .ref q3, .int (nI 0), .int (nI 0), .int (nI 0), .int (nI 0), .ref q4, .int (nI 0)]))] ++ [oa cI q1 163 (va_up (va_up (va_up (va_up (va_up (va_up (va_up (va_up (va_up o_zf 1 5) 3 4294967295) 15 1) 16 4294967295) 32 1) 33 4294967295) 49 1) 50 4294967295) 66 1)]) ++ [oa cI q2 978 (o_zf)]) ++ [oa cI q3 60 (o_zf)]) ++ [oa cI q4 93 (o_zf)]) H := hP
  have hD : va_D A (((([(h, .inr (5, [.ref q1, .ref q2, .int (nI 0), .ref q3, .int (nI 0), .int (nI 0), .int (nI 0), .int (nI 0), .ref q4, .int (nI 0)]))] ++ [oa cI q1 163 (va_up (va_up (va_up (va_up (va_up (va_up (va_up (va_up (va_up o_zf 1 5) 3 4294967295) 15 1) 16 4294967295) 32 1) 33 4294967295) 49 1) 50 4294967295) 66 1)]) ++ [oa cI q2 978 (o_zf)]) ++ [oa cI q3 60 (o_zf)]) ++ [oa cI q4 93 (o_zf)]) := hD
  refine lv_aload_n hx hb dX5_init_72 rfl (lv_at hl 1 rfl) ?_
  refine va_get (D := D) (ci := 5) (v := .ref q1) (C := RX5) (T := TX5) (N := 10) hx hb hts inX5_init_X5 hown hK hP 0 rfl rfl 0 (by decide) (hts (.fieldLink RX5 7 "OddNoticeModel" "now" "[I") (List.mem_of_getElem? (i := 5) (by decide +kernel))) (fun _ h9 => h9) rfl dX5_init_73 ?_
  refine o_bipush (k := 15) hx hb dX5_init_76 (by decide) ?_
  refine o_bipush (k := 17) hx hb dX5_init_78 (by decide) ?_
  refine lv_iload_n hx hb dX5_init_80 rfl (lv_at hl 0 rfl) ?_
  refine o_imul (a := 17) (b := 3) (k := 51) hx hb dX5_init_81 rfl ?_
  refine o_iadd (a := 15) (b := 51) (k := 66) hx hb dX5_init_82 rfl ?_
  refine o_const (k := 1) hx hb dX5_init_83 (by decide) ?_
  refine o_iadd (a := 66) (b := 1) (k := 67) hx hb dX5_init_84 rfl ?_
  refine o_const (k := 4294967295) hx hb dX5_init_85 (by decide) ?_
  refine o_iast (g := va_up (va_up (va_up (va_up (va_up (va_up (va_up (va_up (va_up o_zf 1 5) 3 4294967295) 15 1) 16 4294967295) 32 1) 33 4294967295) 49 1) 50 4294967295) 66 1) hx hb hK hP hD hS 1 0 rfl rfl (Nat.le_of_ble_eq_true rfl) (Nat.le_of_ble_eq_true rfl) dX5_init_86 (fun H locs hP hD hS => ?_)
  have hP : va_P D vwCl (((([(h, .inr (5, [.ref q1, .ref q2, .int (nI 0), .ref q3, .int (nI 0), .int (nI 0), .int (nI 0), .int (nI 0), .ref q4, .int (nI 0)]))] ++ [oa cI q1 163 (va_up (va_up (va_up (va_up (va_up (va_up (va_up (va_up (va_up (va_up o_zf 1 5) 3 4294967295) 15 1) 16 4294967295) 32 1) 33 4294967295) 49 1) 50 4294967295) 66 1) 67 4294967295)]) ++ [oa cI q2 978 (o_zf)]) ++ [oa cI q3 60 (o_zf)]) ++ [oa cI q4 93 (o_zf)]) H := hP
  have hD : va_D A (((([(h, .inr (5, [.ref q1, .ref q2, .int (nI 0), .ref q3, .int (nI 0), .int (nI 0), .int (nI 0), .int (nI 0), .ref q4, .int (nI 0)]))] ++ [oa cI q1 163 (va_up (va_up (va_up (va_up (va_up (va_up (va_up (va_up (va_up (va_up o_zf 1 5) 3 4294967295) 15 1) 16 4294967295) 32 1) 33 4294967295) 49 1) 50 4294967295) 66 1) 67 4294967295)]) ++ [oa cI q2 978 (o_zf)]) ++ [oa cI q3 60 (o_zf)]) ++ [oa cI q4 93 (o_zf)]) := hD
  refine lv_iinc (v := nI 4) (lv' := [(1, .int (nI 4)), (0, .ref h)]) hx hb dX5_init_87 hl (k := 0) rfl (by decide) (by decide) rfl (fun ls hl => ?_)
  refine lv_goto (tgt := 54) hx hb dX5_init_90 (by decide) ?_
  refine lv_iload_n hx hb dX5_init_54 rfl (lv_at hl 0 rfl) ?_
  refine o_const (k := 4) hx hb dX5_init_55 (by decide) ?_
  refine o_icmp_ge (tgt := 93) hx hb dX5_init_56 (by decide) (Nat.le_of_ble_eq_true rfl) (Nat.le_of_ble_eq_true rfl) (fun _ => ?_) (fun c0 => absurd c0 (by decide))
  have hP9 := hP.sub (ws' := wM (o_ql [h, q1, q2, q3, q4]) cI m_0) [0, 1, 2, 3, 4] rfl
  have hD9 := hD.sub (ws' := wM (o_ql [h, q1, q2, q3, q4]) cI m_0) [0, 1, 2, 3, 4] (by decide +kernel) rfl
  exact W.vret hx hb hrt (fun t ht hW => ⟨⟨(o_ql [h, q1, q2, q3, q4]), rfl, rfl, by rw [ht]; exact hP9, by rw [hAe]; exact hD9⟩, by rw [hAe]; exact hS.F ht⟩) hS.2.2 dX5_init_93
theorem inX4_init_X2 : ∀ w ∈ wsX20, w ∈ wsX4_init := by decide +kernel
theorem inX4_init_X4 : ∀ w ∈ wsX40, w ∈ wsX4_init := by decide +kernel
theorem inX4_init_X3 : ∀ w ∈ wsX30, w ∈ wsX4_init := by decide +kernel
set_option maxHeartbeats 8000000 in
set_option maxRecDepth 100000 in
theorem n_X4_init (l : Launch) (D : va_G) (cI cR cS cL : ClassId) (sz : Nat) (h : Nat) : Met l yX4_init wsX4_init ({ frames := 3, cells := 137, slots := 1363, locals := 54 }) (va_Pc [.ref h] (o_J D (o_T cI cR cS cL) [(h, .inr (4, [.null, .null, .int (nI 0), .int (nI 0), .null, .null]))] sz)) (o_qJ D (h, .inr (4, [.null, .null, .int (nI 0), .int (nI 0), .null, .null])) sz (fun u => wO u cI cR cS x_0 s_0 (wV u cI cR (fun _ => s_0)))) 137 1363 (va_A [(h, .inr (4, [.null, .null, .int (nI 0), .int (nI 0), .null, .null]))] sz) := by
  refine Met.ofW (cc := cX4_init) (maxL := 2) (ret := none) (by decide) rfl ?_
  intro p e s m args below meth cd s₁ B hml hv
  obtain ⟨rfl, hsz, hP, hK, hD0, hN, hO⟩ := hv
  have hx := B.exec
  have hb := B.bytes
  have hrt := B.returns
  have hts := atoms_spec (ws := wsX4_init) B.pre
  have hown : s.vm.findClass RX4 = some m.cls := findClass_of_methodNamed B.named
  have hlocks := B.notSynchronized
  have hin : meth.name = "<init>" := (name_of_methodNamed B.named B.method).1
  subst hsz
  have hD := hD0.self (sz := s.heap.size)
  generalize hAe : va_A [(h, .inr (4, [.null, .null, .int (nI 0), .int (nI 0), .null, .null]))] s.heap.size = A at hD ⊢
  have hA : ∀ q : Nat, s.heap.size ≤ q → A q := fun q h => by rw [← hAe]; exact Or.inr h
  have hS : va_S A s.heap s.heap [] := va_S.rf
  have hl := lv_entry ([.ref h]) (n := 2) (Nat.le_of_ble_eq_true rfl)
  rw [lg_entry_eq]
  generalize (lg_sl ([.ref h]) ++ List.replicate (2 - (lg_sl ([.ref h])).length) Slot.unset).toArray = ls at hl ⊢
  have hl : lv_has ls 2 [(0, .ref h)] := hl
  refine lv_aload_n hx hb dX4_init_0 rfl (lv_at hl 0 rfl) ?_
  refine W.objInit hx hb hown (hts (.methodLink RX4 1 objectInit) (List.mem_of_getElem? (i := 1) (by decide +kernel))) (hts (.instanceMethod objectInit) (List.mem_of_getElem? (i := 2) (by decide +kernel))) (hts _ (List.mem_of_getElem? (i := 3) (by decide +kernel))) rfl (by rw [hml]; exact hl.1) rfl dX4_init_1 (Nat.le_of_ble_eq_true rfl) (Nat.le_of_ble_eq_true rfl) ?_
  refine W.eq (g2 := F0 m 4 ls []) rfl ?_
  refine lv_aload_n hx hb dX4_init_4 rfl (lv_at hl 0 rfl) ?_
  refine va_new (ci := 2) (fs := [.null, .null, .int (nI 0), .int (nI 0)]) (C := RX2) (T := TX2) (N := 4) hx hb hts inX4_init_X2 tyX2 tyX2_ok hown (hts (.classLink RX4 7 RX2) (List.mem_of_getElem? (i := 4) (by decide +kernel))) (hts (.instantiable RX2 4) (List.mem_of_getElem? (i := 5) (by decide +kernel))) (hts (.initialized RX2) (List.mem_of_getElem? (i := 6) (by decide +kernel))) hK hP hD hS hA rfl (fun j hj => by rcases (show j = 0 ∨ j = 1 ∨ j = 2 ∨ j = 3 by omega) with rfl | rfl | rfl | rfl <;> rfl) (Nat.le_of_ble_eq_true rfl) (Nat.le_of_ble_eq_true rfl) dX4_init_5 (fun q1 H hP hD hS => ?_)
  have hP : va_P D vwCl ([(h, .inr (4, [.null, .null, .int (nI 0), .int (nI 0), .null, .null]))] ++ [(q1, .inr (2, [.null, .null, .int (nI 0), .int (nI 0)]))]) H := hP
  have hD : va_D A ([(h, .inr (4, [.null, .null, .int (nI 0), .int (nI 0), .null, .null]))] ++ [(q1, .inr (2, [.null, .null, .int (nI 0), .int (nI 0)]))]) := hD
  refine W.widen (k := 1) (n := 4) (Nat.le_of_ble_eq_true rfl) (Nat.le_of_ble_eq_true rfl) ?_
  refine lv_dup hx hb dX4_init_8 rfl ?_
  refine o_ctor (w1 := fun u => wS u cI cR s_0) [(h, .inr (4, [.null, .null, .int (nI 0), .int (nI 0), .null, .null]))] (va_runI (As := []) (rest := [.ref q1, .ref h]) ⟨hx, hb, hml, hown, hts⟩ (n_X2_init l D cI cR cS cL H.size q1) (cwI 0 hts gX4_init_X2_init rfl rfl rfl (hts (.initialized RX2) (List.mem_of_getElem? (i := 6) (by decide +kernel))) (hts (.methodLink RX4 9 yX2_init) (List.mem_of_getElem? (i := 15) (by decide +kernel))) (hts (.instanceMethod yX2_init) (List.mem_of_getElem? (i := 16) (by decide +kernel))) rfl (by decide +kernel) ⟨Nat.le_of_ble_eq_true rfl, Nat.le_of_ble_eq_true rfl⟩) (o_pJ hK hN hO (o_PT (pre := [(h, .inr (4, [.null, .null, .int (nI 0), .int (nI 0), .null, .null]))]) (ws := [(q1, .inr (2, [.null, .null, .int (nI 0), .int (nI 0)]))]) hP) (o_DT (pre := [(h, .inr (4, [.null, .null, .int (nI 0), .int (nI 0), .null, .null]))]) (ws := [(q1, .inr (2, [.null, .null, .int (nI 0), .int (nI 0)]))]) hD)) rfl rfl hl.1 rfl (lv_room (Nat.le_of_ble_eq_true rfl)) dX4_init_9 ⟨Nat.le_of_ble_eq_true rfl, Nat.le_of_ble_eq_true rfl⟩) hP hD hS hA (fun u2 H locs hu3 hP8 hD8 hS => ?_)
  have hu3 : u2 0 = q1 := hu3
  subst hu3
  have hP := hP8
  have hD := hD8
  have hP : va_P D vwCl ([(h, .inr (4, [.null, .null, .int (nI 0), .int (nI 0), .null, .null]))] ++ wS u2 cI cR s_0) H := hP
  have hD : va_D A ([(h, .inr (4, [.null, .null, .int (nI 0), .int (nI 0), .null, .null]))] ++ wS u2 cI cR s_0) := hD
  refine W.widen (k := 19) (n := 184) (Nat.le_of_ble_eq_true rfl) (Nat.le_of_ble_eq_true rfl) ?_
  refine va_putF (D := D) (ci := 4) (v := .ref (u2 0)) (ty := .object "OddNotice$State") (C := RX4) (T := TX4) (N := 6) hx hb hts inX4_init_X4 tyX4 tyX4_ok nmX4 hown hK hP hD hS 0 rfl rfl 0 (by decide) (hts (.fieldLink RX4 10 "OddNotice" "now" "LOddNotice$State;") (List.mem_of_getElem? (i := 7) (by decide +kernel))) (fun _ h9 => h9) rfl hin rfl (by decide +kernel) rfl rfl (Nat.le_of_ble_eq_true rfl) dX4_init_12 (fun H locs hP hD hS => ?_)
  have hP : va_P D vwCl ([(h, .inr (4, [.ref (u2 0), .null, .int (nI 0), .int (nI 0), .null, .null]))] ++ wS u2 cI cR s_0) H := hP
  have hD : va_D A ([(h, .inr (4, [.ref (u2 0), .null, .int (nI 0), .int (nI 0), .null, .null]))] ++ wS u2 cI cR s_0) := hD
  refine lv_aload_n hx hb dX4_init_15 rfl (lv_at hl 0 rfl) ?_
  refine o_bipush (k := 6) hx hb dX4_init_16 (by decide) ?_
  refine va_newq (C := "OddNotice$State") (N' := 6) hx hb hown (hts (.classLink RX4 7 RX2) (List.mem_of_getElem? (i := 4) (by decide +kernel))) hO.2 hK hP hD hS hA (by decide) (by decide) (Nat.le_of_ble_eq_true rfl) (Nat.le_of_ble_eq_true rfl) (Nat.le_of_ble_eq_true rfl) dX4_init_18 (fun q4 cA H hKn hP hD hS => ?_)
  obtain rfl : cS = cA := (o_ty hKn (i := 4) (j := 2) rfl rfl).symm
  have hP : va_P D vwCl (([(h, .inr (4, [.ref (u2 0), .null, .int (nI 0), .int (nI 0), .null, .null]))] ++ wS u2 cI cR s_0) ++ [(q4, .inl (cS, 6, .inr (.inr (.inr (.inr (fun _ => none))))))]) H := hP
  have hD : va_D A (([(h, .inr (4, [.ref (u2 0), .null, .int (nI 0), .int (nI 0), .null, .null]))] ++ wS u2 cI cR s_0) ++ [(q4, .inl (cS, 6, .inr (.inr (.inr (.inr (fun _ => none))))))]) := hD
  refine W.widen (k := 20) (n := 190) (Nat.le_of_ble_eq_true rfl) (Nat.le_of_ble_eq_true rfl) ?_
  refine va_putF (D := D) (ci := 4) (v := .ref q4) (ty := .array (.object "OddNotice$State")) (C := RX4) (T := TX4) (N := 6) hx hb hts inX4_init_X4 tyX4 tyX4_ok nmX4 hown hK hP hD hS 0 rfl rfl 1 (by decide) (hts (.fieldLink RX4 16 "OddNotice" "saved" "[LOddNotice$State;") (List.mem_of_getElem? (i := 8) (by decide +kernel))) (fun _ h9 => h9) rfl hin rfl (by decide +kernel) rfl rfl (Nat.le_of_ble_eq_true rfl) dX4_init_21 (fun H locs hP hD hS => ?_)
  have hP : va_P D vwCl (([(h, .inr (4, [.ref (u2 0), .ref q4, .int (nI 0), .int (nI 0), .null, .null]))] ++ wS u2 cI cR s_0) ++ [(q4, .inl (cS, 6, .inr (.inr (.inr (.inr (fun _ => none))))))]) H := hP
  have hD : va_D A (([(h, .inr (4, [.ref (u2 0), .ref q4, .int (nI 0), .int (nI 0), .null, .null]))] ++ wS u2 cI cR s_0) ++ [(q4, .inl (cS, 6, .inr (.inr (.inr (.inr (fun _ => none))))))]) := hD
  refine lv_aload_n hx hb dX4_init_24 rfl (lv_at hl 0 rfl) ?_
  refine va_new (ci := 3) (fs := [.int (nI 0), .int (nI 0), .int (nI 0), .null]) (C := RX3) (T := TX3) (N := 4) hx hb hts inX4_init_X3 tyX3 tyX3_ok hown (hts (.classLink RX4 20 RX3) (List.mem_of_getElem? (i := 9) (by decide +kernel))) (hts (.instantiable RX3 4) (List.mem_of_getElem? (i := 10) (by decide +kernel))) (hts (.initialized RX3) (List.mem_of_getElem? (i := 11) (by decide +kernel))) hK hP hD hS hA rfl (fun j hj => by rcases (show j = 0 ∨ j = 1 ∨ j = 2 ∨ j = 3 by omega) with rfl | rfl | rfl | rfl <;> rfl) (Nat.le_of_ble_eq_true rfl) (Nat.le_of_ble_eq_true rfl) dX4_init_25 (fun q5 H hP hD hS => ?_)
  have hP : va_P D vwCl ((([(h, .inr (4, [.ref (u2 0), .ref q4, .int (nI 0), .int (nI 0), .null, .null]))] ++ wS u2 cI cR s_0) ++ [(q4, .inl (cS, 6, .inr (.inr (.inr (.inr (fun _ => none))))))]) ++ [(q5, .inr (3, [.int (nI 0), .int (nI 0), .int (nI 0), .null]))]) H := hP
  have hD : va_D A ((([(h, .inr (4, [.ref (u2 0), .ref q4, .int (nI 0), .int (nI 0), .null, .null]))] ++ wS u2 cI cR s_0) ++ [(q4, .inl (cS, 6, .inr (.inr (.inr (.inr (fun _ => none))))))]) ++ [(q5, .inr (3, [.int (nI 0), .int (nI 0), .int (nI 0), .null]))]) := hD
  refine W.widen (k := 21) (n := 194) (Nat.le_of_ble_eq_true rfl) (Nat.le_of_ble_eq_true rfl) ?_
  refine lv_dup hx hb dX4_init_28 rfl ?_
  refine o_ctor (w1 := fun u => wT u cI x_0) (([(h, .inr (4, [.ref (u2 0), .ref q4, .int (nI 0), .int (nI 0), .null, .null]))] ++ wS u2 cI cR s_0) ++ [(q4, .inl (cS, 6, .inr (.inr (.inr (.inr (fun _ => none))))))]) (va_runIN (As := []) (rest := [.ref q5, .ref h]) ⟨hx, hb, hml, hown, hts⟩ (n_X3_init l D cI cR cS cL H.size q5) ⟨va_cnB 0 hts gX4_init_X3_init_n22 rfl rfl rfl hN.2.2 (hts (.initialized RX3) (List.mem_of_getElem? (i := 11) (by decide +kernel))) (by decide +kernel) ⟨Nat.le_of_ble_eq_true rfl, Nat.le_of_ble_eq_true rfl⟩, rfl, (hts (.instanceMethod yX3_init) (List.mem_of_getElem? (i := 42) (by decide +kernel)))⟩ (o_pJ hK hN hO (o_PT (pre := (([(h, .inr (4, [.ref (u2 0), .ref q4, .int (nI 0), .int (nI 0), .null, .null]))] ++ wS u2 cI cR s_0) ++ [(q4, .inl (cS, 6, .inr (.inr (.inr (.inr (fun _ => none))))))])) (ws := [(q5, .inr (3, [.int (nI 0), .int (nI 0), .int (nI 0), .null]))]) hP) (o_DT (pre := (([(h, .inr (4, [.ref (u2 0), .ref q4, .int (nI 0), .int (nI 0), .null, .null]))] ++ wS u2 cI cR s_0) ++ [(q4, .inl (cS, 6, .inr (.inr (.inr (.inr (fun _ => none))))))])) (ws := [(q5, .inr (3, [.int (nI 0), .int (nI 0), .int (nI 0), .null]))]) hD)) rfl rfl hl.1 rfl (lv_room (Nat.le_of_ble_eq_true rfl)) dX4_init_29 ⟨Nat.le_of_ble_eq_true rfl, Nat.le_of_ble_eq_true rfl⟩) hP hD hS hA (fun u6 H locs hu7 hP8 hD8 hS => ?_)
  have hu7 : u6 0 = q5 := hu7
  subst hu7
  have hP := hP8
  have hD := hD8
  have hP : va_P D vwCl ((([(h, .inr (4, [.ref (u2 0), .ref q4, .int (nI 0), .int (nI 0), .null, .null]))] ++ wS u2 cI cR s_0) ++ [(q4, .inl (cS, 6, .inr (.inr (.inr (.inr (fun _ => none))))))]) ++ wT u6 cI x_0) H := hP
  have hD : va_D A ((([(h, .inr (4, [.ref (u2 0), .ref q4, .int (nI 0), .int (nI 0), .null, .null]))] ++ wS u2 cI cR s_0) ++ [(q4, .inl (cS, 6, .inr (.inr (.inr (.inr (fun _ => none))))))]) ++ wT u6 cI x_0) := hD
  refine W.widen (k := 22) (n := 254) (Nat.le_of_ble_eq_true rfl) (Nat.le_of_ble_eq_true rfl) ?_
  refine va_putF (D := D) (ci := 4) (v := .ref (u6 0)) (ty := .object "OddNotice$Text") (C := RX4) (T := TX4) (N := 6) hx hb hts inX4_init_X4 tyX4 tyX4_ok nmX4 hown hK hP hD hS 0 rfl rfl 4 (by decide) (hts (.fieldLink RX4 23 "OddNotice" "text" "LOddNotice$Text;") (List.mem_of_getElem? (i := 12) (by decide +kernel))) (fun _ h9 => h9) rfl hin rfl (by decide +kernel) rfl rfl (Nat.le_of_ble_eq_true rfl) dX4_init_32 (fun H locs hP hD hS => ?_)
  have hP : va_P D vwCl ((([(h, .inr (4, [.ref (u2 0), .ref q4, .int (nI 0), .int (nI 0), .ref (u6 0), .null]))] ++ wS u2 cI cR s_0) ++ [(q4, .inl (cS, 6, .inr (.inr (.inr (.inr (fun _ => none))))))]) ++ wT u6 cI x_0) H := hP
  have hD : va_D A ((([(h, .inr (4, [.ref (u2 0), .ref q4, .int (nI 0), .int (nI 0), .ref (u6 0), .null]))] ++ wS u2 cI cR s_0) ++ [(q4, .inl (cS, 6, .inr (.inr (.inr (.inr (fun _ => none))))))]) ++ wT u6 cI x_0) := hD
  refine lv_aload_n hx hb dX4_init_35 rfl (lv_at hl 0 rfl) ?_
  refine o_const (k := 5) hx hb dX4_init_36 (by decide) ?_
  refine va_newa (atype := .int) (ty := .int) (N' := 5) (a0 := (5, .inl (fun _ => nI 0))) hx hb (hts (.arrayClass .int) (List.mem_of_getElem? (i := 13) (by decide +kernel))) rfl hK hP hD hS hA (fun _ => rfl) (by decide) (by decide) (Nat.le_of_ble_eq_true rfl) (Nat.le_of_ble_eq_true rfl) (Nat.le_of_ble_eq_true rfl) dX4_init_37 (fun q8 cA H hKn hP hD hS => ?_)
  obtain rfl : cI = cA := (o_ty hKn (i := 4) (j := 0) rfl rfl).symm
  have hP : va_P D vwCl (((([(h, .inr (4, [.ref (u2 0), .ref q4, .int (nI 0), .int (nI 0), .ref (u6 0), .null]))] ++ wS u2 cI cR s_0) ++ [(q4, .inl (cS, 6, .inr (.inr (.inr (.inr (fun _ => none))))))]) ++ wT u6 cI x_0) ++ [oa cI q8 5 (o_zf)]) H := hP
  have hD : va_D A (((([(h, .inr (4, [.ref (u2 0), .ref q4, .int (nI 0), .int (nI 0), .ref (u6 0), .null]))] ++ wS u2 cI cR s_0) ++ [(q4, .inl (cS, 6, .inr (.inr (.inr (.inr (fun _ => none))))))]) ++ wT u6 cI x_0) ++ [oa cI q8 5 (o_zf)]) := hD
  refine W.widen (k := 23) (n := 259) (Nat.le_of_ble_eq_true rfl) (Nat.le_of_ble_eq_true rfl) ?_
  refine va_putF (D := D) (ci := 4) (v := .ref q8) (ty := .array .int) (C := RX4) (T := TX4) (N := 6) hx hb hts inX4_init_X4 tyX4 tyX4_ok nmX4 hown hK hP hD hS 0 rfl rfl 5 (by decide) (hts (.fieldLink RX4 27 "OddNotice" "wouldTake" "[I") (List.mem_of_getElem? (i := 14) (by decide +kernel))) (fun _ h9 => h9) rfl hin rfl (by decide +kernel) rfl rfl (Nat.le_of_ble_eq_true rfl) dX4_init_39 (fun H locs hP hD hS => ?_)
  have hP : va_P D vwCl (((([(h, .inr (4, [.ref (u2 0), .ref q4, .int (nI 0), .int (nI 0), .ref (u6 0), .ref q8]))] ++ wS u2 cI cR s_0) ++ [(q4, .inl (cS, 6, .inr (.inr (.inr (.inr (fun _ => none))))))]) ++ wT u6 cI x_0) ++ [oa cI q8 5 (o_zf)]) H := hP
  have hD : va_D A (((([(h, .inr (4, [.ref (u2 0), .ref q4, .int (nI 0), .int (nI 0), .ref (u6 0), .ref q8]))] ++ wS u2 cI cR s_0) ++ [(q4, .inl (cS, 6, .inr (.inr (.inr (.inr (fun _ => none))))))]) ++ wT u6 cI x_0) ++ [oa cI q8 5 (o_zf)]) := hD
  refine o_const (k := 0) hx hb dX4_init_42 (by decide) ?_
  refine lv_istore_n (lv' := [(1, .int (nI 0)), (0, .ref h)]) hx hb dX4_init_43 rfl hl (by decide) rfl (fun ls hl => ?_)
  refine lv_iload_n hx hb dX4_init_44 rfl (lv_at hl 0 rfl) ?_
  refine o_bipush (k := 6) hx hb dX4_init_45 (by decide) ?_
  refine o_icmp_ge (tgt := 69) hx hb dX4_init_47 (by decide) (Nat.le_of_ble_eq_true rfl) (Nat.le_of_ble_eq_true rfl) (fun c0 => absurd c0 (by decide)) (fun _ => ?_)
  refine lv_aload_n hx hb dX4_init_50 rfl (lv_at hl 1 rfl) ?_
  refine va_get (D := D) (ci := 4) (v := .ref q4) (C := RX4) (T := TX4) (N := 6) hx hb hts inX4_init_X4 hown hK hP 0 rfl rfl 1 (by decide) (hts (.fieldLink RX4 16 "OddNotice" "saved" "[LOddNotice$State;") (List.mem_of_getElem? (i := 8) (by decide +kernel))) (fun _ h9 => h9) rfl dX4_init_51 ?_
  refine lv_iload_n hx hb dX4_init_54 rfl (lv_at hl 0 rfl) ?_
  refine va_new (ci := 2) (fs := [.null, .null, .int (nI 0), .int (nI 0)]) (C := RX2) (T := TX2) (N := 4) hx hb hts inX4_init_X2 tyX2 tyX2_ok hown (hts (.classLink RX4 7 RX2) (List.mem_of_getElem? (i := 4) (by decide +kernel))) (hts (.instantiable RX2 4) (List.mem_of_getElem? (i := 5) (by decide +kernel))) (hts (.initialized RX2) (List.mem_of_getElem? (i := 6) (by decide +kernel))) hK hP hD hS hA rfl (fun j hj => by rcases (show j = 0 ∨ j = 1 ∨ j = 2 ∨ j = 3 by omega) with rfl | rfl | rfl | rfl <;> rfl) (Nat.le_of_ble_eq_true rfl) (Nat.le_of_ble_eq_true rfl) dX4_init_55 (fun q9 H hP hD hS => ?_)
  have hP : va_P D vwCl ((((([(h, .inr (4, [.ref (u2 0), .ref q4, .int (nI 0), .int (nI 0), .ref (u6 0), .ref q8]))] ++ wS u2 cI cR s_0) ++ [(q4, .inl (cS, 6, .inr (.inr (.inr (.inr (fun _ => none))))))]) ++ wT u6 cI x_0) ++ [oa cI q8 5 (o_zf)]) ++ [(q9, .inr (2, [.null, .null, .int (nI 0), .int (nI 0)]))]) H := hP
  have hD : va_D A ((((([(h, .inr (4, [.ref (u2 0), .ref q4, .int (nI 0), .int (nI 0), .ref (u6 0), .ref q8]))] ++ wS u2 cI cR s_0) ++ [(q4, .inl (cS, 6, .inr (.inr (.inr (.inr (fun _ => none))))))]) ++ wT u6 cI x_0) ++ [oa cI q8 5 (o_zf)]) ++ [(q9, .inr (2, [.null, .null, .int (nI 0), .int (nI 0)]))]) := hD
  refine W.widen (k := 24) (n := 263) (Nat.le_of_ble_eq_true rfl) (Nat.le_of_ble_eq_true rfl) ?_
  refine lv_dup hx hb dX4_init_58 rfl ?_
  refine o_ctor (w1 := fun u => wS u cI cR s_0) (((([(h, .inr (4, [.ref (u2 0), .ref q4, .int (nI 0), .int (nI 0), .ref (u6 0), .ref q8]))] ++ wS u2 cI cR s_0) ++ [(q4, .inl (cS, 6, .inr (.inr (.inr (.inr (fun _ => none))))))]) ++ wT u6 cI x_0) ++ [oa cI q8 5 (o_zf)]) (va_runI (As := []) (rest := [.ref q9, .int (nI 0), .ref q4]) ⟨hx, hb, hml, hown, hts⟩ (n_X2_init l D cI cR cS cL H.size q9) (cwI 0 hts gX4_init_X2_init rfl rfl rfl (hts (.initialized RX2) (List.mem_of_getElem? (i := 6) (by decide +kernel))) (hts (.methodLink RX4 9 yX2_init) (List.mem_of_getElem? (i := 15) (by decide +kernel))) (hts (.instanceMethod yX2_init) (List.mem_of_getElem? (i := 16) (by decide +kernel))) rfl (by decide +kernel) ⟨Nat.le_of_ble_eq_true rfl, Nat.le_of_ble_eq_true rfl⟩) (o_pJ hK hN hO (o_PT (pre := (((([(h, .inr (4, [.ref (u2 0), .ref q4, .int (nI 0), .int (nI 0), .ref (u6 0), .ref q8]))] ++ wS u2 cI cR s_0) ++ [(q4, .inl (cS, 6, .inr (.inr (.inr (.inr (fun _ => none))))))]) ++ wT u6 cI x_0) ++ [oa cI q8 5 (o_zf)])) (ws := [(q9, .inr (2, [.null, .null, .int (nI 0), .int (nI 0)]))]) hP) (o_DT (pre := (((([(h, .inr (4, [.ref (u2 0), .ref q4, .int (nI 0), .int (nI 0), .ref (u6 0), .ref q8]))] ++ wS u2 cI cR s_0) ++ [(q4, .inl (cS, 6, .inr (.inr (.inr (.inr (fun _ => none))))))]) ++ wT u6 cI x_0) ++ [oa cI q8 5 (o_zf)])) (ws := [(q9, .inr (2, [.null, .null, .int (nI 0), .int (nI 0)]))]) hD)) rfl rfl hl.1 rfl (lv_room (Nat.le_of_ble_eq_true rfl)) dX4_init_59 ⟨Nat.le_of_ble_eq_true rfl, Nat.le_of_ble_eq_true rfl⟩) hP hD hS hA (fun u10 H locs hu11 hP8 hD8 hS => ?_)
  have hu11 : u10 0 = q9 := hu11
  subst hu11
  have hP := hP8
  have hD := hD8
  have hP : va_P D vwCl ((((([(h, .inr (4, [.ref (u2 0), .ref q4, .int (nI 0), .int (nI 0), .ref (u6 0), .ref q8]))] ++ wS u2 cI cR s_0) ++ [(q4, .inl (cS, 6, .inr (.inr (.inr (.inr (fun _ => none))))))]) ++ wT u6 cI x_0) ++ [oa cI q8 5 (o_zf)]) ++ wS u10 cI cR s_0) H := hP
  have hD : va_D A ((((([(h, .inr (4, [.ref (u2 0), .ref q4, .int (nI 0), .int (nI 0), .ref (u6 0), .ref q8]))] ++ wS u2 cI cR s_0) ++ [(q4, .inl (cS, 6, .inr (.inr (.inr (.inr (fun _ => none))))))]) ++ wT u6 cI x_0) ++ [oa cI q8 5 (o_zf)]) ++ wS u10 cI cR s_0) := hD
  refine W.widen (k := 42) (n := 443) (Nat.le_of_ble_eq_true rfl) (Nat.le_of_ble_eq_true rfl) ?_
  refine va_astq hx hb hK hP hD hS 20 2 24 2 rfl rfl rfl rfl (vp_in_nI (Nat.le_of_ble_eq_true rfl) (Nat.le_of_ble_eq_true rfl)) dX4_init_62 (fun H locs hP hD hS => ?_)
  rw [nI_clamp (show 0 < 2 ^ 31 by decide)] at hP hD
  have hP : va_P D vwCl ((((([(h, .inr (4, [.ref (u2 0), .ref q4, .int (nI 0), .int (nI 0), .ref (u6 0), .ref q8]))] ++ wS u2 cI cR s_0) ++ [(q4, .inl (cS, 6, .inr (.inr (.inr (.inr (va_up (fun _ => none) 0 (some ((u10 0)))))))))]) ++ wT u6 cI x_0) ++ [oa cI q8 5 (o_zf)]) ++ wS u10 cI cR s_0) H := hP
  have hD : va_D A ((((([(h, .inr (4, [.ref (u2 0), .ref q4, .int (nI 0), .int (nI 0), .ref (u6 0), .ref q8]))] ++ wS u2 cI cR s_0) ++ [(q4, .inl (cS, 6, .inr (.inr (.inr (.inr (va_up (fun _ => none) 0 (some ((u10 0)))))))))]) ++ wT u6 cI x_0) ++ [oa cI q8 5 (o_zf)]) ++ wS u10 cI cR s_0) := hD
  refine lv_iinc (v := nI 1) (lv' := [(1, .int (nI 1)), (0, .ref h)]) hx hb dX4_init_63 hl (k := 0) rfl (by decide) (by decide) rfl (fun ls hl => ?_)
  refine lv_goto (tgt := 44) hx hb dX4_init_66 (by decide) ?_
  refine lv_iload_n hx hb dX4_init_44 rfl (lv_at hl 0 rfl) ?_
  refine o_bipush (k := 6) hx hb dX4_init_45 (by decide) ?_
  refine o_icmp_ge (tgt := 69) hx hb dX4_init_47 (by decide) (Nat.le_of_ble_eq_true rfl) (Nat.le_of_ble_eq_true rfl) (fun c0 => absurd c0 (by decide)) (fun _ => ?_)
  refine lv_aload_n hx hb dX4_init_50 rfl (lv_at hl 1 rfl) ?_
  refine va_get (D := D) (ci := 4) (v := .ref q4) (C := RX4) (T := TX4) (N := 6) hx hb hts inX4_init_X4 hown hK hP 0 rfl rfl 1 (by decide) (hts (.fieldLink RX4 16 "OddNotice" "saved" "[LOddNotice$State;") (List.mem_of_getElem? (i := 8) (by decide +kernel))) (fun _ h9 => h9) rfl dX4_init_51 ?_
  refine lv_iload_n hx hb dX4_init_54 rfl (lv_at hl 0 rfl) ?_
  refine va_new (ci := 2) (fs := [.null, .null, .int (nI 0), .int (nI 0)]) (C := RX2) (T := TX2) (N := 4) hx hb hts inX4_init_X2 tyX2 tyX2_ok hown (hts (.classLink RX4 7 RX2) (List.mem_of_getElem? (i := 4) (by decide +kernel))) (hts (.instantiable RX2 4) (List.mem_of_getElem? (i := 5) (by decide +kernel))) (hts (.initialized RX2) (List.mem_of_getElem? (i := 6) (by decide +kernel))) hK hP hD hS hA rfl (fun j hj => by rcases (show j = 0 ∨ j = 1 ∨ j = 2 ∨ j = 3 by omega) with rfl | rfl | rfl | rfl <;> rfl) (Nat.le_of_ble_eq_true rfl) (Nat.le_of_ble_eq_true rfl) dX4_init_55 (fun q12 H hP hD hS => ?_)
  have hP : va_P D vwCl (((((([(h, .inr (4, [.ref (u2 0), .ref q4, .int (nI 0), .int (nI 0), .ref (u6 0), .ref q8]))] ++ wS u2 cI cR s_0) ++ [(q4, .inl (cS, 6, .inr (.inr (.inr (.inr (va_up (fun _ => none) 0 (some ((u10 0)))))))))]) ++ wT u6 cI x_0) ++ [oa cI q8 5 (o_zf)]) ++ wS u10 cI cR s_0) ++ [(q12, .inr (2, [.null, .null, .int (nI 0), .int (nI 0)]))]) H := hP
  have hD : va_D A (((((([(h, .inr (4, [.ref (u2 0), .ref q4, .int (nI 0), .int (nI 0), .ref (u6 0), .ref q8]))] ++ wS u2 cI cR s_0) ++ [(q4, .inl (cS, 6, .inr (.inr (.inr (.inr (va_up (fun _ => none) 0 (some ((u10 0)))))))))]) ++ wT u6 cI x_0) ++ [oa cI q8 5 (o_zf)]) ++ wS u10 cI cR s_0) ++ [(q12, .inr (2, [.null, .null, .int (nI 0), .int (nI 0)]))]) := hD
  refine W.widen (k := 43) (n := 447) (Nat.le_of_ble_eq_true rfl) (Nat.le_of_ble_eq_true rfl) ?_
  refine lv_dup hx hb dX4_init_58 rfl ?_
  refine o_ctor (w1 := fun u => wS u cI cR s_0) ((((([(h, .inr (4, [.ref (u2 0), .ref q4, .int (nI 0), .int (nI 0), .ref (u6 0), .ref q8]))] ++ wS u2 cI cR s_0) ++ [(q4, .inl (cS, 6, .inr (.inr (.inr (.inr (va_up (fun _ => none) 0 (some ((u10 0)))))))))]) ++ wT u6 cI x_0) ++ [oa cI q8 5 (o_zf)]) ++ wS u10 cI cR s_0) (va_runI (As := []) (rest := [.ref q12, .int (nI 1), .ref q4]) ⟨hx, hb, hml, hown, hts⟩ (n_X2_init l D cI cR cS cL H.size q12) (cwI 0 hts gX4_init_X2_init rfl rfl rfl (hts (.initialized RX2) (List.mem_of_getElem? (i := 6) (by decide +kernel))) (hts (.methodLink RX4 9 yX2_init) (List.mem_of_getElem? (i := 15) (by decide +kernel))) (hts (.instanceMethod yX2_init) (List.mem_of_getElem? (i := 16) (by decide +kernel))) rfl (by decide +kernel) ⟨Nat.le_of_ble_eq_true rfl, Nat.le_of_ble_eq_true rfl⟩) (o_pJ hK hN hO (o_PT (pre := ((((([(h, .inr (4, [.ref (u2 0), .ref q4, .int (nI 0), .int (nI 0), .ref (u6 0), .ref q8]))] ++ wS u2 cI cR s_0) ++ [(q4, .inl (cS, 6, .inr (.inr (.inr (.inr (va_up (fun _ => none) 0 (some ((u10 0)))))))))]) ++ wT u6 cI x_0) ++ [oa cI q8 5 (o_zf)]) ++ wS u10 cI cR s_0)) (ws := [(q12, .inr (2, [.null, .null, .int (nI 0), .int (nI 0)]))]) hP) (o_DT (pre := ((((([(h, .inr (4, [.ref (u2 0), .ref q4, .int (nI 0), .int (nI 0), .ref (u6 0), .ref q8]))] ++ wS u2 cI cR s_0) ++ [(q4, .inl (cS, 6, .inr (.inr (.inr (.inr (va_up (fun _ => none) 0 (some ((u10 0)))))))))]) ++ wT u6 cI x_0) ++ [oa cI q8 5 (o_zf)]) ++ wS u10 cI cR s_0)) (ws := [(q12, .inr (2, [.null, .null, .int (nI 0), .int (nI 0)]))]) hD)) rfl rfl hl.1 rfl (lv_room (Nat.le_of_ble_eq_true rfl)) dX4_init_59 ⟨Nat.le_of_ble_eq_true rfl, Nat.le_of_ble_eq_true rfl⟩) hP hD hS hA (fun u13 H locs hu14 hP8 hD8 hS => ?_)
  have hu14 : u13 0 = q12 := hu14
  subst hu14
  have hP := hP8
  have hD := hD8
  have hP : va_P D vwCl (((((([(h, .inr (4, [.ref (u2 0), .ref q4, .int (nI 0), .int (nI 0), .ref (u6 0), .ref q8]))] ++ wS u2 cI cR s_0) ++ [(q4, .inl (cS, 6, .inr (.inr (.inr (.inr (va_up (fun _ => none) 0 (some ((u10 0)))))))))]) ++ wT u6 cI x_0) ++ [oa cI q8 5 (o_zf)]) ++ wS u10 cI cR s_0) ++ wS u13 cI cR s_0) H := hP
  have hD : va_D A (((((([(h, .inr (4, [.ref (u2 0), .ref q4, .int (nI 0), .int (nI 0), .ref (u6 0), .ref q8]))] ++ wS u2 cI cR s_0) ++ [(q4, .inl (cS, 6, .inr (.inr (.inr (.inr (va_up (fun _ => none) 0 (some ((u10 0)))))))))]) ++ wT u6 cI x_0) ++ [oa cI q8 5 (o_zf)]) ++ wS u10 cI cR s_0) ++ wS u13 cI cR s_0) := hD
  refine W.widen (k := 61) (n := 627) (Nat.le_of_ble_eq_true rfl) (Nat.le_of_ble_eq_true rfl) ?_
  refine va_astq hx hb hK hP hD hS 20 2 43 2 rfl rfl rfl rfl (vp_in_nI (Nat.le_of_ble_eq_true rfl) (Nat.le_of_ble_eq_true rfl)) dX4_init_62 (fun H locs hP hD hS => ?_)
  rw [nI_clamp (show 1 < 2 ^ 31 by decide)] at hP hD
  have hP : va_P D vwCl (((((([(h, .inr (4, [.ref (u2 0), .ref q4, .int (nI 0), .int (nI 0), .ref (u6 0), .ref q8]))] ++ wS u2 cI cR s_0) ++ [(q4, .inl (cS, 6, .inr (.inr (.inr (.inr (va_up (va_up (fun _ => none) 0 (some ((u10 0)))) 1 (some ((u13 0)))))))))]) ++ wT u6 cI x_0) ++ [oa cI q8 5 (o_zf)]) ++ wS u10 cI cR s_0) ++ wS u13 cI cR s_0) H := hP
  have hD : va_D A (((((([(h, .inr (4, [.ref (u2 0), .ref q4, .int (nI 0), .int (nI 0), .ref (u6 0), .ref q8]))] ++ wS u2 cI cR s_0) ++ [(q4, .inl (cS, 6, .inr (.inr (.inr (.inr (va_up (va_up (fun _ => none) 0 (some ((u10 0)))) 1 (some ((u13 0)))))))))]) ++ wT u6 cI x_0) ++ [oa cI q8 5 (o_zf)]) ++ wS u10 cI cR s_0) ++ wS u13 cI cR s_0) := hD
  refine lv_iinc (v := nI 2) (lv' := [(1, .int (nI 2)), (0, .ref h)]) hx hb dX4_init_63 hl (k := 0) rfl (by decide) (by decide) rfl (fun ls hl => ?_)
  refine lv_goto (tgt := 44) hx hb dX4_init_66 (by decide) ?_
  refine lv_iload_n hx hb dX4_init_44 rfl (lv_at hl 0 rfl) ?_
  refine o_bipush (k := 6) hx hb dX4_init_45 (by decide) ?_
  refine o_icmp_ge (tgt := 69) hx hb dX4_init_47 (by decide) (Nat.le_of_ble_eq_true rfl) (Nat.le_of_ble_eq_true rfl) (fun c0 => absurd c0 (by decide)) (fun _ => ?_)
  refine lv_aload_n hx hb dX4_init_50 rfl (lv_at hl 1 rfl) ?_
  refine va_get (D := D) (ci := 4) (v := .ref q4) (C := RX4) (T := TX4) (N := 6) hx hb hts inX4_init_X4 hown hK hP 0 rfl rfl 1 (by decide) (hts (.fieldLink RX4 16 "OddNotice" "saved" "[LOddNotice$State;") (List.mem_of_getElem? (i := 8) (by decide +kernel))) (fun _ h9 => h9) rfl dX4_init_51 ?_
  refine lv_iload_n hx hb dX4_init_54 rfl (lv_at hl 0 rfl) ?_
  refine va_new (ci := 2) (fs := [.null, .null, .int (nI 0), .int (nI 0)]) (C := RX2) (T := TX2) (N := 4) hx hb hts inX4_init_X2 tyX2 tyX2_ok hown (hts (.classLink RX4 7 RX2) (List.mem_of_getElem? (i := 4) (by decide +kernel))) (hts (.instantiable RX2 4) (List.mem_of_getElem? (i := 5) (by decide +kernel))) (hts (.initialized RX2) (List.mem_of_getElem? (i := 6) (by decide +kernel))) hK hP hD hS hA rfl (fun j hj => by rcases (show j = 0 ∨ j = 1 ∨ j = 2 ∨ j = 3 by omega) with rfl | rfl | rfl | rfl <;> rfl) (Nat.le_of_ble_eq_true rfl) (Nat.le_of_ble_eq_true rfl) dX4_init_55 (fun q15 H hP hD hS => ?_)
  have hP : va_P D vwCl ((((((([(h, .inr (4, [.ref (u2 0), .ref q4, .int (nI 0), .int (nI 0), .ref (u6 0), .ref q8]))] ++ wS u2 cI cR s_0) ++ [(q4, .inl (cS, 6, .inr (.inr (.inr (.inr (va_up (va_up (fun _ => none) 0 (some ((u10 0)))) 1 (some ((u13 0)))))))))]) ++ wT u6 cI x_0) ++ [oa cI q8 5 (o_zf)]) ++ wS u10 cI cR s_0) ++ wS u13 cI cR s_0) ++ [(q15, .inr (2, [.null, .null, .int (nI 0), .int (nI 0)]))]) H := hP
  have hD : va_D A ((((((([(h, .inr (4, [.ref (u2 0), .ref q4, .int (nI 0), .int (nI 0), .ref (u6 0), .ref q8]))] ++ wS u2 cI cR s_0) ++ [(q4, .inl (cS, 6, .inr (.inr (.inr (.inr (va_up (va_up (fun _ => none) 0 (some ((u10 0)))) 1 (some ((u13 0)))))))))]) ++ wT u6 cI x_0) ++ [oa cI q8 5 (o_zf)]) ++ wS u10 cI cR s_0) ++ wS u13 cI cR s_0) ++ [(q15, .inr (2, [.null, .null, .int (nI 0), .int (nI 0)]))]) := hD
  refine W.widen (k := 62) (n := 631) (Nat.le_of_ble_eq_true rfl) (Nat.le_of_ble_eq_true rfl) ?_
  refine lv_dup hx hb dX4_init_58 rfl ?_
  refine o_ctor (w1 := fun u => wS u cI cR s_0) (((((([(h, .inr (4, [.ref (u2 0), .ref q4, .int (nI 0), .int (nI 0), .ref (u6 0), .ref q8]))] ++ wS u2 cI cR s_0) ++ [(q4, .inl (cS, 6, .inr (.inr (.inr (.inr (va_up (va_up (fun _ => none) 0 (some ((u10 0)))) 1 (some ((u13 0)))))))))]) ++ wT u6 cI x_0) ++ [oa cI q8 5 (o_zf)]) ++ wS u10 cI cR s_0) ++ wS u13 cI cR s_0) (va_runI (As := []) (rest := [.ref q15, .int (nI 2), .ref q4]) ⟨hx, hb, hml, hown, hts⟩ (n_X2_init l D cI cR cS cL H.size q15) (cwI 0 hts gX4_init_X2_init rfl rfl rfl (hts (.initialized RX2) (List.mem_of_getElem? (i := 6) (by decide +kernel))) (hts (.methodLink RX4 9 yX2_init) (List.mem_of_getElem? (i := 15) (by decide +kernel))) (hts (.instanceMethod yX2_init) (List.mem_of_getElem? (i := 16) (by decide +kernel))) rfl (by decide +kernel) ⟨Nat.le_of_ble_eq_true rfl, Nat.le_of_ble_eq_true rfl⟩) (o_pJ hK hN hO (o_PT (pre := (((((([(h, .inr (4, [.ref (u2 0), .ref q4, .int (nI 0), .int (nI 0), .ref (u6 0), .ref q8]))] ++ wS u2 cI cR s_0) ++ [(q4, .inl (cS, 6, .inr (.inr (.inr (.inr (va_up (va_up (fun _ => none) 0 (some ((u10 0)))) 1 (some ((u13 0)))))))))]) ++ wT u6 cI x_0) ++ [oa cI q8 5 (o_zf)]) ++ wS u10 cI cR s_0) ++ wS u13 cI cR s_0)) (ws := [(q15, .inr (2, [.null, .null, .int (nI 0), .int (nI 0)]))]) hP) (o_DT (pre := (((((([(h, .inr (4, [.ref (u2 0), .ref q4, .int (nI 0), .int (nI 0), .ref (u6 0), .ref q8]))] ++ wS u2 cI cR s_0) ++ [(q4, .inl (cS, 6, .inr (.inr (.inr (.inr (va_up (va_up (fun _ => none) 0 (some ((u10 0)))) 1 (some ((u13 0)))))))))]) ++ wT u6 cI x_0) ++ [oa cI q8 5 (o_zf)]) ++ wS u10 cI cR s_0) ++ wS u13 cI cR s_0)) (ws := [(q15, .inr (2, [.null, .null, .int (nI 0), .int (nI 0)]))]) hD)) rfl rfl hl.1 rfl (lv_room (Nat.le_of_ble_eq_true rfl)) dX4_init_59 ⟨Nat.le_of_ble_eq_true rfl, Nat.le_of_ble_eq_true rfl⟩) hP hD hS hA (fun u16 H locs hu17 hP8 hD8 hS => ?_)
  have hu17 : u16 0 = q15 := hu17
  subst hu17
  have hP := hP8
  have hD := hD8
  have hP : va_P D vwCl ((((((([(h, .inr (4, [.ref (u2 0), .ref q4, .int (nI 0), .int (nI 0), .ref (u6 0), .ref q8]))] ++ wS u2 cI cR s_0) ++ [(q4, .inl (cS, 6, .inr (.inr (.inr (.inr (va_up (va_up (fun _ => none) 0 (some ((u10 0)))) 1 (some ((u13 0)))))))))]) ++ wT u6 cI x_0) ++ [oa cI q8 5 (o_zf)]) ++ wS u10 cI cR s_0) ++ wS u13 cI cR s_0) ++ wS u16 cI cR s_0) H := hP
  have hD : va_D A ((((((([(h, .inr (4, [.ref (u2 0), .ref q4, .int (nI 0), .int (nI 0), .ref (u6 0), .ref q8]))] ++ wS u2 cI cR s_0) ++ [(q4, .inl (cS, 6, .inr (.inr (.inr (.inr (va_up (va_up (fun _ => none) 0 (some ((u10 0)))) 1 (some ((u13 0)))))))))]) ++ wT u6 cI x_0) ++ [oa cI q8 5 (o_zf)]) ++ wS u10 cI cR s_0) ++ wS u13 cI cR s_0) ++ wS u16 cI cR s_0) := hD
  refine W.widen (k := 80) (n := 811) (Nat.le_of_ble_eq_true rfl) (Nat.le_of_ble_eq_true rfl) ?_
  refine va_astq hx hb hK hP hD hS 20 2 62 2 rfl rfl rfl rfl (vp_in_nI (Nat.le_of_ble_eq_true rfl) (Nat.le_of_ble_eq_true rfl)) dX4_init_62 (fun H locs hP hD hS => ?_)
  rw [nI_clamp (show 2 < 2 ^ 31 by decide)] at hP hD
  have hP : va_P D vwCl ((((((([(h, .inr (4, [.ref (u2 0), .ref q4, .int (nI 0), .int (nI 0), .ref (u6 0), .ref q8]))] ++ wS u2 cI cR s_0) ++ [(q4, .inl (cS, 6, .inr (.inr (.inr (.inr (va_up (va_up (va_up (fun _ => none) 0 (some ((u10 0)))) 1 (some ((u13 0)))) 2 (some ((u16 0)))))))))]) ++ wT u6 cI x_0) ++ [oa cI q8 5 (o_zf)]) ++ wS u10 cI cR s_0) ++ wS u13 cI cR s_0) ++ wS u16 cI cR s_0) H := hP
  have hD : va_D A ((((((([(h, .inr (4, [.ref (u2 0), .ref q4, .int (nI 0), .int (nI 0), .ref (u6 0), .ref q8]))] ++ wS u2 cI cR s_0) ++ [(q4, .inl (cS, 6, .inr (.inr (.inr (.inr (va_up (va_up (va_up (fun _ => none) 0 (some ((u10 0)))) 1 (some ((u13 0)))) 2 (some ((u16 0)))))))))]) ++ wT u6 cI x_0) ++ [oa cI q8 5 (o_zf)]) ++ wS u10 cI cR s_0) ++ wS u13 cI cR s_0) ++ wS u16 cI cR s_0) := hD
  refine lv_iinc (v := nI 3) (lv' := [(1, .int (nI 3)), (0, .ref h)]) hx hb dX4_init_63 hl (k := 0) rfl (by decide) (by decide) rfl (fun ls hl => ?_)
  refine lv_goto (tgt := 44) hx hb dX4_init_66 (by decide) ?_
  refine lv_iload_n hx hb dX4_init_44 rfl (lv_at hl 0 rfl) ?_
  refine o_bipush (k := 6) hx hb dX4_init_45 (by decide) ?_
  refine o_icmp_ge (tgt := 69) hx hb dX4_init_47 (by decide) (Nat.le_of_ble_eq_true rfl) (Nat.le_of_ble_eq_true rfl) (fun c0 => absurd c0 (by decide)) (fun _ => ?_)
  refine lv_aload_n hx hb dX4_init_50 rfl (lv_at hl 1 rfl) ?_
  refine va_get (D := D) (ci := 4) (v := .ref q4) (C := RX4) (T := TX4) (N := 6) hx hb hts inX4_init_X4 hown hK hP 0 rfl rfl 1 (by decide) (hts (.fieldLink RX4 16 "OddNotice" "saved" "[LOddNotice$State;") (List.mem_of_getElem? (i := 8) (by decide +kernel))) (fun _ h9 => h9) rfl dX4_init_51 ?_
  refine lv_iload_n hx hb dX4_init_54 rfl (lv_at hl 0 rfl) ?_
  refine va_new (ci := 2) (fs := [.null, .null, .int (nI 0), .int (nI 0)]) (C := RX2) (T := TX2) (N := 4) hx hb hts inX4_init_X2 tyX2 tyX2_ok hown (hts (.classLink RX4 7 RX2) (List.mem_of_getElem? (i := 4) (by decide +kernel))) (hts (.instantiable RX2 4) (List.mem_of_getElem? (i := 5) (by decide +kernel))) (hts (.initialized RX2) (List.mem_of_getElem? (i := 6) (by decide +kernel))) hK hP hD hS hA rfl (fun j hj => by rcases (show j = 0 ∨ j = 1 ∨ j = 2 ∨ j = 3 by omega) with rfl | rfl | rfl | rfl <;> rfl) (Nat.le_of_ble_eq_true rfl) (Nat.le_of_ble_eq_true rfl) dX4_init_55 (fun q18 H hP hD hS => ?_)
  have hP : va_P D vwCl (((((((([(h, .inr (4, [.ref (u2 0), .ref q4, .int (nI 0), .int (nI 0), .ref (u6 0), .ref q8]))] ++ wS u2 cI cR s_0) ++ [(q4, .inl (cS, 6, .inr (.inr (.inr (.inr (va_up (va_up (va_up (fun _ => none) 0 (some ((u10 0)))) 1 (some ((u13 0)))) 2 (some ((u16 0)))))))))]) ++ wT u6 cI x_0) ++ [oa cI q8 5 (o_zf)]) ++ wS u10 cI cR s_0) ++ wS u13 cI cR s_0) ++ wS u16 cI cR s_0) ++ [(q18, .inr (2, [.null, .null, .int (nI 0), .int (nI 0)]))]) H := hP
  have hD : va_D A (((((((([(h, .inr (4, [.ref (u2 0), .ref q4, .int (nI 0), .int (nI 0), .ref (u6 0), .ref q8]))] ++ wS u2 cI cR s_0) ++ [(q4, .inl (cS, 6, .inr (.inr (.inr (.inr (va_up (va_up (va_up (fun _ => none) 0 (some ((u10 0)))) 1 (some ((u13 0)))) 2 (some ((u16 0)))))))))]) ++ wT u6 cI x_0) ++ [oa cI q8 5 (o_zf)]) ++ wS u10 cI cR s_0) ++ wS u13 cI cR s_0) ++ wS u16 cI cR s_0) ++ [(q18, .inr (2, [.null, .null, .int (nI 0), .int (nI 0)]))]) := hD
  refine W.widen (k := 81) (n := 815) (Nat.le_of_ble_eq_true rfl) (Nat.le_of_ble_eq_true rfl) ?_
  refine lv_dup hx hb dX4_init_58 rfl ?_
  refine o_ctor (w1 := fun u => wS u cI cR s_0) ((((((([(h, .inr (4, [.ref (u2 0), .ref q4, .int (nI 0), .int (nI 0), .ref (u6 0), .ref q8]))] ++ wS u2 cI cR s_0) ++ [(q4, .inl (cS, 6, .inr (.inr (.inr (.inr (va_up (va_up (va_up (fun _ => none) 0 (some ((u10 0)))) 1 (some ((u13 0)))) 2 (some ((u16 0)))))))))]) ++ wT u6 cI x_0) ++ [oa cI q8 5 (o_zf)]) ++ wS u10 cI cR s_0) ++ wS u13 cI cR s_0) ++ wS u16 cI cR s_0) (va_runI (As := []) (rest := [.ref q18, .int (nI 3), .ref q4]) ⟨hx, hb, hml, hown, hts⟩ (n_X2_init l D cI cR cS cL H.size q18) (cwI 0 hts gX4_init_X2_init rfl rfl rfl (hts (.initialized RX2) (List.mem_of_getElem? (i := 6) (by decide +kernel))) (hts (.methodLink RX4 9 yX2_init) (List.mem_of_getElem? (i := 15) (by decide +kernel))) (hts (.instanceMethod yX2_init) (List.mem_of_getElem? (i := 16) (by decide +kernel))) rfl (by decide +kernel) ⟨Nat.le_of_ble_eq_true rfl, Nat.le_of_ble_eq_true rfl⟩) (o_pJ hK hN hO (o_PT (pre := ((((((([(h, .inr (4, [.ref (u2 0), .ref q4, .int (nI 0), .int (nI 0), .ref (u6 0), .ref q8]))] ++ wS u2 cI cR s_0) ++ [(q4, .inl (cS, 6, .inr (.inr (.inr (.inr (va_up (va_up (va_up (fun _ => none) 0 (some ((u10 0)))) 1 (some ((u13 0)))) 2 (some ((u16 0)))))))))]) ++ wT u6 cI x_0) ++ [oa cI q8 5 (o_zf)]) ++ wS u10 cI cR s_0) ++ wS u13 cI cR s_0) ++ wS u16 cI cR s_0)) (ws := [(q18, .inr (2, [.null, .null, .int (nI 0), .int (nI 0)]))]) hP) (o_DT (pre := ((((((([(h, .inr (4, [.ref (u2 0), .ref q4, .int (nI 0), .int (nI 0), .ref (u6 0), .ref q8]))] ++ wS u2 cI cR s_0) ++ [(q4, .inl (cS, 6, .inr (.inr (.inr (.inr (va_up (va_up (va_up (fun _ => none) 0 (some ((u10 0)))) 1 (some ((u13 0)))) 2 (some ((u16 0)))))))))]) ++ wT u6 cI x_0) ++ [oa cI q8 5 (o_zf)]) ++ wS u10 cI cR s_0) ++ wS u13 cI cR s_0) ++ wS u16 cI cR s_0)) (ws := [(q18, .inr (2, [.null, .null, .int (nI 0), .int (nI 0)]))]) hD)) rfl rfl hl.1 rfl (lv_room (Nat.le_of_ble_eq_true rfl)) dX4_init_59 ⟨Nat.le_of_ble_eq_true rfl, Nat.le_of_ble_eq_true rfl⟩) hP hD hS hA (fun u19 H locs hu20 hP8 hD8 hS => ?_)
  have hu20 : u19 0 = q18 := hu20
  subst hu20
  have hP := hP8
  have hD := hD8
  have hP : va_P D vwCl (((((((([(h, .inr (4, [.ref (u2 0), .ref q4, .int (nI 0), .int (nI 0), .ref (u6 0), .ref q8]))] ++ wS u2 cI cR s_0) ++ [(q4, .inl (cS, 6, .inr (.inr (.inr (.inr (va_up (va_up (va_up (fun _ => none) 0 (some ((u10 0)))) 1 (some ((u13 0)))) 2 (some ((u16 0)))))))))]) ++ wT u6 cI x_0) ++ [oa cI q8 5 (o_zf)]) ++ wS u10 cI cR s_0) ++ wS u13 cI cR s_0) ++ wS u16 cI cR s_0) ++ wS u19 cI cR s_0) H := hP
  have hD : va_D A (((((((([(h, .inr (4, [.ref (u2 0), .ref q4, .int (nI 0), .int (nI 0), .ref (u6 0), .ref q8]))] ++ wS u2 cI cR s_0) ++ [(q4, .inl (cS, 6, .inr (.inr (.inr (.inr (va_up (va_up (va_up (fun _ => none) 0 (some ((u10 0)))) 1 (some ((u13 0)))) 2 (some ((u16 0)))))))))]) ++ wT u6 cI x_0) ++ [oa cI q8 5 (o_zf)]) ++ wS u10 cI cR s_0) ++ wS u13 cI cR s_0) ++ wS u16 cI cR s_0) ++ wS u19 cI cR s_0) := hD
  refine W.widen (k := 99) (n := 995) (Nat.le_of_ble_eq_true rfl) (Nat.le_of_ble_eq_true rfl) ?_
  refine va_astq hx hb hK hP hD hS 20 2 81 2 rfl rfl rfl rfl (vp_in_nI (Nat.le_of_ble_eq_true rfl) (Nat.le_of_ble_eq_true rfl)) dX4_init_62 (fun H locs hP hD hS => ?_)
  rw [nI_clamp (show 3 < 2 ^ 31 by decide)] at hP hD
  have hP : va_P D vwCl (((((((([(h, .inr (4, [.ref (u2 0), .ref q4, .int (nI 0), .int (nI 0), .ref (u6 0), .ref q8]))] ++ wS u2 cI cR s_0) ++ [(q4, .inl (cS, 6, .inr (.inr (.inr (.inr (va_up (va_up (va_up (va_up (fun _ => none) 0 (some ((u10 0)))) 1 (some ((u13 0)))) 2 (some ((u16 0)))) 3 (some ((u19 0)))))))))]) ++ wT u6 cI x_0) ++ [oa cI q8 5 (o_zf)]) ++ wS u10 cI cR s_0) ++ wS u13 cI cR s_0) ++ wS u16 cI cR s_0) ++ wS u19 cI cR s_0) H := hP
  have hD : va_D A (((((((([(h, .inr (4, [.ref (u2 0), .ref q4, .int (nI 0), .int (nI 0), .ref (u6 0), .ref q8]))] ++ wS u2 cI cR s_0) ++ [(q4, .inl (cS, 6, .inr (.inr (.inr (.inr (va_up (va_up (va_up (va_up (fun _ => none) 0 (some ((u10 0)))) 1 (some ((u13 0)))) 2 (some ((u16 0)))) 3 (some ((u19 0)))))))))]) ++ wT u6 cI x_0) ++ [oa cI q8 5 (o_zf)]) ++ wS u10 cI cR s_0) ++ wS u13 cI cR s_0) ++ wS u16 cI cR s_0) ++ wS u19 cI cR s_0) := hD
  refine lv_iinc (v := nI 4) (lv' := [(1, .int (nI 4)), (0, .ref h)]) hx hb dX4_init_63 hl (k := 0) rfl (by decide) (by decide) rfl (fun ls hl => ?_)
  refine lv_goto (tgt := 44) hx hb dX4_init_66 (by decide) ?_
  refine lv_iload_n hx hb dX4_init_44 rfl (lv_at hl 0 rfl) ?_
  refine o_bipush (k := 6) hx hb dX4_init_45 (by decide) ?_
  refine o_icmp_ge (tgt := 69) hx hb dX4_init_47 (by decide) (Nat.le_of_ble_eq_true rfl) (Nat.le_of_ble_eq_true rfl) (fun c0 => absurd c0 (by decide)) (fun _ => ?_)
  refine lv_aload_n hx hb dX4_init_50 rfl (lv_at hl 1 rfl) ?_
  refine va_get (D := D) (ci := 4) (v := .ref q4) (C := RX4) (T := TX4) (N := 6) hx hb hts inX4_init_X4 hown hK hP 0 rfl rfl 1 (by decide) (hts (.fieldLink RX4 16 "OddNotice" "saved" "[LOddNotice$State;") (List.mem_of_getElem? (i := 8) (by decide +kernel))) (fun _ h9 => h9) rfl dX4_init_51 ?_
  refine lv_iload_n hx hb dX4_init_54 rfl (lv_at hl 0 rfl) ?_
  refine va_new (ci := 2) (fs := [.null, .null, .int (nI 0), .int (nI 0)]) (C := RX2) (T := TX2) (N := 4) hx hb hts inX4_init_X2 tyX2 tyX2_ok hown (hts (.classLink RX4 7 RX2) (List.mem_of_getElem? (i := 4) (by decide +kernel))) (hts (.instantiable RX2 4) (List.mem_of_getElem? (i := 5) (by decide +kernel))) (hts (.initialized RX2) (List.mem_of_getElem? (i := 6) (by decide +kernel))) hK hP hD hS hA rfl (fun j hj => by rcases (show j = 0 ∨ j = 1 ∨ j = 2 ∨ j = 3 by omega) with rfl | rfl | rfl | rfl <;> rfl) (Nat.le_of_ble_eq_true rfl) (Nat.le_of_ble_eq_true rfl) dX4_init_55 (fun q21 H hP hD hS => ?_)
  have hP : va_P D vwCl ((((((((([(h, .inr (4, [.ref (u2 0), .ref q4, .int (nI 0), .int (nI 0), .ref (u6 0), .ref q8]))] ++ wS u2 cI cR s_0) ++ [(q4, .inl (cS, 6, .inr (.inr (.inr (.inr (va_up (va_up (va_up (va_up (fun _ => none) 0 (some ((u10 0)))) 1 (some ((u13 0)))) 2 (some ((u16 0)))) 3 (some ((u19 0)))))))))]) ++ wT u6 cI x_0) ++ [oa cI q8 5 (o_zf)]) ++ wS u10 cI cR s_0) ++ wS u13 cI cR s_0) ++ wS u16 cI cR s_0) ++ wS u19 cI cR s_0) ++ [(q21, .inr (2, [.null, .null, .int (nI 0), .int (nI 0)]))]) H := hP
  have hD : va_D A ((((((((([(h, .inr (4, [.ref (u2 0), .ref q4, .int (nI 0), .int (nI 0), .ref (u6 0), .ref q8]))] ++ wS u2 cI cR s_0) ++ [(q4, .inl (cS, 6, .inr (.inr (.inr (.inr (va_up (va_up (va_up (va_up (fun _ => none) 0 (some ((u10 0)))) 1 (some ((u13 0)))) 2 (some ((u16 0)))) 3 (some ((u19 0)))))))))]) ++ wT u6 cI x_0) ++ [oa cI q8 5 (o_zf)]) ++ wS u10 cI cR s_0) ++ wS u13 cI cR s_0) ++ wS u16 cI cR s_0) ++ wS u19 cI cR s_0) ++ [(q21, .inr (2, [.null, .null, .int (nI 0), .int (nI 0)]))]) := hD
  refine W.widen (k := 100) (n := 999) (Nat.le_of_ble_eq_true rfl) (Nat.le_of_ble_eq_true rfl) ?_
  refine lv_dup hx hb dX4_init_58 rfl ?_
  refine o_ctor (w1 := fun u => wS u cI cR s_0) (((((((([(h, .inr (4, [.ref (u2 0), .ref q4, .int (nI 0), .int (nI 0), .ref (u6 0), .ref q8]))] ++ wS u2 cI cR s_0) ++ [(q4, .inl (cS, 6, .inr (.inr (.inr (.inr (va_up (va_up (va_up (va_up (fun _ => none) 0 (some ((u10 0)))) 1 (some ((u13 0)))) 2 (some ((u16 0)))) 3 (some ((u19 0)))))))))]) ++ wT u6 cI x_0) ++ [oa cI q8 5 (o_zf)]) ++ wS u10 cI cR s_0) ++ wS u13 cI cR s_0) ++ wS u16 cI cR s_0) ++ wS u19 cI cR s_0) (va_runI (As := []) (rest := [.ref q21, .int (nI 4), .ref q4]) ⟨hx, hb, hml, hown, hts⟩ (n_X2_init l D cI cR cS cL H.size q21) (cwI 0 hts gX4_init_X2_init rfl rfl rfl (hts (.initialized RX2) (List.mem_of_getElem? (i := 6) (by decide +kernel))) (hts (.methodLink RX4 9 yX2_init) (List.mem_of_getElem? (i := 15) (by decide +kernel))) (hts (.instanceMethod yX2_init) (List.mem_of_getElem? (i := 16) (by decide +kernel))) rfl (by decide +kernel) ⟨Nat.le_of_ble_eq_true rfl, Nat.le_of_ble_eq_true rfl⟩) (o_pJ hK hN hO (o_PT (pre := (((((((([(h, .inr (4, [.ref (u2 0), .ref q4, .int (nI 0), .int (nI 0), .ref (u6 0), .ref q8]))] ++ wS u2 cI cR s_0) ++ [(q4, .inl (cS, 6, .inr (.inr (.inr (.inr (va_up (va_up (va_up (va_up (fun _ => none) 0 (some ((u10 0)))) 1 (some ((u13 0)))) 2 (some ((u16 0)))) 3 (some ((u19 0)))))))))]) ++ wT u6 cI x_0) ++ [oa cI q8 5 (o_zf)]) ++ wS u10 cI cR s_0) ++ wS u13 cI cR s_0) ++ wS u16 cI cR s_0) ++ wS u19 cI cR s_0)) (ws := [(q21, .inr (2, [.null, .null, .int (nI 0), .int (nI 0)]))]) hP) (o_DT (pre := (((((((([(h, .inr (4, [.ref (u2 0), .ref q4, .int (nI 0), .int (nI 0), .ref (u6 0), .ref q8]))] ++ wS u2 cI cR s_0) ++ [(q4, .inl (cS, 6, .inr (.inr (.inr (.inr (va_up (va_up (va_up (va_up (fun _ => none) 0 (some ((u10 0)))) 1 (some ((u13 0)))) 2 (some ((u16 0)))) 3 (some ((u19 0)))))))))]) ++ wT u6 cI x_0) ++ [oa cI q8 5 (o_zf)]) ++ wS u10 cI cR s_0) ++ wS u13 cI cR s_0) ++ wS u16 cI cR s_0) ++ wS u19 cI cR s_0)) (ws := [(q21, .inr (2, [.null, .null, .int (nI 0), .int (nI 0)]))]) hD)) rfl rfl hl.1 rfl (lv_room (Nat.le_of_ble_eq_true rfl)) dX4_init_59 ⟨Nat.le_of_ble_eq_true rfl, Nat.le_of_ble_eq_true rfl⟩) hP hD hS hA (fun u22 H locs hu23 hP8 hD8 hS => ?_)
  have hu23 : u22 0 = q21 := hu23
  subst hu23
  have hP := hP8
  have hD := hD8
  have hP : va_P D vwCl ((((((((([(h, .inr (4, [.ref (u2 0), .ref q4, .int (nI 0), .int (nI 0), .ref (u6 0), .ref q8]))] ++ wS u2 cI cR s_0) ++ [(q4, .inl (cS, 6, .inr (.inr (.inr (.inr (va_up (va_up (va_up (va_up (fun _ => none) 0 (some ((u10 0)))) 1 (some ((u13 0)))) 2 (some ((u16 0)))) 3 (some ((u19 0)))))))))]) ++ wT u6 cI x_0) ++ [oa cI q8 5 (o_zf)]) ++ wS u10 cI cR s_0) ++ wS u13 cI cR s_0) ++ wS u16 cI cR s_0) ++ wS u19 cI cR s_0) ++ wS u22 cI cR s_0) H := hP
  have hD : va_D A ((((((((([(h, .inr (4, [.ref (u2 0), .ref q4, .int (nI 0), .int (nI 0), .ref (u6 0), .ref q8]))] ++ wS u2 cI cR s_0) ++ [(q4, .inl (cS, 6, .inr (.inr (.inr (.inr (va_up (va_up (va_up (va_up (fun _ => none) 0 (some ((u10 0)))) 1 (some ((u13 0)))) 2 (some ((u16 0)))) 3 (some ((u19 0)))))))))]) ++ wT u6 cI x_0) ++ [oa cI q8 5 (o_zf)]) ++ wS u10 cI cR s_0) ++ wS u13 cI cR s_0) ++ wS u16 cI cR s_0) ++ wS u19 cI cR s_0) ++ wS u22 cI cR s_0) := hD
  refine W.widen (k := 118) (n := 1179) (Nat.le_of_ble_eq_true rfl) (Nat.le_of_ble_eq_true rfl) ?_
  refine va_astq hx hb hK hP hD hS 20 2 100 2 rfl rfl rfl rfl (vp_in_nI (Nat.le_of_ble_eq_true rfl) (Nat.le_of_ble_eq_true rfl)) dX4_init_62 (fun H locs hP hD hS => ?_)
  rw [nI_clamp (show 4 < 2 ^ 31 by decide)] at hP hD
  have hP : va_P D vwCl ((((((((([(h, .inr (4, [.ref (u2 0), .ref q4, .int (nI 0), .int (nI 0), .ref (u6 0), .ref q8]))] ++ wS u2 cI cR s_0) ++ [(q4, .inl (cS, 6, .inr (.inr (.inr (.inr (va_up (va_up (va_up (va_up (va_up (fun _ => none) 0 (some ((u10 0)))) 1 (some ((u13 0)))) 2 (some ((u16 0)))) 3 (some ((u19 0)))) 4 (some ((u22 0)))))))))]) ++ wT u6 cI x_0) ++ [oa cI q8 5 (o_zf)]) ++ wS u10 cI cR s_0) ++ wS u13 cI cR s_0) ++ wS u16 cI cR s_0) ++ wS u19 cI cR s_0) ++ wS u22 cI cR s_0) H := hP
  have hD : va_D A ((((((((([(h, .inr (4, [.ref (u2 0), .ref q4, .int (nI 0), .int (nI 0), .ref (u6 0), .ref q8]))] ++ wS u2 cI cR s_0) ++ [(q4, .inl (cS, 6, .inr (.inr (.inr (.inr (va_up (va_up (va_up (va_up (va_up (fun _ => none) 0 (some ((u10 0)))) 1 (some ((u13 0)))) 2 (some ((u16 0)))) 3 (some ((u19 0)))) 4 (some ((u22 0)))))))))]) ++ wT u6 cI x_0) ++ [oa cI q8 5 (o_zf)]) ++ wS u10 cI cR s_0) ++ wS u13 cI cR s_0) ++ wS u16 cI cR s_0) ++ wS u19 cI cR s_0) ++ wS u22 cI cR s_0) := hD
  refine lv_iinc (v := nI 5) (lv' := [(1, .int (nI 5)), (0, .ref h)]) hx hb dX4_init_63 hl (k := 0) rfl (by decide) (by decide) rfl (fun ls hl => ?_)
  refine lv_goto (tgt := 44) hx hb dX4_init_66 (by decide) ?_
  refine lv_iload_n hx hb dX4_init_44 rfl (lv_at hl 0 rfl) ?_
  refine o_bipush (k := 6) hx hb dX4_init_45 (by decide) ?_
  refine o_icmp_ge (tgt := 69) hx hb dX4_init_47 (by decide) (Nat.le_of_ble_eq_true rfl) (Nat.le_of_ble_eq_true rfl) (fun c0 => absurd c0 (by decide)) (fun _ => ?_)
  refine lv_aload_n hx hb dX4_init_50 rfl (lv_at hl 1 rfl) ?_
  refine va_get (D := D) (ci := 4) (v := .ref q4) (C := RX4) (T := TX4) (N := 6) hx hb hts inX4_init_X4 hown hK hP 0 rfl rfl 1 (by decide) (hts (.fieldLink RX4 16 "OddNotice" "saved" "[LOddNotice$State;") (List.mem_of_getElem? (i := 8) (by decide +kernel))) (fun _ h9 => h9) rfl dX4_init_51 ?_
  refine lv_iload_n hx hb dX4_init_54 rfl (lv_at hl 0 rfl) ?_
  refine va_new (ci := 2) (fs := [.null, .null, .int (nI 0), .int (nI 0)]) (C := RX2) (T := TX2) (N := 4) hx hb hts inX4_init_X2 tyX2 tyX2_ok hown (hts (.classLink RX4 7 RX2) (List.mem_of_getElem? (i := 4) (by decide +kernel))) (hts (.instantiable RX2 4) (List.mem_of_getElem? (i := 5) (by decide +kernel))) (hts (.initialized RX2) (List.mem_of_getElem? (i := 6) (by decide +kernel))) hK hP hD hS hA rfl (fun j hj => by rcases (show j = 0 ∨ j = 1 ∨ j = 2 ∨ j = 3 by omega) with rfl | rfl | rfl | rfl <;> rfl) (Nat.le_of_ble_eq_true rfl) (Nat.le_of_ble_eq_true rfl) dX4_init_55 (fun q24 H hP hD hS => ?_)
  have hP : va_P D vwCl (((((((((([(h, .inr (4, [.ref (u2 0), .ref q4, .int (nI 0), .int (nI 0), .ref (u6 0), .ref q8]))] ++ wS u2 cI cR s_0) ++ [(q4, .inl (cS, 6, .inr (.inr (.inr (.inr (va_up (va_up (va_up (va_up (va_up (fun _ => none) 0 (some ((u10 0)))) 1 (some ((u13 0)))) 2 (some ((u16 0)))) 3 (some ((u19 0)))) 4 (some ((u22 0)))))))))]) ++ wT u6 cI x_0) ++ [oa cI q8 5 (o_zf)]) ++ wS u10 cI cR s_0) ++ wS u13 cI cR s_0) ++ wS u16 cI cR s_0) ++ wS u19 cI cR s_0) ++ wS u22 cI cR s_0) ++ [(q24, .inr (2, [.null, .null, .int (nI 0), .int (nI 0)]))]) H := hP
  have hD : va_D A (((((((((([(h, .inr (4, [.ref (u2 0), .ref q4, .int (nI 0), .int (nI 0), .ref (u6 0), .ref q8]))] ++ wS u2 cI cR s_0) ++ [(q4, .inl (cS, 6, .inr (.inr (.inr (.inr (va_up (va_up (va_up (va_up (va_up (fun _ => none) 0 (some ((u10 0)))) 1 (some ((u13 0)))) 2 (some ((u16 0)))) 3 (some ((u19 0)))) 4 (some ((u22 0)))))))))]) ++ wT u6 cI x_0) ++ [oa cI q8 5 (o_zf)]) ++ wS u10 cI cR s_0) ++ wS u13 cI cR s_0) ++ wS u16 cI cR s_0) ++ wS u19 cI cR s_0) ++ wS u22 cI cR s_0) ++ [(q24, .inr (2, [.null, .null, .int (nI 0), .int (nI 0)]))]) := hD
  refine W.widen (k := 119) (n := 1183) (Nat.le_of_ble_eq_true rfl) (Nat.le_of_ble_eq_true rfl) ?_
  refine lv_dup hx hb dX4_init_58 rfl ?_
  refine o_ctor (w1 := fun u => wS u cI cR s_0) ((((((((([(h, .inr (4, [.ref (u2 0), .ref q4, .int (nI 0), .int (nI 0), .ref (u6 0), .ref q8]))] ++ wS u2 cI cR s_0) ++ [(q4, .inl (cS, 6, .inr (.inr (.inr (.inr (va_up (va_up (va_up (va_up (va_up (fun _ => none) 0 (some ((u10 0)))) 1 (some ((u13 0)))) 2 (some ((u16 0)))) 3 (some ((u19 0)))) 4 (some ((u22 0)))))))))]) ++ wT u6 cI x_0) ++ [oa cI q8 5 (o_zf)]) ++ wS u10 cI cR s_0) ++ wS u13 cI cR s_0) ++ wS u16 cI cR s_0) ++ wS u19 cI cR s_0) ++ wS u22 cI cR s_0) (va_runI (As := []) (rest := [.ref q24, .int (nI 5), .ref q4]) ⟨hx, hb, hml, hown, hts⟩ (n_X2_init l D cI cR cS cL H.size q24) (cwI 0 hts gX4_init_X2_init rfl rfl rfl (hts (.initialized RX2) (List.mem_of_getElem? (i := 6) (by decide +kernel))) (hts (.methodLink RX4 9 yX2_init) (List.mem_of_getElem? (i := 15) (by decide +kernel))) (hts (.instanceMethod yX2_init) (List.mem_of_getElem? (i := 16) (by decide +kernel))) rfl (by decide +kernel) ⟨Nat.le_of_ble_eq_true rfl, Nat.le_of_ble_eq_true rfl⟩) (o_pJ hK hN hO (o_PT (pre := ((((((((([(h, .inr (4, [.ref (u2 0), .ref q4, .int (nI 0), .int (nI 0), .ref (u6 0), .ref q8]))] ++ wS u2 cI cR s_0) ++ [(q4, .inl (cS, 6, .inr (.inr (.inr (.inr (va_up (va_up (va_up (va_up (va_up (fun _ => none) 0 (some ((u10 0)))) 1 (some ((u13 0)))) 2 (some ((u16 0)))) 3 (some ((u19 0)))) 4 (some ((u22 0)))))))))]) ++ wT u6 cI x_0) ++ [oa cI q8 5 (o_zf)]) ++ wS u10 cI cR s_0) ++ wS u13 cI cR s_0) ++ wS u16 cI cR s_0) ++ wS u19 cI cR s_0) ++ wS u22 cI cR s_0)) (ws := [(q24, .inr (2, [.null, .null, .int (nI 0), .int (nI 0)]))]) hP) (o_DT (pre := ((((((((([(h, .inr (4, [.ref (u2 0), .ref q4, .int (nI 0), .int (nI 0), .ref (u6 0), .ref q8]))] ++ wS u2 cI cR s_0) ++ [(q4, .inl (cS, 6, .inr (.inr (.inr (.inr (va_up (va_up (va_up (va_up (va_up (fun _ => none) 0 (some ((u10 0)))) 1 (some ((u13 0)))) 2 (some ((u16 0)))) 3 (some ((u19 0)))) 4 (some ((u22 0)))))))))]) ++ wT u6 cI x_0) ++ [oa cI q8 5 (o_zf)]) ++ wS u10 cI cR s_0) ++ wS u13 cI cR s_0) ++ wS u16 cI cR s_0) ++ wS u19 cI cR s_0) ++ wS u22 cI cR s_0)) (ws := [(q24, .inr (2, [.null, .null, .int (nI 0), .int (nI 0)]))]) hD)) rfl rfl hl.1 rfl (lv_room (Nat.le_of_ble_eq_true rfl)) dX4_init_59 ⟨Nat.le_of_ble_eq_true rfl, Nat.le_of_ble_eq_true rfl⟩) hP hD hS hA (fun u25 H locs hu26 hP8 hD8 hS => ?_)
  have hu26 : u25 0 = q24 := hu26
  subst hu26
  have hP := hP8
  have hD := hD8
  have hP : va_P D vwCl (((((((((([(h, .inr (4, [.ref (u2 0), .ref q4, .int (nI 0), .int (nI 0), .ref (u6 0), .ref q8]))] ++ wS u2 cI cR s_0) ++ [(q4, .inl (cS, 6, .inr (.inr (.inr (.inr (va_up (va_up (va_up (va_up (va_up (fun _ => none) 0 (some ((u10 0)))) 1 (some ((u13 0)))) 2 (some ((u16 0)))) 3 (some ((u19 0)))) 4 (some ((u22 0)))))))))]) ++ wT u6 cI x_0) ++ [oa cI q8 5 (o_zf)]) ++ wS u10 cI cR s_0) ++ wS u13 cI cR s_0) ++ wS u16 cI cR s_0) ++ wS u19 cI cR s_0) ++ wS u22 cI cR s_0) ++ wS u25 cI cR s_0) H := hP
  have hD : va_D A (((((((((([(h, .inr (4, [.ref (u2 0), .ref q4, .int (nI 0), .int (nI 0), .ref (u6 0), .ref q8]))] ++ wS u2 cI cR s_0) ++ [(q4, .inl (cS, 6, .inr (.inr (.inr (.inr (va_up (va_up (va_up (va_up (va_up (fun _ => none) 0 (some ((u10 0)))) 1 (some ((u13 0)))) 2 (some ((u16 0)))) 3 (some ((u19 0)))) 4 (some ((u22 0)))))))))]) ++ wT u6 cI x_0) ++ [oa cI q8 5 (o_zf)]) ++ wS u10 cI cR s_0) ++ wS u13 cI cR s_0) ++ wS u16 cI cR s_0) ++ wS u19 cI cR s_0) ++ wS u22 cI cR s_0) ++ wS u25 cI cR s_0) := hD
  refine W.widen (k := 137) (n := 1363) (Nat.le_of_ble_eq_true rfl) (Nat.le_of_ble_eq_true rfl) ?_
  refine va_astq hx hb hK hP hD hS 20 2 119 2 rfl rfl rfl rfl (vp_in_nI (Nat.le_of_ble_eq_true rfl) (Nat.le_of_ble_eq_true rfl)) dX4_init_62 (fun H locs hP hD hS => ?_)
  rw [nI_clamp (show 5 < 2 ^ 31 by decide)] at hP hD
  have hP : va_P D vwCl (((((((((([(h, .inr (4, [.ref (u2 0), .ref q4, .int (nI 0), .int (nI 0), .ref (u6 0), .ref q8]))] ++ wS u2 cI cR s_0) ++ [(q4, .inl (cS, 6, .inr (.inr (.inr (.inr (va_up (va_up (va_up (va_up (va_up (va_up (fun _ => none) 0 (some ((u10 0)))) 1 (some ((u13 0)))) 2 (some ((u16 0)))) 3 (some ((u19 0)))) 4 (some ((u22 0)))) 5 (some ((u25 0)))))))))]) ++ wT u6 cI x_0) ++ [oa cI q8 5 (o_zf)]) ++ wS u10 cI cR s_0) ++ wS u13 cI cR s_0) ++ wS u16 cI cR s_0) ++ wS u19 cI cR s_0) ++ wS u22 cI cR s_0) ++ wS u25 cI cR s_0) H := hP
  have hD : va_D A (((((((((([(h, .inr (4, [.ref (u2 0), .ref q4, .int (nI 0), .int (nI 0), .ref (u6 0), .ref q8]))] ++ wS u2 cI cR s_0) ++ [(q4, .inl (cS, 6, .inr (.inr (.inr (.inr (va_up (va_up (va_up (va_up (va_up (va_up (fun _ => none) 0 (some ((u10 0)))) 1 (some ((u13 0)))) 2 (some ((u16 0)))) 3 (some ((u19 0)))) 4 (some ((u22 0)))) 5 (some ((u25 0)))))))))]) ++ wT u6 cI x_0) ++ [oa cI q8 5 (o_zf)]) ++ wS u10 cI cR s_0) ++ wS u13 cI cR s_0) ++ wS u16 cI cR s_0) ++ wS u19 cI cR s_0) ++ wS u22 cI cR s_0) ++ wS u25 cI cR s_0) := hD
  refine lv_iinc (v := nI 6) (lv' := [(1, .int (nI 6)), (0, .ref h)]) hx hb dX4_init_63 hl (k := 0) rfl (by decide) (by decide) rfl (fun ls hl => ?_)
  refine lv_goto (tgt := 44) hx hb dX4_init_66 (by decide) ?_
  refine lv_iload_n hx hb dX4_init_44 rfl (lv_at hl 0 rfl) ?_
  refine o_bipush (k := 6) hx hb dX4_init_45 (by decide) ?_
  refine o_icmp_ge (tgt := 69) hx hb dX4_init_47 (by decide) (Nat.le_of_ble_eq_true rfl) (Nat.le_of_ble_eq_true rfl) (fun _ => ?_) (fun c0 => absurd c0 (by decide))
  have hP0 := hP.sub (ws' := ([(h, .inr (4, [.ref (u2 0), .ref q4, .int (nI 0), .int (nI 0), .ref (u6 0), .ref q8])), (q4, .inl (cS, 6, .inr (.inr (.inr (.inr (va_up (va_up (va_up (va_up (va_up (va_up (fun _ => none) 0 (some ((u10 0)))) 1 (some ((u13 0)))) 2 (some ((u16 0)))) 3 (some ((u19 0)))) 4 (some ((u22 0)))) 5 (some ((u25 0)))))))))] ++ (wT u6 cI x_0 ++ [oa cI q8 5 (o_zf)]))) [0, 20, 21, 22, 23] rfl
  have hB0 := hP.sub (ws' := wS u2 cI cR s_0) [1, 2, 3, 4, 5, 6, 7, 8, 9, 10, 11, 12, 13, 14, 15, 16, 17, 18, 19] rfl
  have hB1 := hP.sub (ws' := wS u10 cI cR s_0) [24, 25, 26, 27, 28, 29, 30, 31, 32, 33, 34, 35, 36, 37, 38, 39, 40, 41, 42] rfl
  have hB2 := hP.sub (ws' := wS u13 cI cR s_0) [43, 44, 45, 46, 47, 48, 49, 50, 51, 52, 53, 54, 55, 56, 57, 58, 59, 60, 61] rfl
  have hB3 := hP.sub (ws' := wS u16 cI cR s_0) [62, 63, 64, 65, 66, 67, 68, 69, 70, 71, 72, 73, 74, 75, 76, 77, 78, 79, 80] rfl
  have hB4 := hP.sub (ws' := wS u19 cI cR s_0) [81, 82, 83, 84, 85, 86, 87, 88, 89, 90, 91, 92, 93, 94, 95, 96, 97, 98, 99] rfl
  have hB5 := hP.sub (ws' := wS u22 cI cR s_0) [100, 101, 102, 103, 104, 105, 106, 107, 108, 109, 110, 111, 112, 113, 114, 115, 116, 117, 118] rfl
  have hB6 := hP.sub (ws' := wS u25 cI cR s_0) [119, 120, 121, 122, 123, 124, 125, 126, 127, 128, 129, 130, 131, 132, 133, 134, 135, 136, 137] rfl
  have hD0 := hD.sub (ws' := (([(h, .inr (4, [.ref (u2 0), .ref q4, .int (nI 0), .int (nI 0), .ref (u6 0), .ref q8])), (q4, .inl (cS, 6, .inr (.inr (.inr (.inr (va_up (va_up (va_up (va_up (va_up (va_up (fun _ => none) 0 (some ((u10 0)))) 1 (some ((u13 0)))) 2 (some ((u16 0)))) 3 (some ((u19 0)))) 4 (some ((u22 0)))) 5 (some ((u25 0)))))))))] ++ (wT u6 cI x_0 ++ [oa cI q8 5 (o_zf)])) ++ (wS u2 cI cR s_0 ++ (wS u10 cI cR s_0 ++ (wS u13 cI cR s_0 ++ (wS u16 cI cR s_0 ++ (wS u19 cI cR s_0 ++ (wS u22 cI cR s_0 ++ wS u25 cI cR s_0)))))))) [0, 20, 21, 22, 23, 1, 2, 3, 4, 5, 6, 7, 8, 9, 10, 11, 12, 13, 14, 15, 16, 17, 18, 19, 24, 25, 26, 27, 28, 29, 30, 31, 32, 33, 34, 35, 36, 37, 38, 39, 40, 41, 42, 43, 44, 45, 46, 47, 48, 49, 50, 51, 52, 53, 54, 55, 56, 57, 58, 59, 60, 61, 62, 63, 64, 65, 66, 67, 68, 69, 70, 71, 72, 73, 74, 75, 76, 77, 78, 79, 80, 81, 82, 83, 84, 85, 86, 87, 88, 89, 90, 91, 92, 93, 94, 95, 96, 97, 98, 99, 100, 101, 102, 103, 104, 105, 106, 107, 108, 109, 110, 111, 112, 113, 114, 115, 116, 117, 118, 119, 120, 121, 122, 123, 124, 125, 126, 127, 128, 129, 130, 131, 132, 133, 134, 135, 136, 137] (by decide +kernel) rfl
  obtain ⟨hP9, hD9⟩ := o_X4_end hP0 hB0 hB1 hB2 hB3 hB4 hB5 hB6 hD0
  exact W.vret hx hb hrt (fun t ht hW => ⟨⟨(o_J6 h q4 q8 u6 u2 u10 u13 u16 u19 u22 u25), rfl, rfl, by rw [ht]; exact hP9, by rw [hAe]; exact hD9⟩, by rw [hAe]; exact hS.F ht⟩) hS.2.2 dX4_init_69
