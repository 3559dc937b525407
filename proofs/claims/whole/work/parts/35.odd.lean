theorem inX4_append_X4 : ∀ w ∈ wsX40, w ∈ wsX4_append := by decide +kernel
theorem inX4_append_X3 : ∀ w ∈ wsX30, w ∈ wsX4_append := by decide +kernel
set_option maxHeartbeats 4000000 in
set_option maxRecDepth 100000 in
theorem k_X4_append (l : Launch) (D : va_G) (cI cR cS cL : ClassId) (sz : Nat) (o : Nat → Nat) (x : Nat → Nat → Nat) (v : Nat → Nat → Nat) (tl : va_W) (b : Nat) (c : Nat) (hc : 33 ≤ c ∧ c ≤ 126) (h0 : x 0 0 < 60) (h2 : x 0 2 ≤ 6) : Met l yX4_append wsX4_append ({ frames := 3, cells := 0, slots := 0, locals := 64 }) (va_Pc [.ref (o 0), .int (nI c)] (o_B D (o_T cI cR cS cL) (wO o cI cR cS x v tl) sz)) (va_Qi (fun rz (_ : Unit) => rz = nI (x 0 0 + 1)) (fun (_ : Unit) t => va_P D vwCl (wO o cI cR cS (t_add x c) v tl) t.heap) (va_A (wO o cI cR cS x v tl) sz)) 0 0 (va_A (wO o cI cR cS x v tl) sz) := by
  refine Met.ofW (cc := cX4_append) (maxL := 2) (ret := (some .int)) (by decide) rfl ?_
  intro p e s m args below meth cd s₁ B hml hv
  obtain ⟨rfl, hsz, hP, hK, hD0, hN⟩ := hv
  have hx := B.exec
  have hb := B.bytes
  have hrt := B.returns
  have hts := atoms_spec (ws := wsX4_append) B.pre
  have hown : s.vm.findClass RX4 = some m.cls := findClass_of_methodNamed B.named
  have hlocks := B.notSynchronized
  subst hsz
  have hD := hD0.self (sz := s.heap.size)
  generalize hAe : va_A (wO o cI cR cS x v tl) s.heap.size = A at hD ⊢
  have hA : ∀ q : Nat, s.heap.size ≤ q → A q := fun q h => by rw [← hAe]; exact Or.inr h
  have hS : va_S A s.heap s.heap [] := va_S.rf
  have hl := lv_entry ([.ref (o 0), .int (nI c)]) (n := 2) (Nat.le_of_ble_eq_true rfl)
  rw [lg_entry_eq]
  generalize (lg_sl ([.ref (o 0), .int (nI c)]) ++ List.replicate (2 - (lg_sl ([.ref (o 0), .int (nI c)])).length) Slot.unset).toArray = ls at hl ⊢
  have hl : lv_has ls 2 [(0, .ref (o 0)), (1, .int (nI c))] := hl
  refine lv_iload_n hx hb dX4_append_0 rfl (lv_at hl 1 rfl) ?_
  refine o_bipush (k := 33) hx hb dX4_append_1 (by decide) ?_
  refine o_icmp_lt_s (tgt := 12) hx hb dX4_append_3 (by decide) (by omega) (Nat.le_of_ble_eq_true rfl) (fun c_1 => ?_) (fun c_1 => ?_)
  · skip
    exfalso
    omega
  · skip
    refine lv_iload_n hx hb dX4_append_6 rfl (lv_at hl 1 rfl) ?_
    refine o_bipush (k := 126) hx hb dX4_append_7 (by decide) ?_
    refine o_icmp_le_s (tgt := 22) hx hb dX4_append_9 (by decide) (by omega) (Nat.le_of_ble_eq_true rfl) (fun c_2 => ?_) (fun c_2 => ?_)
    · skip
      refine lv_aload_n hx hb dX4_append_22 rfl (lv_at hl 0 rfl) ?_
      refine va_get (D := D) (ci := 4) (v := .ref (o 2)) (C := RX4) (T := TX4) (N := 6) hx hb hts inX4_append_X4 hown hK hP 0 rfl rfl 4 (by decide) (hts (.fieldLink RX4 23 "OddNotice" "text" "LOddNotice$Text;") (List.mem_of_getElem? (i := 5) (by decide +kernel))) (fun _ h9 => h9) rfl dX4_append_23 ?_
      refine va_get (D := D) (ci := 3) (v := .int (nI (x 0 0))) (C := RX3) (T := TX3) (N := 4) hx hb hts inX4_append_X3 hown hK hP 2 rfl rfl 0 (by decide) (hts (.fieldLink RX4 128 "OddNotice$Text" "length" "I") (List.mem_of_getElem? (i := 6) (by decide +kernel))) (fun _ h9 => h9) rfl dX4_append_26 ?_
      refine o_bipush (k := 60) hx hb dX4_append_29 (by decide) ?_
      refine o_icmp_lt (tgt := 44) hx hb dX4_append_31 (by decide) (by omega) (Nat.le_of_ble_eq_true rfl) (fun c_3 => ?_) (fun c_3 => ?_)
      · skip
        refine lv_aload_n hx hb dX4_append_44 rfl (lv_at hl 0 rfl) ?_
        refine va_get (D := D) (ci := 4) (v := .ref (o 2)) (C := RX4) (T := TX4) (N := 6) hx hb hts inX4_append_X4 hown hK hP 0 rfl rfl 4 (by decide) (hts (.fieldLink RX4 23 "OddNotice" "text" "LOddNotice$Text;") (List.mem_of_getElem? (i := 5) (by decide +kernel))) (fun _ h9 => h9) rfl dX4_append_45 ?_
        refine lv_iload_n hx hb dX4_append_48 rfl (lv_at hl 1 rfl) ?_
        refine o_wv (va_runV (As := [.int (nI c)]) (rest := []) ⟨hx, hb, hml, hown, hts⟩ (k_X3_add l D cI cR cS cL s.heap.size (fun k => o (k + 2)) x c (by show c < 2 ^ 31; first | assumption | omega) (by show x 0 0 < 60; first | assumption | omega) (by show x 0 2 ≤ 6; first | assumption | omega)) (cwV 1 hts gX4_append_X3_add rfl rfl rfl (by decide +kernel) ⟨Nat.le_of_ble_eq_true rfl, Nat.le_of_ble_eq_true rfl⟩) (o_v (o_pB hK hN (hP.sub (ws' := (wT (fun k => o (k + 2)) cI x)) [2, 3] rfl) (hD.sub (ws' := (wT (fun k => o (k + 2)) cI x)) [2, 3] (by decide) rfl)) (va_recv hK hP (ci := 3) (q0 := 2) rfl rfl)) rfl rfl hl.1 rfl (lv_room (Nat.le_of_ble_eq_true rfl)) dX4_append_49 ⟨Nat.zero_le _, Nat.zero_le _⟩) hP hD hS hA [2, 3] (by decide) rfl (fun _ => rfl) (fun _ H locs e_4 hP hD hS => ?_)
        have hP : va_P D vwCl (wO o cI cR cS (t_add x c) v tl) H := hP
        have hD : va_D A (wO o cI cR cS (t_add x c) v tl) := hD
        refine lv_aload_n hx hb dX4_append_52 rfl (lv_at hl 0 rfl) ?_
        refine va_get (D := D) (ci := 4) (v := .ref (o 2)) (C := RX4) (T := TX4) (N := 6) hx hb hts inX4_append_X4 hown hK hP 0 rfl rfl 4 (by decide) (hts (.fieldLink RX4 23 "OddNotice" "text" "LOddNotice$Text;") (List.mem_of_getElem? (i := 5) (by decide +kernel))) (fun _ h9 => h9) rfl dX4_append_53 ?_
        refine va_get (D := D) (ci := 3) (v := .int (nI ((t_add x c) 0 0))) (C := RX3) (T := TX3) (N := 4) hx hb hts inX4_append_X3 hown hK hP 2 rfl rfl 0 (by decide) (hts (.fieldLink RX4 128 "OddNotice$Text" "length" "I") (List.mem_of_getElem? (i := 6) (by decide +kernel))) (fun _ h9 => h9) rfl dX4_append_56 ?_
        exact W.iret (v := nI ((t_add x c) 0 0)) hx hb hrt (fun t ht hW => ⟨⟨_, (), rfl, rfl, by show va_P D vwCl _ t.heap; rw [ht]; exact hP⟩, hS.F ht⟩) hS.2.2 dX4_append_59
      · skip
        exfalso
        omega
    · skip
      exfalso
      omega
theorem inX4_clearBuffer_X4 : ∀ w ∈ wsX40, w ∈ wsX4_clearBuffer := by decide +kernel
theorem inX4_clearBuffer_X3 : ∀ w ∈ wsX30, w ∈ wsX4_clearBuffer := by decide +kernel
set_option maxHeartbeats 4000000 in
set_option maxRecDepth 100000 in
theorem k_X4_clearBuffer (l : Launch) (D : va_G) (cI cR cS cL : ClassId) (sz : Nat) (o : Nat → Nat) (x : Nat → Nat → Nat) (v : Nat → Nat → Nat) (tl : va_W) (b : Nat) : Met l yX4_clearBuffer wsX4_clearBuffer ({ frames := 1, cells := 0, slots := 0, locals := 20 }) (va_Pc [.ref (o 0)] (o_B D (o_T cI cR cS cL) (wO o cI cR cS x v tl) sz)) (va_Qi (fun rz (_ : Unit) => rz = nI (x 0 0)) (fun (_ : Unit) t => va_P D vwCl (wO o cI cR cS (t_empty x) v tl) t.heap) (va_A (wO o cI cR cS x v tl) sz)) 0 0 (va_A (wO o cI cR cS x v tl) sz) := by
  refine Met.ofW (cc := cX4_clearBuffer) (maxL := 2) (ret := (some .int)) (by decide) rfl ?_
  intro p e s m args below meth cd s₁ B hml hv
  obtain ⟨rfl, hsz, hP, hK, hD0, hN⟩ := hv
  have hx := B.exec
  have hb := B.bytes
  have hrt := B.returns
  have hts := atoms_spec (ws := wsX4_clearBuffer) B.pre
  have hown : s.vm.findClass RX4 = some m.cls := findClass_of_methodNamed B.named
  have hlocks := B.notSynchronized
  subst hsz
  have hD := hD0.self (sz := s.heap.size)
  generalize hAe : va_A (wO o cI cR cS x v tl) s.heap.size = A at hD ⊢
  have hA : ∀ q : Nat, s.heap.size ≤ q → A q := fun q h => by rw [← hAe]; exact Or.inr h
  have hS : va_S A s.heap s.heap [] := va_S.rf
  have hl := lv_entry ([.ref (o 0)]) (n := 2) (Nat.le_of_ble_eq_true rfl)
  rw [lg_entry_eq]
  generalize (lg_sl ([.ref (o 0)]) ++ List.replicate (2 - (lg_sl ([.ref (o 0)])).length) Slot.unset).toArray = ls at hl ⊢
  have hl : lv_has ls 2 [(0, .ref (o 0))] := hl
  refine lv_aload_n hx hb dX4_clearBuffer_0 rfl (lv_at hl 0 rfl) ?_
  refine va_get (D := D) (ci := 4) (v := .ref (o 2)) (C := RX4) (T := TX4) (N := 6) hx hb hts inX4_clearBuffer_X4 hown hK hP 0 rfl rfl 4 (by decide) (hts (.fieldLink RX4 23 "OddNotice" "text" "LOddNotice$Text;") (List.mem_of_getElem? (i := 1) (by decide +kernel))) (fun _ h9 => h9) rfl dX4_clearBuffer_1 ?_
  refine va_get (D := D) (ci := 3) (v := .int (nI (x 0 0))) (C := RX3) (T := TX3) (N := 4) hx hb hts inX4_clearBuffer_X3 hown hK hP 2 rfl rfl 0 (by decide) (hts (.fieldLink RX4 128 "OddNotice$Text" "length" "I") (List.mem_of_getElem? (i := 2) (by decide +kernel))) (fun _ h9 => h9) rfl dX4_clearBuffer_4 ?_
  refine lv_istore_n (lv' := [(1, .int (nI (x 0 0))), (0, .ref (o 0))]) hx hb dX4_clearBuffer_7 rfl hl (by decide) rfl (fun ls hl => ?_)
  refine lv_aload_n hx hb dX4_clearBuffer_8 rfl (lv_at hl 1 rfl) ?_
  refine va_get (D := D) (ci := 4) (v := .ref (o 2)) (C := RX4) (T := TX4) (N := 6) hx hb hts inX4_clearBuffer_X4 hown hK hP 0 rfl rfl 4 (by decide) (hts (.fieldLink RX4 23 "OddNotice" "text" "LOddNotice$Text;") (List.mem_of_getElem? (i := 1) (by decide +kernel))) (fun _ h9 => h9) rfl dX4_clearBuffer_9 ?_
  refine o_wv (va_runV (As := []) (rest := []) ⟨hx, hb, hml, hown, hts⟩ (k_X3_empty l D cI cR cS cL s.heap.size (fun k => o (k + 2)) x ) (cwV 0 hts gX4_clearBuffer_X3_empty rfl rfl rfl (by decide +kernel) ⟨Nat.le_of_ble_eq_true rfl, Nat.le_of_ble_eq_true rfl⟩) (o_v (o_pB hK hN (hP.sub (ws' := (wT (fun k => o (k + 2)) cI x)) [2, 3] rfl) (hD.sub (ws' := (wT (fun k => o (k + 2)) cI x)) [2, 3] (by decide) rfl)) (va_recv hK hP (ci := 3) (q0 := 2) rfl rfl)) rfl rfl hl.1 rfl (lv_room (Nat.le_of_ble_eq_true rfl)) dX4_clearBuffer_12 ⟨Nat.zero_le _, Nat.zero_le _⟩) hP hD hS hA [2, 3] (by decide) rfl (fun _ => rfl) (fun _ H locs e_1 hP hD hS => ?_)
  have hP : va_P D vwCl (wO o cI cR cS (t_empty x) v tl) H := hP
  have hD : va_D A (wO o cI cR cS (t_empty x) v tl) := hD
  refine lv_iload_n hx hb dX4_clearBuffer_15 rfl (lv_at hl 0 rfl) ?_
  exact W.iret (v := nI (x 0 0)) hx hb hrt (fun t ht hW => ⟨⟨_, (), rfl, rfl, by show va_P D vwCl _ t.heap; rw [ht]; exact hP⟩, hS.F ht⟩) hS.2.2 dX4_clearBuffer_16
theorem inX4_firstError_X4 : ∀ w ∈ wsX40, w ∈ wsX4_firstError := by decide +kernel
theorem inX4_firstError_X3 : ∀ w ∈ wsX30, w ∈ wsX4_firstError := by decide +kernel
set_option maxHeartbeats 4000000 in
set_option maxRecDepth 100000 in
theorem k_X4_firstError (l : Launch) (D : va_G) (cI cR cS cL : ClassId) (o : Nat → Nat) (x : Nat → Nat → Nat) (v : Nat → Nat → Nat) (tl : va_W) (b : Nat) : Met l yX4_firstError wsX4_firstError ({ frames := 0, cells := 0, slots := 0, locals := 0 }) (va_Pc [.ref (o 0)] (o_R D (o_T cI cR cS cL) (wO o cI cR cS x v tl))) (vp_Si (fun rz => rz = nI (x 0 1))) 0 0 (fun _ => False) := by
  refine Met.ofW (cc := cX4_firstError) (maxL := 1) (ret := (some .int)) (by decide) rfl ?_
  intro p e s m args below meth cd s₁ B hml hv
  obtain ⟨rfl, hP, hK, hN⟩ := hv
  have hx := B.exec
  have hb := B.bytes
  have hrt := B.returns
  have hts := atoms_spec (ws := wsX4_firstError) B.pre
  have hown : s.vm.findClass RX4 = some m.cls := findClass_of_methodNamed B.named
  have hlocks := B.notSynchronized
  have hl := lv_entry ([.ref (o 0)]) (n := 1) (Nat.le_of_ble_eq_true rfl)
  rw [lg_entry_eq]
  generalize (lg_sl ([.ref (o 0)]) ++ List.replicate (1 - (lg_sl ([.ref (o 0)])).length) Slot.unset).toArray = ls at hl ⊢
  have hl : lv_has ls 1 [(0, .ref (o 0))] := hl
  refine lv_aload_n hx hb dX4_firstError_0 rfl (lv_at hl 0 rfl) ?_
  refine va_get (D := D) (ci := 4) (v := .ref (o 2)) (C := RX4) (T := TX4) (N := 6) hx hb hts inX4_firstError_X4 hown hK hP 0 rfl rfl 4 (by decide) (hts (.fieldLink RX4 23 "OddNotice" "text" "LOddNotice$Text;") (List.mem_of_getElem? (i := 1) (by decide +kernel))) (fun _ h9 => h9) rfl dX4_firstError_1 ?_
  refine va_get (D := D) (ci := 3) (v := .int (nI (x 0 1))) (C := RX3) (T := TX3) (N := 4) hx hb hts inX4_firstError_X3 hown hK hP 2 rfl rfl 1 (by decide) (hts (.fieldLink RX4 140 "OddNotice$Text" "rightLength" "I") (List.mem_of_getElem? (i := 2) (by decide +kernel))) (fun _ h9 => h9) rfl dX4_firstError_4 ?_
  exact W.iret (v := nI (x 0 1)) hx hb hrt (fun t ht hW => ⟨_, rfl, rfl, ht⟩) (fun _ h => nomatch h) dX4_firstError_7
