theorem inX4_doDeed_X4 : ∀ w ∈ wsX40, w ∈ wsX4_doDeed := by decide +kernel
theorem inX4_doDeed_X2 : ∀ w ∈ wsX20, w ∈ wsX4_doDeed := by decide +kernel
set_option maxHeartbeats 4000000 in
set_option maxRecDepth 100000 in
theorem k_X4_doDeed (l : Launch) (D : va_G) (cI cR cS cL : ClassId) (sz : Nat) (o : Nat → Nat) (x : Nat → Nat → Nat) (v : Nat → Nat → Nat) (tl : va_W) (b : Nat) (so : Nat) (a : Nat) (i : Nat) (hSI : s_I b v) (hb : b < 2 ^ 28) (h0 : x 0 0 ≤ 60) (ht : ∀ k, x 1 k < 2 ^ 31) (hi : i < 2 ^ 20) (ha : t_dig x i = a) (hso : c_sh so a) : Met l yX4_doDeed wsX4_doDeed ({ frames := 4, cells := 0, slots := 0, locals := 87 }) (va_Pc [.ref (o 0), .int (nI so), .int (nI i)] (o_B D (o_T cI cR cS cL) (wO o cI cR cS x v tl) sz)) (va_Qv (fun (_ : Unit) => True) (fun (_ : Unit) t => va_P D vwCl (wO o cI cR cS x (c_do v so a (10 * t_dig x (i + 1) + t_dig x (i + 1 + 1))) tl) t.heap) (va_A (wO o cI cR cS x v tl) sz)) 0 0 (va_A (wO o cI cR cS x v tl) sz) := by
  refine Met.ofW (cc := cX4_doDeed) (maxL := 4) (ret := none) (by decide) rfl ?_
  intro p e s m args below meth cd s₁ B hml hv
  obtain ⟨rfl, hsz, hP, hK, hD0, hN⟩ := hv
  have hx := B.exec
  have hb := B.bytes
  have hrt := B.returns
  have hts := atoms_spec (ws := wsX4_doDeed) B.pre
  have hown : s.vm.findClass RX4 = some m.cls := findClass_of_methodNamed B.named
  have hlocks := B.notSynchronized
  subst hsz
  have hD := hD0.self (sz := s.heap.size)
  generalize hAe : va_A (wO o cI cR cS x v tl) s.heap.size = A at hD ⊢
  have hA : ∀ q : Nat, s.heap.size ≤ q → A q := fun q h => by rw [← hAe]; exact Or.inr h
  have hS : va_S A s.heap s.heap [] := va_S.rf
  have hl := lv_entry ([.ref (o 0), .int (nI so), .int (nI i)]) (n := 4) (Nat.le_of_ble_eq_true rfl)
  rw [lg_entry_eq]
  generalize (lg_sl ([.ref (o 0), .int (nI so), .int (nI i)]) ++ List.replicate (4 - (lg_sl ([.ref (o 0), .int (nI so), .int (nI i)])).length) Slot.unset).toArray = ls at hl ⊢
  have hl : lv_has ls 4 [(0, .ref (o 0)), (1, .int (nI so)), (2, .int (nI i))] := hl
  unfold c_sh at hso; rcases hso with ⟨rfl, ha3⟩ | ⟨rfl, ha3⟩ | ⟨rfl, ha3⟩ | ⟨rfl, rfl | rfl | rfl | rfl⟩ | ⟨rfl, rfl | rfl | rfl | rfl⟩
  · skip
    have hSc := hSI
    obtain ⟨⟨i1, i2, i3, hpl⟩, i5⟩ := hSI
    refine lv_aload_n hx hb dX4_doDeed_0 rfl (lv_at hl 0 rfl) ?_
    refine va_get (D := D) (ci := 4) (v := .ref (o 2)) (C := RX4) (T := TX4) (N := 6) hx hb hts inX4_doDeed_X4 hown hK hP 0 rfl rfl 4 (by decide) (hts (.fieldLink RX4 23 "OddNotice" "text" "LOddNotice$Text;") (List.mem_of_getElem? (i := 1) (by decide +kernel))) (fun _ h9 => h9) rfl dX4_doDeed_1 ?_
    refine lv_iload_n hx hb dX4_doDeed_4 rfl (lv_at hl 2 rfl) ?_
    refine o_ri (va_runV (As := [.int (nI i)]) (rest := []) ⟨hx, hb, hml, hown, hts⟩ (k_X3_digitAt l D cI cR cS cL (fun k => o (k + 2)) x i (by show i < 2 ^ 31; first | assumption | omega) (by show x 0 0 ≤ 60; first | assumption | omega) (by show ∀ k, x 1 k < 2 ^ 31; first | assumption | omega)) (cwV 1 hts gX4_doDeed_X3_digitAt rfl rfl rfl (by decide +kernel) ⟨Nat.le_of_ble_eq_true rfl, Nat.le_of_ble_eq_true rfl⟩) (o_v (o_pR hK hN (hP.sub (ws' := (wT (fun k => o (k + 2)) cI x)) [2, 3] rfl)) (va_recv hK hP (ci := 3) (q0 := 2) rfl rfl)) rfl rfl hl.1 rfl (lv_room (Nat.le_of_ble_eq_true rfl)) dX4_doDeed_5 ⟨Nat.zero_le _, Nat.zero_le _⟩) (fun r_2 e_1 => ?_)
    have e_1 : r_2 = nI a := by rw [e_1, ha]
    subst e_1
    have gv_3 := t_dig_lt x i
    refine lv_istore_n (lv' := [(3, .int (nI a)), (0, .ref (o 0)), (1, .int (nI 99)), (2, .int (nI i))]) hx hb dX4_doDeed_8 rfl hl (by decide) rfl (fun ls hl => ?_)
    refine lv_iload_n hx hb dX4_doDeed_9 rfl (lv_at hl 2 rfl) ?_
    refine lv_lookup (tgt := 60) (off := 50) hx hb dX4_doDeed_10 (by decide) (by decide) (by decide) ?_
    refine lv_aload_n hx hb dX4_doDeed_60 rfl (lv_at hl 1 rfl) ?_
    refine va_get (D := D) (ci := 4) (v := .ref (o 5)) (C := RX4) (T := TX4) (N := 6) hx hb hts inX4_doDeed_X4 hown hK hP 0 rfl rfl 0 (by decide) (hts (.fieldLink RX4 10 "OddNotice" "now" "LOddNotice$State;") (List.mem_of_getElem? (i := 2) (by decide +kernel))) (fun _ h9 => h9) rfl dX4_doDeed_61 ?_
    refine va_get (D := D) (ci := 2) (v := .ref (o 6)) (C := RX2) (T := TX2) (N := 4) hx hb hts inX4_doDeed_X2 hown hK hP 5 rfl rfl 0 (by decide) (hts (.fieldLink RX4 42 "OddNotice$State" "board" "LOddNotice$Board;") (List.mem_of_getElem? (i := 3) (by decide +kernel))) (fun _ h9 => h9) rfl dX4_doDeed_64 ?_
    refine lv_iload_n hx hb dX4_doDeed_67 rfl (lv_at hl 0 rfl) ?_
    refine o_wi (va_runV (As := [.int (nI a)]) (rest := []) ⟨hx, hb, hml, hown, hts⟩ (k_X0_enter l D cI cR cS cL s.heap.size (fun k => o (k + 6)) v a (by show a < 3; first | assumption | omega) (fun c hc => by have := hpl c hc; omega)) (cwV 1 hts gX4_doDeed_X0_enter rfl rfl rfl (by decide +kernel) ⟨Nat.le_of_ble_eq_true rfl, Nat.le_of_ble_eq_true rfl⟩) (o_v (o_pB hK hN (hP.sub (ws' := (wB (fun k => o (k + 6)) cI v)) [7, 8, 9, 10, 11] rfl) (hD.sub (ws' := (wB (fun k => o (k + 6)) cI v)) [7, 8, 9, 10, 11] (by decide) rfl)) (va_recv hK hP (ci := 0) (q0 := 7) rfl rfl)) rfl rfl hl.1 rfl (lv_room (Nat.le_of_ble_eq_true rfl)) dX4_doDeed_68 ⟨Nat.zero_le _, Nat.zero_le _⟩) hP hD hS hA [7, 8, 9, 10, 11] (by decide) rfl (fun _ => rfl) (fun r_5 _ H locs e_4 hP hD hS => ?_)
    have e_4 : r_5 = nI (b_inl (v 3)) := e_4
    subst e_4
    have hP : va_P D vwCl (wO o cI cR cS x (va_up (va_up v 0 (va_up (v 0) 0 (if b_inl (v 3) = 0 then v 0 0 + 1 else v 0 0))) 3 (va_up (v 3) a (b_inl (v 3)))) tl) H := hP
    have hD : va_D A (wO o cI cR cS x (va_up (va_up v 0 (va_up (v 0) 0 (if b_inl (v 3) = 0 then v 0 0 + 1 else v 0 0))) 3 (va_up (v 3) a (b_inl (v 3)))) tl) := hD
    refine lv_pop hx hb dX4_doDeed_71 rfl ?_
    refine lv_goto (tgt := 150) hx hb dX4_doDeed_72 (by decide) ?_
    have w_6 : (wO o cI cR cS x (c_do v 99 a (10 * t_dig x (i + 1) + t_dig x (i + 1 + 1))) tl) = (wO o cI cR cS x (va_up (va_up v 0 (va_up (v 0) 0 (if b_inl (v 3) = 0 then v 0 0 + 1 else v 0 0))) 3 (va_up (v 3) a (b_inl (v 3)))) tl) := (by unfold c_do; rw [if_pos rfl]; first | done | rfl)
    rw [← w_6] at hP
    exact W.vret hx hb hrt (fun t ht hW => ⟨⟨(), rfl, trivial, by show va_P D vwCl _ t.heap; rw [ht]; exact hP⟩, hS.F ht⟩) hS.2.2 dX4_doDeed_150
  · skip
    have hSc := hSI
    obtain ⟨⟨i1, i2, i3, hpl⟩, i5⟩ := hSI
    refine lv_aload_n hx hb dX4_doDeed_0 rfl (lv_at hl 0 rfl) ?_
    refine va_get (D := D) (ci := 4) (v := .ref (o 2)) (C := RX4) (T := TX4) (N := 6) hx hb hts inX4_doDeed_X4 hown hK hP 0 rfl rfl 4 (by decide) (hts (.fieldLink RX4 23 "OddNotice" "text" "LOddNotice$Text;") (List.mem_of_getElem? (i := 1) (by decide +kernel))) (fun _ h9 => h9) rfl dX4_doDeed_1 ?_
    refine lv_iload_n hx hb dX4_doDeed_4 rfl (lv_at hl 2 rfl) ?_
    refine o_ri (va_runV (As := [.int (nI i)]) (rest := []) ⟨hx, hb, hml, hown, hts⟩ (k_X3_digitAt l D cI cR cS cL (fun k => o (k + 2)) x i (by show i < 2 ^ 31; first | assumption | omega) (by show x 0 0 ≤ 60; first | assumption | omega) (by show ∀ k, x 1 k < 2 ^ 31; first | assumption | omega)) (cwV 1 hts gX4_doDeed_X3_digitAt rfl rfl rfl (by decide +kernel) ⟨Nat.le_of_ble_eq_true rfl, Nat.le_of_ble_eq_true rfl⟩) (o_v (o_pR hK hN (hP.sub (ws' := (wT (fun k => o (k + 2)) cI x)) [2, 3] rfl)) (va_recv hK hP (ci := 3) (q0 := 2) rfl rfl)) rfl rfl hl.1 rfl (lv_room (Nat.le_of_ble_eq_true rfl)) dX4_doDeed_5 ⟨Nat.zero_le _, Nat.zero_le _⟩) (fun r_8 e_7 => ?_)
    have e_7 : r_8 = nI a := by rw [e_7, ha]
    subst e_7
    have gv_9 := t_dig_lt x i
    refine lv_istore_n (lv' := [(3, .int (nI a)), (0, .ref (o 0)), (1, .int (nI 100)), (2, .int (nI i))]) hx hb dX4_doDeed_8 rfl hl (by decide) rfl (fun ls hl => ?_)
    refine lv_iload_n hx hb dX4_doDeed_9 rfl (lv_at hl 2 rfl) ?_
    refine lv_lookup (tgt := 75) (off := 65) hx hb dX4_doDeed_10 (by decide) (by decide) (by decide) ?_
    refine lv_aload_n hx hb dX4_doDeed_75 rfl (lv_at hl 1 rfl) ?_
    refine va_get (D := D) (ci := 4) (v := .ref (o 5)) (C := RX4) (T := TX4) (N := 6) hx hb hts inX4_doDeed_X4 hown hK hP 0 rfl rfl 0 (by decide) (hts (.fieldLink RX4 10 "OddNotice" "now" "LOddNotice$State;") (List.mem_of_getElem? (i := 2) (by decide +kernel))) (fun _ h9 => h9) rfl dX4_doDeed_76 ?_
    refine va_get (D := D) (ci := 2) (v := .ref (o 6)) (C := RX2) (T := TX2) (N := 4) hx hb hts inX4_doDeed_X2 hown hK hP 5 rfl rfl 0 (by decide) (hts (.fieldLink RX4 42 "OddNotice$State" "board" "LOddNotice$Board;") (List.mem_of_getElem? (i := 3) (by decide +kernel))) (fun _ h9 => h9) rfl dX4_doDeed_79 ?_
    refine lv_iload_n hx hb dX4_doDeed_82 rfl (lv_at hl 0 rfl) ?_
    refine o_wi (va_runV (As := [.int (nI a)]) (rest := []) ⟨hx, hb, hml, hown, hts⟩ (k_X0_leave l D cI cR cS cL s.heap.size (fun k => o (k + 6)) v a (by show a < 3; first | assumption | omega) (by show v 0 0 < 2 ^ 30; first | assumption | omega) (fun c hc => by have := hpl c hc; omega)) (cwV 1 hts gX4_doDeed_X0_leave rfl rfl rfl (by decide +kernel) ⟨Nat.le_of_ble_eq_true rfl, Nat.le_of_ble_eq_true rfl⟩) (o_v (o_pB hK hN (hP.sub (ws' := (wB (fun k => o (k + 6)) cI v)) [7, 8, 9, 10, 11] rfl) (hD.sub (ws' := (wB (fun k => o (k + 6)) cI v)) [7, 8, 9, 10, 11] (by decide) rfl)) (va_recv hK hP (ci := 0) (q0 := 7) rfl rfl)) rfl rfl hl.1 rfl (lv_room (Nat.le_of_ble_eq_true rfl)) dX4_doDeed_83 ⟨Nat.zero_le _, Nat.zero_le _⟩) hP hD hS hA [7, 8, 9, 10, 11] (by decide) rfl (fun _ => rfl) (fun r_11 _ H locs e_10 hP hD hS => ?_)
    have e_10 : r_11 = nI ((v 0 0 + 1) / 2) := e_10
    subst e_10
    have hP : va_P D vwCl (wO o cI cR cS x (va_up (va_up (va_up (va_up v 0 (va_up (v 0) 0 (if 0 < b_inl (b_stpf (v 3)) then v 0 0 + 2 else v 0 0 + 1))) 2 (va_up (v 2) a (v 2 a + 1))) 3 (b_stpf (v 3))) 4 (va_cpy (v 1) (v 4) 0 ((v 0 0 + 1) / 2 % 16 * 5) 5)) tl) H := hP
    have hD : va_D A (wO o cI cR cS x (va_up (va_up (va_up (va_up v 0 (va_up (v 0) 0 (if 0 < b_inl (b_stpf (v 3)) then v 0 0 + 2 else v 0 0 + 1))) 2 (va_up (v 2) a (v 2 a + 1))) 3 (b_stpf (v 3))) 4 (va_cpy (v 1) (v 4) 0 ((v 0 0 + 1) / 2 % 16 * 5) 5)) tl) := hD
    refine lv_pop hx hb dX4_doDeed_86 rfl ?_
    refine lv_goto (tgt := 150) hx hb dX4_doDeed_87 (by decide) ?_
    have w_12 : (wO o cI cR cS x (c_do v 100 a (10 * t_dig x (i + 1) + t_dig x (i + 1 + 1))) tl) = (wO o cI cR cS x (va_up (va_up (va_up (va_up v 0 (va_up (v 0) 0 (if 0 < b_inl (b_stpf (v 3)) then v 0 0 + 2 else v 0 0 + 1))) 2 (va_up (v 2) a (v 2 a + 1))) 3 (b_stpf (v 3))) 4 (va_cpy (v 1) (v 4) 0 ((v 0 0 + 1) / 2 % 16 * 5) 5)) tl) := (by unfold c_do; rw [if_neg (by decide), if_pos rfl]; first | done | rfl)
    rw [← w_12] at hP
    exact W.vret hx hb hrt (fun t ht hW => ⟨⟨(), rfl, trivial, by show va_P D vwCl _ t.heap; rw [ht]; exact hP⟩, hS.F ht⟩) hS.2.2 dX4_doDeed_150
  · skip
    have hSc := hSI
    obtain ⟨⟨i1, i2, i3, hpl⟩, i5⟩ := hSI
    refine lv_aload_n hx hb dX4_doDeed_0 rfl (lv_at hl 0 rfl) ?_
    refine va_get (D := D) (ci := 4) (v := .ref (o 2)) (C := RX4) (T := TX4) (N := 6) hx hb hts inX4_doDeed_X4 hown hK hP 0 rfl rfl 4 (by decide) (hts (.fieldLink RX4 23 "OddNotice" "text" "LOddNotice$Text;") (List.mem_of_getElem? (i := 1) (by decide +kernel))) (fun _ h9 => h9) rfl dX4_doDeed_1 ?_
    refine lv_iload_n hx hb dX4_doDeed_4 rfl (lv_at hl 2 rfl) ?_
    refine o_ri (va_runV (As := [.int (nI i)]) (rest := []) ⟨hx, hb, hml, hown, hts⟩ (k_X3_digitAt l D cI cR cS cL (fun k => o (k + 2)) x i (by show i < 2 ^ 31; first | assumption | omega) (by show x 0 0 ≤ 60; first | assumption | omega) (by show ∀ k, x 1 k < 2 ^ 31; first | assumption | omega)) (cwV 1 hts gX4_doDeed_X3_digitAt rfl rfl rfl (by decide +kernel) ⟨Nat.le_of_ble_eq_true rfl, Nat.le_of_ble_eq_true rfl⟩) (o_v (o_pR hK hN (hP.sub (ws' := (wT (fun k => o (k + 2)) cI x)) [2, 3] rfl)) (va_recv hK hP (ci := 3) (q0 := 2) rfl rfl)) rfl rfl hl.1 rfl (lv_room (Nat.le_of_ble_eq_true rfl)) dX4_doDeed_5 ⟨Nat.zero_le _, Nat.zero_le _⟩) (fun r_14 e_13 => ?_)
    have e_13 : r_14 = nI a := by rw [e_13, ha]
    subst e_13
    have gv_15 := t_dig_lt x i
    refine lv_istore_n (lv' := [(3, .int (nI a)), (0, .ref (o 0)), (1, .int (nI 119)), (2, .int (nI i))]) hx hb dX4_doDeed_8 rfl hl (by decide) rfl (fun ls hl => ?_)
    refine lv_iload_n hx hb dX4_doDeed_9 rfl (lv_at hl 2 rfl) ?_
    refine lv_lookup (tgt := 90) (off := 80) hx hb dX4_doDeed_10 (by decide) (by decide) (by decide) ?_
    refine lv_aload_n hx hb dX4_doDeed_90 rfl (lv_at hl 1 rfl) ?_
    refine va_get (D := D) (ci := 4) (v := .ref (o 5)) (C := RX4) (T := TX4) (N := 6) hx hb hts inX4_doDeed_X4 hown hK hP 0 rfl rfl 0 (by decide) (hts (.fieldLink RX4 10 "OddNotice" "now" "LOddNotice$State;") (List.mem_of_getElem? (i := 2) (by decide +kernel))) (fun _ h9 => h9) rfl dX4_doDeed_91 ?_
    refine va_get (D := D) (ci := 2) (v := .ref (o 6)) (C := RX2) (T := TX2) (N := 4) hx hb hts inX4_doDeed_X2 hown hK hP 5 rfl rfl 0 (by decide) (hts (.fieldLink RX4 42 "OddNotice$State" "board" "LOddNotice$Board;") (List.mem_of_getElem? (i := 3) (by decide +kernel))) (fun _ h9 => h9) rfl dX4_doDeed_94 ?_
    refine lv_iload_n hx hb dX4_doDeed_97 rfl (lv_at hl 0 rfl) ?_
    refine lv_aload_n hx hb dX4_doDeed_98 rfl (lv_at hl 1 rfl) ?_
    refine va_get (D := D) (ci := 4) (v := .ref (o 2)) (C := RX4) (T := TX4) (N := 6) hx hb hts inX4_doDeed_X4 hown hK hP 0 rfl rfl 4 (by decide) (hts (.fieldLink RX4 23 "OddNotice" "text" "LOddNotice$Text;") (List.mem_of_getElem? (i := 1) (by decide +kernel))) (fun _ h9 => h9) rfl dX4_doDeed_99 ?_
    refine lv_iload_n hx hb dX4_doDeed_102 rfl (lv_at hl 3 rfl) ?_
    refine o_const (k := 1) hx hb dX4_doDeed_103 (by decide) ?_
    refine o_iadd (a := i) (b := 1) (k := (i + 1)) hx hb dX4_doDeed_104 rfl ?_
    refine o_ri (va_runV (As := [.int (nI (i + 1))]) (rest := [.int (nI a), .ref (o 6)]) ⟨hx, hb, hml, hown, hts⟩ (k_X3_valueAt l D cI cR cS cL (fun k => o (k + 2)) x (i + 1) (by show (i + 1) < 2 ^ 30; first | assumption | omega) (by show x 0 0 ≤ 60; first | assumption | omega) (by show ∀ k, x 1 k < 2 ^ 31; first | assumption | omega)) (cwV 1 hts gX4_doDeed_X3_valueAt rfl rfl rfl (by decide +kernel) ⟨Nat.le_of_ble_eq_true rfl, Nat.le_of_ble_eq_true rfl⟩) (o_v (o_pR hK hN (hP.sub (ws' := (wT (fun k => o (k + 2)) cI x)) [2, 3] rfl)) (va_recv hK hP (ci := 3) (q0 := 2) rfl rfl)) rfl rfl hl.1 rfl (lv_room (Nat.le_of_ble_eq_true rfl)) dX4_doDeed_105 ⟨Nat.zero_le _, Nat.zero_le _⟩) (fun r_17 e_16 => ?_)
    have e_16 : r_17 = nI (10 * t_dig x (i + 1) + t_dig x ((i + 1) + 1)) := e_16
    subst e_16
    refine o_wi (va_runV (As := [.int (nI a), .int (nI (10 * t_dig x (i + 1) + t_dig x ((i + 1) + 1)))]) (rest := []) ⟨hx, hb, hml, hown, hts⟩ (k_X0_write l D cI cR cS cL s.heap.size (fun k => o (k + 6)) v a (10 * t_dig x (i + 1) + t_dig x ((i + 1) + 1)) (by show a < 5; first | assumption | omega)) (cwV 2 hts gX4_doDeed_X0_write rfl rfl rfl (by decide +kernel) ⟨Nat.le_of_ble_eq_true rfl, Nat.le_of_ble_eq_true rfl⟩) (o_v (o_pB hK hN (hP.sub (ws' := (wB (fun k => o (k + 6)) cI v)) [7, 8, 9, 10, 11] rfl) (hD.sub (ws' := (wB (fun k => o (k + 6)) cI v)) [7, 8, 9, 10, 11] (by decide) rfl)) (va_recv hK hP (ci := 0) (q0 := 7) rfl rfl)) rfl rfl hl.1 rfl (lv_room (Nat.le_of_ble_eq_true rfl)) dX4_doDeed_108 ⟨Nat.zero_le _, Nat.zero_le _⟩) hP hD hS hA [7, 8, 9, 10, 11] (by decide) rfl (fun _ => rfl) (fun r_19 _ H locs e_18 hP hD hS => ?_)
    have e_18 : r_19 = nI (v 1 a) := e_18
    subst e_18
    have hP : va_P D vwCl (wO o cI cR cS x (va_up v 1 (va_up (v 1) a (10 * t_dig x (i + 1) + t_dig x ((i + 1) + 1)))) tl) H := hP
    have hD : va_D A (wO o cI cR cS x (va_up v 1 (va_up (v 1) a (10 * t_dig x (i + 1) + t_dig x ((i + 1) + 1)))) tl) := hD
    refine lv_pop hx hb dX4_doDeed_111 rfl ?_
    refine lv_goto (tgt := 150) hx hb dX4_doDeed_112 (by decide) ?_
    have w_20 : (wO o cI cR cS x (c_do v 119 a (10 * t_dig x (i + 1) + t_dig x (i + 1 + 1))) tl) = (wO o cI cR cS x (va_up v 1 (va_up (v 1) a (10 * t_dig x (i + 1) + t_dig x ((i + 1) + 1)))) tl) := (by unfold c_do; rw [if_neg (by decide), if_neg (by decide), if_pos rfl]; first | done | rfl)
    rw [← w_20] at hP
    exact W.vret hx hb hrt (fun t ht hW => ⟨⟨(), rfl, trivial, by show va_P D vwCl _ t.heap; rw [ht]; exact hP⟩, hS.F ht⟩) hS.2.2 dX4_doDeed_150
  · skip
    have hSc := hSI
    obtain ⟨⟨i1, i2, i3, hpl⟩, i5⟩ := hSI
    have i12 := i5 0 (by omega)
    unfold s_IR at i12
    simp only [Nat.reduceMul, Nat.reduceAdd] at i12
    refine lv_aload_n hx hb dX4_doDeed_0 rfl (lv_at hl 0 rfl) ?_
    refine va_get (D := D) (ci := 4) (v := .ref (o 2)) (C := RX4) (T := TX4) (N := 6) hx hb hts inX4_doDeed_X4 hown hK hP 0 rfl rfl 4 (by decide) (hts (.fieldLink RX4 23 "OddNotice" "text" "LOddNotice$Text;") (List.mem_of_getElem? (i := 1) (by decide +kernel))) (fun _ h9 => h9) rfl dX4_doDeed_1 ?_
    refine lv_iload_n hx hb dX4_doDeed_4 rfl (lv_at hl 2 rfl) ?_
    refine o_ri (va_runV (As := [.int (nI i)]) (rest := []) ⟨hx, hb, hml, hown, hts⟩ (k_X3_digitAt l D cI cR cS cL (fun k => o (k + 2)) x i (by show i < 2 ^ 31; first | assumption | omega) (by show x 0 0 ≤ 60; first | assumption | omega) (by show ∀ k, x 1 k < 2 ^ 31; first | assumption | omega)) (cwV 1 hts gX4_doDeed_X3_digitAt rfl rfl rfl (by decide +kernel) ⟨Nat.le_of_ble_eq_true rfl, Nat.le_of_ble_eq_true rfl⟩) (o_v (o_pR hK hN (hP.sub (ws' := (wT (fun k => o (k + 2)) cI x)) [2, 3] rfl)) (va_recv hK hP (ci := 3) (q0 := 2) rfl rfl)) rfl rfl hl.1 rfl (lv_room (Nat.le_of_ble_eq_true rfl)) dX4_doDeed_5 ⟨Nat.zero_le _, Nat.zero_le _⟩) (fun r_22 e_21 => ?_)
    have e_21 : r_22 = nI 0 := by rw [e_21, ha]
    subst e_21
    have gv_23 := t_dig_lt x i
    refine lv_istore_n (lv' := [(3, .int (nI 0)), (0, .ref (o 0)), (1, .int (nI 98)), (2, .int (nI i))]) hx hb dX4_doDeed_8 rfl hl (by decide) rfl (fun ls hl => ?_)
    refine lv_iload_n hx hb dX4_doDeed_9 rfl (lv_at hl 2 rfl) ?_
    refine lv_lookup (tgt := 115) (off := 105) hx hb dX4_doDeed_10 (by decide) (by decide) (by decide) ?_
    refine lv_aload_n hx hb dX4_doDeed_115 rfl (lv_at hl 1 rfl) ?_
    refine va_get (D := D) (ci := 4) (v := .ref (o 5)) (C := RX4) (T := TX4) (N := 6) hx hb hts inX4_doDeed_X4 hown hK hP 0 rfl rfl 0 (by decide) (hts (.fieldLink RX4 10 "OddNotice" "now" "LOddNotice$State;") (List.mem_of_getElem? (i := 2) (by decide +kernel))) (fun _ h9 => h9) rfl dX4_doDeed_116 ?_
    refine va_get (D := D) (ci := 2) (v := .ref (o 11)) (C := RX2) (T := TX2) (N := 4) hx hb hts inX4_doDeed_X2 hown hK hP 5 rfl rfl 1 (by decide) (hts (.fieldLink RX4 91 "OddNotice$State" "readers" "[LOddNotice$Reader;") (List.mem_of_getElem? (i := 4) (by decide +kernel))) (fun _ h9 => h9) rfl dX4_doDeed_119 ?_
    refine lv_iload_n hx hb dX4_doDeed_122 rfl (lv_at hl 0 rfl) ?_
    refine o_aldq (v := (o 12)) (C := "OddNotice$Reader") hx hb hK hP 6 1 rfl rfl (Nat.le_of_ble_eq_true rfl) (Nat.le_of_ble_eq_true rfl) rfl dX4_doDeed_123 ?_
    refine lv_aload_n hx hb dX4_doDeed_124 rfl (lv_at hl 1 rfl) ?_
    refine va_get (D := D) (ci := 4) (v := .ref (o 5)) (C := RX4) (T := TX4) (N := 6) hx hb hts inX4_doDeed_X4 hown hK hP 0 rfl rfl 0 (by decide) (hts (.fieldLink RX4 10 "OddNotice" "now" "LOddNotice$State;") (List.mem_of_getElem? (i := 2) (by decide +kernel))) (fun _ h9 => h9) rfl dX4_doDeed_125 ?_
    refine va_get (D := D) (ci := 2) (v := .ref (o 6)) (C := RX2) (T := TX2) (N := 4) hx hb hts inX4_doDeed_X2 hown hK hP 5 rfl rfl 0 (by decide) (hts (.fieldLink RX4 42 "OddNotice$State" "board" "LOddNotice$Board;") (List.mem_of_getElem? (i := 3) (by decide +kernel))) (fun _ h9 => h9) rfl dX4_doDeed_128 ?_
    refine o_wi (va_runV (As := [.ref (o 6)]) (rest := []) ⟨hx, hb, hml, hown, hts⟩ (k_X1_open l D cI cR cS cL s.heap.size (fun k => o (k + 12)) (fun k => v (k + 5)) (fun k => o (k + 6)) v (by show (v 5 0) < 2 ^ 31; first | assumption | omega) (by show (v 5 1) < 2 ^ 31; first | assumption | omega) (by show (v 5 3) < 2 ^ 32; first | assumption | omega) (by show v 0 0 < 2 ^ 31; first | assumption | omega)) (cwV 1 hts gX4_doDeed_X1_open rfl rfl rfl (by decide +kernel) ⟨Nat.le_of_ble_eq_true rfl, Nat.le_of_ble_eq_true rfl⟩) (o_v (o_pB hK hN (hP.sub (ws' := (wR (fun k => o (k + 12)) cI (fun k => v (k + 5)) ++ wB (fun k => o (k + 6)) cI v)) [12, 13, 14, 7, 8, 9, 10, 11] rfl) (hD.sub (ws' := (wR (fun k => o (k + 12)) cI (fun k => v (k + 5)) ++ wB (fun k => o (k + 6)) cI v)) [12, 13, 14, 7, 8, 9, 10, 11] (by decide) rfl)) (va_recv hK hP (ci := 1) (q0 := 12) rfl rfl)) rfl rfl hl.1 rfl (lv_room (Nat.le_of_ble_eq_true rfl)) dX4_doDeed_131 ⟨Nat.zero_le _, Nat.zero_le _⟩) hP hD hS hA [12, 13, 14, 7, 8, 9, 10, 11] (by decide) rfl (fun _ => rfl) (fun r_25 _ H locs e_24 hP hD hS => ?_)
    have e_24 : r_25 = nI (bn (¬ (¬ (v 5 0) = 0 ∧ (¬ (v 5 1) = 0 ∧ ¬ (v 5 3) = v 0 0 ∨ (v 5 1) = 0 ∧ v 0 0 % 2 = 1)))) := e_24
    subst e_24
    have hP : va_P D vwCl (wO o cI cR cS x (va_up (va_up (va_up v 5 ((r_open (fun k => v (k + 5)) v) 0)) 6 ((r_open (fun k => v (k + 5)) v) 1)) 7 ((r_open (fun k => v (k + 5)) v) 2)) tl) H := hP
    have hD : va_D A (wO o cI cR cS x (va_up (va_up (va_up v 5 ((r_open (fun k => v (k + 5)) v) 0)) 6 ((r_open (fun k => v (k + 5)) v) 1)) 7 ((r_open (fun k => v (k + 5)) v) 2)) tl) := hD
    refine lv_pop hx hb dX4_doDeed_134 rfl ?_
    refine lv_goto (tgt := 150) hx hb dX4_doDeed_135 (by decide) ?_
    have w_26 : (wO o cI cR cS x (c_do v 98 0 (10 * t_dig x (i + 1) + t_dig x (i + 1 + 1))) tl) = (wO o cI cR cS x (va_up (va_up (va_up v 5 ((r_open (fun k => v (k + 5)) v) 0)) 6 ((r_open (fun k => v (k + 5)) v) 1)) 7 ((r_open (fun k => v (k + 5)) v) 2)) tl) := (by unfold c_do; rw [if_neg (by decide), if_neg (by decide), if_neg (by decide), if_pos rfl]; first | done | rfl)
    rw [← w_26] at hP
    exact W.vret hx hb hrt (fun t ht hW => ⟨⟨(), rfl, trivial, by show va_P D vwCl _ t.heap; rw [ht]; exact hP⟩, hS.F ht⟩) hS.2.2 dX4_doDeed_150
  · skip
    have hSc := hSI
    obtain ⟨⟨i1, i2, i3, hpl⟩, i5⟩ := hSI
    have i12 := i5 1 (by omega)
    unfold s_IR at i12
    simp only [Nat.reduceMul, Nat.reduceAdd] at i12
    refine lv_aload_n hx hb dX4_doDeed_0 rfl (lv_at hl 0 rfl) ?_
    refine va_get (D := D) (ci := 4) (v := .ref (o 2)) (C := RX4) (T := TX4) (N := 6) hx hb hts inX4_doDeed_X4 hown hK hP 0 rfl rfl 4 (by decide) (hts (.fieldLink RX4 23 "OddNotice" "text" "LOddNotice$Text;") (List.mem_of_getElem? (i := 1) (by decide +kernel))) (fun _ h9 => h9) rfl dX4_doDeed_1 ?_
    refine lv_iload_n hx hb dX4_doDeed_4 rfl (lv_at hl 2 rfl) ?_
    refine o_ri (va_runV (As := [.int (nI i)]) (rest := []) ⟨hx, hb, hml, hown, hts⟩ (k_X3_digitAt l D cI cR cS cL (fun k => o (k + 2)) x i (by show i < 2 ^ 31; first | assumption | omega) (by show x 0 0 ≤ 60; first | assumption | omega) (by show ∀ k, x 1 k < 2 ^ 31; first | assumption | omega)) (cwV 1 hts gX4_doDeed_X3_digitAt rfl rfl rfl (by decide +kernel) ⟨Nat.le_of_ble_eq_true rfl, Nat.le_of_ble_eq_true rfl⟩) (o_v (o_pR hK hN (hP.sub (ws' := (wT (fun k => o (k + 2)) cI x)) [2, 3] rfl)) (va_recv hK hP (ci := 3) (q0 := 2) rfl rfl)) rfl rfl hl.1 rfl (lv_room (Nat.le_of_ble_eq_true rfl)) dX4_doDeed_5 ⟨Nat.zero_le _, Nat.zero_le _⟩) (fun r_28 e_27 => ?_)
    have e_27 : r_28 = nI 1 := by rw [e_27, ha]
    subst e_27
    have gv_29 := t_dig_lt x i
    refine lv_istore_n (lv' := [(3, .int (nI 1)), (0, .ref (o 0)), (1, .int (nI 98)), (2, .int (nI i))]) hx hb dX4_doDeed_8 rfl hl (by decide) rfl (fun ls hl => ?_)
    refine lv_iload_n hx hb dX4_doDeed_9 rfl (lv_at hl 2 rfl) ?_
    refine lv_lookup (tgt := 115) (off := 105) hx hb dX4_doDeed_10 (by decide) (by decide) (by decide) ?_
    refine lv_aload_n hx hb dX4_doDeed_115 rfl (lv_at hl 1 rfl) ?_
    refine va_get (D := D) (ci := 4) (v := .ref (o 5)) (C := RX4) (T := TX4) (N := 6) hx hb hts inX4_doDeed_X4 hown hK hP 0 rfl rfl 0 (by decide) (hts (.fieldLink RX4 10 "OddNotice" "now" "LOddNotice$State;") (List.mem_of_getElem? (i := 2) (by decide +kernel))) (fun _ h9 => h9) rfl dX4_doDeed_116 ?_
    refine va_get (D := D) (ci := 2) (v := .ref (o 11)) (C := RX2) (T := TX2) (N := 4) hx hb hts inX4_doDeed_X2 hown hK hP 5 rfl rfl 1 (by decide) (hts (.fieldLink RX4 91 "OddNotice$State" "readers" "[LOddNotice$Reader;") (List.mem_of_getElem? (i := 4) (by decide +kernel))) (fun _ h9 => h9) rfl dX4_doDeed_119 ?_
    refine lv_iload_n hx hb dX4_doDeed_122 rfl (lv_at hl 0 rfl) ?_
    refine o_aldq (v := (o 15)) (C := "OddNotice$Reader") hx hb hK hP 6 1 rfl rfl (Nat.le_of_ble_eq_true rfl) (Nat.le_of_ble_eq_true rfl) rfl dX4_doDeed_123 ?_
    refine lv_aload_n hx hb dX4_doDeed_124 rfl (lv_at hl 1 rfl) ?_
    refine va_get (D := D) (ci := 4) (v := .ref (o 5)) (C := RX4) (T := TX4) (N := 6) hx hb hts inX4_doDeed_X4 hown hK hP 0 rfl rfl 0 (by decide) (hts (.fieldLink RX4 10 "OddNotice" "now" "LOddNotice$State;") (List.mem_of_getElem? (i := 2) (by decide +kernel))) (fun _ h9 => h9) rfl dX4_doDeed_125 ?_
    refine va_get (D := D) (ci := 2) (v := .ref (o 6)) (C := RX2) (T := TX2) (N := 4) hx hb hts inX4_doDeed_X2 hown hK hP 5 rfl rfl 0 (by decide) (hts (.fieldLink RX4 42 "OddNotice$State" "board" "LOddNotice$Board;") (List.mem_of_getElem? (i := 3) (by decide +kernel))) (fun _ h9 => h9) rfl dX4_doDeed_128 ?_
    refine o_wi (va_runV (As := [.ref (o 6)]) (rest := []) ⟨hx, hb, hml, hown, hts⟩ (k_X1_open l D cI cR cS cL s.heap.size (fun k => o (k + 15)) (fun k => v (k + 8)) (fun k => o (k + 6)) v (by show (v 8 0) < 2 ^ 31; first | assumption | omega) (by show (v 8 1) < 2 ^ 31; first | assumption | omega) (by show (v 8 3) < 2 ^ 32; first | assumption | omega) (by show v 0 0 < 2 ^ 31; first | assumption | omega)) (cwV 1 hts gX4_doDeed_X1_open rfl rfl rfl (by decide +kernel) ⟨Nat.le_of_ble_eq_true rfl, Nat.le_of_ble_eq_true rfl⟩) (o_v (o_pB hK hN (hP.sub (ws' := (wR (fun k => o (k + 15)) cI (fun k => v (k + 8)) ++ wB (fun k => o (k + 6)) cI v)) [15, 16, 17, 7, 8, 9, 10, 11] rfl) (hD.sub (ws' := (wR (fun k => o (k + 15)) cI (fun k => v (k + 8)) ++ wB (fun k => o (k + 6)) cI v)) [15, 16, 17, 7, 8, 9, 10, 11] (by decide) rfl)) (va_recv hK hP (ci := 1) (q0 := 15) rfl rfl)) rfl rfl hl.1 rfl (lv_room (Nat.le_of_ble_eq_true rfl)) dX4_doDeed_131 ⟨Nat.zero_le _, Nat.zero_le _⟩) hP hD hS hA [15, 16, 17, 7, 8, 9, 10, 11] (by decide) rfl (fun _ => rfl) (fun r_31 _ H locs e_30 hP hD hS => ?_)
    have e_30 : r_31 = nI (bn (¬ (¬ (v 8 0) = 0 ∧ (¬ (v 8 1) = 0 ∧ ¬ (v 8 3) = v 0 0 ∨ (v 8 1) = 0 ∧ v 0 0 % 2 = 1)))) := e_30
    subst e_30
    have hP : va_P D vwCl (wO o cI cR cS x (va_up (va_up (va_up v 8 ((r_open (fun k => v (k + 8)) v) 0)) 9 ((r_open (fun k => v (k + 8)) v) 1)) 10 ((r_open (fun k => v (k + 8)) v) 2)) tl) H := hP
    have hD : va_D A (wO o cI cR cS x (va_up (va_up (va_up v 8 ((r_open (fun k => v (k + 8)) v) 0)) 9 ((r_open (fun k => v (k + 8)) v) 1)) 10 ((r_open (fun k => v (k + 8)) v) 2)) tl) := hD
    refine lv_pop hx hb dX4_doDeed_134 rfl ?_
    refine lv_goto (tgt := 150) hx hb dX4_doDeed_135 (by decide) ?_
    have w_32 : (wO o cI cR cS x (c_do v 98 1 (10 * t_dig x (i + 1) + t_dig x (i + 1 + 1))) tl) = (wO o cI cR cS x (va_up (va_up (va_up v 8 ((r_open (fun k => v (k + 8)) v) 0)) 9 ((r_open (fun k => v (k + 8)) v) 1)) 10 ((r_open (fun k => v (k + 8)) v) 2)) tl) := (by unfold c_do; rw [if_neg (by decide), if_neg (by decide), if_neg (by decide), if_pos rfl]; first | done | rfl)
    rw [← w_32] at hP
    exact W.vret hx hb hrt (fun t ht hW => ⟨⟨(), rfl, trivial, by show va_P D vwCl _ t.heap; rw [ht]; exact hP⟩, hS.F ht⟩) hS.2.2 dX4_doDeed_150
  · skip
    have hSc := hSI
    obtain ⟨⟨i1, i2, i3, hpl⟩, i5⟩ := hSI
    have i12 := i5 2 (by omega)
    unfold s_IR at i12
    simp only [Nat.reduceMul, Nat.reduceAdd] at i12
    refine lv_aload_n hx hb dX4_doDeed_0 rfl (lv_at hl 0 rfl) ?_
    refine va_get (D := D) (ci := 4) (v := .ref (o 2)) (C := RX4) (T := TX4) (N := 6) hx hb hts inX4_doDeed_X4 hown hK hP 0 rfl rfl 4 (by decide) (hts (.fieldLink RX4 23 "OddNotice" "text" "LOddNotice$Text;") (List.mem_of_getElem? (i := 1) (by decide +kernel))) (fun _ h9 => h9) rfl dX4_doDeed_1 ?_
    refine lv_iload_n hx hb dX4_doDeed_4 rfl (lv_at hl 2 rfl) ?_
    refine o_ri (va_runV (As := [.int (nI i)]) (rest := []) ⟨hx, hb, hml, hown, hts⟩ (k_X3_digitAt l D cI cR cS cL (fun k => o (k + 2)) x i (by show i < 2 ^ 31; first | assumption | omega) (by show x 0 0 ≤ 60; first | assumption | omega) (by show ∀ k, x 1 k < 2 ^ 31; first | assumption | omega)) (cwV 1 hts gX4_doDeed_X3_digitAt rfl rfl rfl (by decide +kernel) ⟨Nat.le_of_ble_eq_true rfl, Nat.le_of_ble_eq_true rfl⟩) (o_v (o_pR hK hN (hP.sub (ws' := (wT (fun k => o (k + 2)) cI x)) [2, 3] rfl)) (va_recv hK hP (ci := 3) (q0 := 2) rfl rfl)) rfl rfl hl.1 rfl (lv_room (Nat.le_of_ble_eq_true rfl)) dX4_doDeed_5 ⟨Nat.zero_le _, Nat.zero_le _⟩) (fun r_34 e_33 => ?_)
    have e_33 : r_34 = nI 2 := by rw [e_33, ha]
    subst e_33
    have gv_35 := t_dig_lt x i
    refine lv_istore_n (lv' := [(3, .int (nI 2)), (0, .ref (o 0)), (1, .int (nI 98)), (2, .int (nI i))]) hx hb dX4_doDeed_8 rfl hl (by decide) rfl (fun ls hl => ?_)
    refine lv_iload_n hx hb dX4_doDeed_9 rfl (lv_at hl 2 rfl) ?_
    refine lv_lookup (tgt := 115) (off := 105) hx hb dX4_doDeed_10 (by decide) (by decide) (by decide) ?_
    refine lv_aload_n hx hb dX4_doDeed_115 rfl (lv_at hl 1 rfl) ?_
    refine va_get (D := D) (ci := 4) (v := .ref (o 5)) (C := RX4) (T := TX4) (N := 6) hx hb hts inX4_doDeed_X4 hown hK hP 0 rfl rfl 0 (by decide) (hts (.fieldLink RX4 10 "OddNotice" "now" "LOddNotice$State;") (List.mem_of_getElem? (i := 2) (by decide +kernel))) (fun _ h9 => h9) rfl dX4_doDeed_116 ?_
    refine va_get (D := D) (ci := 2) (v := .ref (o 11)) (C := RX2) (T := TX2) (N := 4) hx hb hts inX4_doDeed_X2 hown hK hP 5 rfl rfl 1 (by decide) (hts (.fieldLink RX4 91 "OddNotice$State" "readers" "[LOddNotice$Reader;") (List.mem_of_getElem? (i := 4) (by decide +kernel))) (fun _ h9 => h9) rfl dX4_doDeed_119 ?_
    refine lv_iload_n hx hb dX4_doDeed_122 rfl (lv_at hl 0 rfl) ?_
    refine o_aldq (v := (o 18)) (C := "OddNotice$Reader") hx hb hK hP 6 1 rfl rfl (Nat.le_of_ble_eq_true rfl) (Nat.le_of_ble_eq_true rfl) rfl dX4_doDeed_123 ?_
    refine lv_aload_n hx hb dX4_doDeed_124 rfl (lv_at hl 1 rfl) ?_
    refine va_get (D := D) (ci := 4) (v := .ref (o 5)) (C := RX4) (T := TX4) (N := 6) hx hb hts inX4_doDeed_X4 hown hK hP 0 rfl rfl 0 (by decide) (hts (.fieldLink RX4 10 "OddNotice" "now" "LOddNotice$State;") (List.mem_of_getElem? (i := 2) (by decide +kernel))) (fun _ h9 => h9) rfl dX4_doDeed_125 ?_
    refine va_get (D := D) (ci := 2) (v := .ref (o 6)) (C := RX2) (T := TX2) (N := 4) hx hb hts inX4_doDeed_X2 hown hK hP 5 rfl rfl 0 (by decide) (hts (.fieldLink RX4 42 "OddNotice$State" "board" "LOddNotice$Board;") (List.mem_of_getElem? (i := 3) (by decide +kernel))) (fun _ h9 => h9) rfl dX4_doDeed_128 ?_
    refine o_wi (va_runV (As := [.ref (o 6)]) (rest := []) ⟨hx, hb, hml, hown, hts⟩ (k_X1_open l D cI cR cS cL s.heap.size (fun k => o (k + 18)) (fun k => v (k + 11)) (fun k => o (k + 6)) v (by show (v 11 0) < 2 ^ 31; first | assumption | omega) (by show (v 11 1) < 2 ^ 31; first | assumption | omega) (by show (v 11 3) < 2 ^ 32; first | assumption | omega) (by show v 0 0 < 2 ^ 31; first | assumption | omega)) (cwV 1 hts gX4_doDeed_X1_open rfl rfl rfl (by decide +kernel) ⟨Nat.le_of_ble_eq_true rfl, Nat.le_of_ble_eq_true rfl⟩) (o_v (o_pB hK hN (hP.sub (ws' := (wR (fun k => o (k + 18)) cI (fun k => v (k + 11)) ++ wB (fun k => o (k + 6)) cI v)) [18, 19, 20, 7, 8, 9, 10, 11] rfl) (hD.sub (ws' := (wR (fun k => o (k + 18)) cI (fun k => v (k + 11)) ++ wB (fun k => o (k + 6)) cI v)) [18, 19, 20, 7, 8, 9, 10, 11] (by decide) rfl)) (va_recv hK hP (ci := 1) (q0 := 18) rfl rfl)) rfl rfl hl.1 rfl (lv_room (Nat.le_of_ble_eq_true rfl)) dX4_doDeed_131 ⟨Nat.zero_le _, Nat.zero_le _⟩) hP hD hS hA [18, 19, 20, 7, 8, 9, 10, 11] (by decide) rfl (fun _ => rfl) (fun r_37 _ H locs e_36 hP hD hS => ?_)
    have e_36 : r_37 = nI (bn (¬ (¬ (v 11 0) = 0 ∧ (¬ (v 11 1) = 0 ∧ ¬ (v 11 3) = v 0 0 ∨ (v 11 1) = 0 ∧ v 0 0 % 2 = 1)))) := e_36
    subst e_36
    have hP : va_P D vwCl (wO o cI cR cS x (va_up (va_up (va_up v 11 ((r_open (fun k => v (k + 11)) v) 0)) 12 ((r_open (fun k => v (k + 11)) v) 1)) 13 ((r_open (fun k => v (k + 11)) v) 2)) tl) H := hP
    have hD : va_D A (wO o cI cR cS x (va_up (va_up (va_up v 11 ((r_open (fun k => v (k + 11)) v) 0)) 12 ((r_open (fun k => v (k + 11)) v) 1)) 13 ((r_open (fun k => v (k + 11)) v) 2)) tl) := hD
    refine lv_pop hx hb dX4_doDeed_134 rfl ?_
    refine lv_goto (tgt := 150) hx hb dX4_doDeed_135 (by decide) ?_
    have w_38 : (wO o cI cR cS x (c_do v 98 2 (10 * t_dig x (i + 1) + t_dig x (i + 1 + 1))) tl) = (wO o cI cR cS x (va_up (va_up (va_up v 11 ((r_open (fun k => v (k + 11)) v) 0)) 12 ((r_open (fun k => v (k + 11)) v) 1)) 13 ((r_open (fun k => v (k + 11)) v) 2)) tl) := (by unfold c_do; rw [if_neg (by decide), if_neg (by decide), if_neg (by decide), if_pos rfl]; first | done | rfl)
    rw [← w_38] at hP
    exact W.vret hx hb hrt (fun t ht hW => ⟨⟨(), rfl, trivial, by show va_P D vwCl _ t.heap; rw [ht]; exact hP⟩, hS.F ht⟩) hS.2.2 dX4_doDeed_150
  · skip
    have hSc := hSI
    obtain ⟨⟨i1, i2, i3, hpl⟩, i5⟩ := hSI
    have i12 := i5 3 (by omega)
    unfold s_IR at i12
    simp only [Nat.reduceMul, Nat.reduceAdd] at i12
    refine lv_aload_n hx hb dX4_doDeed_0 rfl (lv_at hl 0 rfl) ?_
    refine va_get (D := D) (ci := 4) (v := .ref (o 2)) (C := RX4) (T := TX4) (N := 6) hx hb hts inX4_doDeed_X4 hown hK hP 0 rfl rfl 4 (by decide) (hts (.fieldLink RX4 23 "OddNotice" "text" "LOddNotice$Text;") (List.mem_of_getElem? (i := 1) (by decide +kernel))) (fun _ h9 => h9) rfl dX4_doDeed_1 ?_
    refine lv_iload_n hx hb dX4_doDeed_4 rfl (lv_at hl 2 rfl) ?_
    refine o_ri (va_runV (As := [.int (nI i)]) (rest := []) ⟨hx, hb, hml, hown, hts⟩ (k_X3_digitAt l D cI cR cS cL (fun k => o (k + 2)) x i (by show i < 2 ^ 31; first | assumption | omega) (by show x 0 0 ≤ 60; first | assumption | omega) (by show ∀ k, x 1 k < 2 ^ 31; first | assumption | omega)) (cwV 1 hts gX4_doDeed_X3_digitAt rfl rfl rfl (by decide +kernel) ⟨Nat.le_of_ble_eq_true rfl, Nat.le_of_ble_eq_true rfl⟩) (o_v (o_pR hK hN (hP.sub (ws' := (wT (fun k => o (k + 2)) cI x)) [2, 3] rfl)) (va_recv hK hP (ci := 3) (q0 := 2) rfl rfl)) rfl rfl hl.1 rfl (lv_room (Nat.le_of_ble_eq_true rfl)) dX4_doDeed_5 ⟨Nat.zero_le _, Nat.zero_le _⟩) (fun r_40 e_39 => ?_)
    have e_39 : r_40 = nI 3 := by rw [e_39, ha]
    subst e_39
    have gv_41 := t_dig_lt x i
    refine lv_istore_n (lv' := [(3, .int (nI 3)), (0, .ref (o 0)), (1, .int (nI 98)), (2, .int (nI i))]) hx hb dX4_doDeed_8 rfl hl (by decide) rfl (fun ls hl => ?_)
    refine lv_iload_n hx hb dX4_doDeed_9 rfl (lv_at hl 2 rfl) ?_
    refine lv_lookup (tgt := 115) (off := 105) hx hb dX4_doDeed_10 (by decide) (by decide) (by decide) ?_
    refine lv_aload_n hx hb dX4_doDeed_115 rfl (lv_at hl 1 rfl) ?_
    refine va_get (D := D) (ci := 4) (v := .ref (o 5)) (C := RX4) (T := TX4) (N := 6) hx hb hts inX4_doDeed_X4 hown hK hP 0 rfl rfl 0 (by decide) (hts (.fieldLink RX4 10 "OddNotice" "now" "LOddNotice$State;") (List.mem_of_getElem? (i := 2) (by decide +kernel))) (fun _ h9 => h9) rfl dX4_doDeed_116 ?_
    refine va_get (D := D) (ci := 2) (v := .ref (o 11)) (C := RX2) (T := TX2) (N := 4) hx hb hts inX4_doDeed_X2 hown hK hP 5 rfl rfl 1 (by decide) (hts (.fieldLink RX4 91 "OddNotice$State" "readers" "[LOddNotice$Reader;") (List.mem_of_getElem? (i := 4) (by decide +kernel))) (fun _ h9 => h9) rfl dX4_doDeed_119 ?_
    refine lv_iload_n hx hb dX4_doDeed_122 rfl (lv_at hl 0 rfl) ?_
    refine o_aldq (v := (o 21)) (C := "OddNotice$Reader") hx hb hK hP 6 1 rfl rfl (Nat.le_of_ble_eq_true rfl) (Nat.le_of_ble_eq_true rfl) rfl dX4_doDeed_123 ?_
    refine lv_aload_n hx hb dX4_doDeed_124 rfl (lv_at hl 1 rfl) ?_
    refine va_get (D := D) (ci := 4) (v := .ref (o 5)) (C := RX4) (T := TX4) (N := 6) hx hb hts inX4_doDeed_X4 hown hK hP 0 rfl rfl 0 (by decide) (hts (.fieldLink RX4 10 "OddNotice" "now" "LOddNotice$State;") (List.mem_of_getElem? (i := 2) (by decide +kernel))) (fun _ h9 => h9) rfl dX4_doDeed_125 ?_
    refine va_get (D := D) (ci := 2) (v := .ref (o 6)) (C := RX2) (T := TX2) (N := 4) hx hb hts inX4_doDeed_X2 hown hK hP 5 rfl rfl 0 (by decide) (hts (.fieldLink RX4 42 "OddNotice$State" "board" "LOddNotice$Board;") (List.mem_of_getElem? (i := 3) (by decide +kernel))) (fun _ h9 => h9) rfl dX4_doDeed_128 ?_
    refine o_wi (va_runV (As := [.ref (o 6)]) (rest := []) ⟨hx, hb, hml, hown, hts⟩ (k_X1_open l D cI cR cS cL s.heap.size (fun k => o (k + 21)) (fun k => v (k + 14)) (fun k => o (k + 6)) v (by show (v 14 0) < 2 ^ 31; first | assumption | omega) (by show (v 14 1) < 2 ^ 31; first | assumption | omega) (by show (v 14 3) < 2 ^ 32; first | assumption | omega) (by show v 0 0 < 2 ^ 31; first | assumption | omega)) (cwV 1 hts gX4_doDeed_X1_open rfl rfl rfl (by decide +kernel) ⟨Nat.le_of_ble_eq_true rfl, Nat.le_of_ble_eq_true rfl⟩) (o_v (o_pB hK hN (hP.sub (ws' := (wR (fun k => o (k + 21)) cI (fun k => v (k + 14)) ++ wB (fun k => o (k + 6)) cI v)) [21, 22, 23, 7, 8, 9, 10, 11] rfl) (hD.sub (ws' := (wR (fun k => o (k + 21)) cI (fun k => v (k + 14)) ++ wB (fun k => o (k + 6)) cI v)) [21, 22, 23, 7, 8, 9, 10, 11] (by decide) rfl)) (va_recv hK hP (ci := 1) (q0 := 21) rfl rfl)) rfl rfl hl.1 rfl (lv_room (Nat.le_of_ble_eq_true rfl)) dX4_doDeed_131 ⟨Nat.zero_le _, Nat.zero_le _⟩) hP hD hS hA [21, 22, 23, 7, 8, 9, 10, 11] (by decide) rfl (fun _ => rfl) (fun r_43 _ H locs e_42 hP hD hS => ?_)
    have e_42 : r_43 = nI (bn (¬ (¬ (v 14 0) = 0 ∧ (¬ (v 14 1) = 0 ∧ ¬ (v 14 3) = v 0 0 ∨ (v 14 1) = 0 ∧ v 0 0 % 2 = 1)))) := e_42
    subst e_42
    have hP : va_P D vwCl (wO o cI cR cS x (va_up (va_up (va_up v 14 ((r_open (fun k => v (k + 14)) v) 0)) 15 ((r_open (fun k => v (k + 14)) v) 1)) 16 ((r_open (fun k => v (k + 14)) v) 2)) tl) H := hP
    have hD : va_D A (wO o cI cR cS x (va_up (va_up (va_up v 14 ((r_open (fun k => v (k + 14)) v) 0)) 15 ((r_open (fun k => v (k + 14)) v) 1)) 16 ((r_open (fun k => v (k + 14)) v) 2)) tl) := hD
    refine lv_pop hx hb dX4_doDeed_134 rfl ?_
    refine lv_goto (tgt := 150) hx hb dX4_doDeed_135 (by decide) ?_
    have w_44 : (wO o cI cR cS x (c_do v 98 3 (10 * t_dig x (i + 1) + t_dig x (i + 1 + 1))) tl) = (wO o cI cR cS x (va_up (va_up (va_up v 14 ((r_open (fun k => v (k + 14)) v) 0)) 15 ((r_open (fun k => v (k + 14)) v) 1)) 16 ((r_open (fun k => v (k + 14)) v) 2)) tl) := (by unfold c_do; rw [if_neg (by decide), if_neg (by decide), if_neg (by decide), if_pos rfl]; first | done | rfl)
    rw [← w_44] at hP
    exact W.vret hx hb hrt (fun t ht hW => ⟨⟨(), rfl, trivial, by show va_P D vwCl _ t.heap; rw [ht]; exact hP⟩, hS.F ht⟩) hS.2.2 dX4_doDeed_150
  · skip
    have hSc := hSI
    obtain ⟨⟨i1, i2, i3, hpl⟩, i5⟩ := hSI
    have i12 := i5 0 (by omega)
    unfold s_IR at i12
    simp only [Nat.reduceMul, Nat.reduceAdd] at i12
    refine lv_aload_n hx hb dX4_doDeed_0 rfl (lv_at hl 0 rfl) ?_
    refine va_get (D := D) (ci := 4) (v := .ref (o 2)) (C := RX4) (T := TX4) (N := 6) hx hb hts inX4_doDeed_X4 hown hK hP 0 rfl rfl 4 (by decide) (hts (.fieldLink RX4 23 "OddNotice" "text" "LOddNotice$Text;") (List.mem_of_getElem? (i := 1) (by decide +kernel))) (fun _ h9 => h9) rfl dX4_doDeed_1 ?_
    refine lv_iload_n hx hb dX4_doDeed_4 rfl (lv_at hl 2 rfl) ?_
    refine o_ri (va_runV (As := [.int (nI i)]) (rest := []) ⟨hx, hb, hml, hown, hts⟩ (k_X3_digitAt l D cI cR cS cL (fun k => o (k + 2)) x i (by show i < 2 ^ 31; first | assumption | omega) (by show x 0 0 ≤ 60; first | assumption | omega) (by show ∀ k, x 1 k < 2 ^ 31; first | assumption | omega)) (cwV 1 hts gX4_doDeed_X3_digitAt rfl rfl rfl (by decide +kernel) ⟨Nat.le_of_ble_eq_true rfl, Nat.le_of_ble_eq_true rfl⟩) (o_v (o_pR hK hN (hP.sub (ws' := (wT (fun k => o (k + 2)) cI x)) [2, 3] rfl)) (va_recv hK hP (ci := 3) (q0 := 2) rfl rfl)) rfl rfl hl.1 rfl (lv_room (Nat.le_of_ble_eq_true rfl)) dX4_doDeed_5 ⟨Nat.zero_le _, Nat.zero_le _⟩) (fun r_46 e_45 => ?_)
    have e_45 : r_46 = nI 0 := by rw [e_45, ha]
    subst e_45
    have gv_47 := t_dig_lt x i
    refine lv_istore_n (lv' := [(3, .int (nI 0)), (0, .ref (o 0)), (1, .int (nI 108)), (2, .int (nI i))]) hx hb dX4_doDeed_8 rfl hl (by decide) rfl (fun ls hl => ?_)
    refine lv_iload_n hx hb dX4_doDeed_9 rfl (lv_at hl 2 rfl) ?_
    refine lv_lookup (tgt := 138) (off := 128) hx hb dX4_doDeed_10 (by decide) (by decide) (by decide) ?_
    refine lv_aload_n hx hb dX4_doDeed_138 rfl (lv_at hl 1 rfl) ?_
    refine va_get (D := D) (ci := 4) (v := .ref (o 5)) (C := RX4) (T := TX4) (N := 6) hx hb hts inX4_doDeed_X4 hown hK hP 0 rfl rfl 0 (by decide) (hts (.fieldLink RX4 10 "OddNotice" "now" "LOddNotice$State;") (List.mem_of_getElem? (i := 2) (by decide +kernel))) (fun _ h9 => h9) rfl dX4_doDeed_139 ?_
    refine lv_iload_n hx hb dX4_doDeed_142 rfl (lv_at hl 0 rfl) ?_
    refine o_wi (va_runV (As := [.int (nI 0)]) (rest := []) ⟨hx, hb, hml, hown, hts⟩ (k_X2_glance l D cI cR cS cL s.heap.size (fun k => o (k + 5)) v b 0 (hSc) (by show b < 2 ^ 28; first | assumption | omega) (by show 0 < 4; first | assumption | omega)) (cwV 1 hts gX4_doDeed_X2_glance rfl rfl rfl (by decide +kernel) ⟨Nat.le_of_ble_eq_true rfl, Nat.le_of_ble_eq_true rfl⟩) (o_v (o_pB hK hN (hP.sub (ws' := (wS (fun k => o (k + 5)) cI cR v)) [5, 6, 7, 8, 9, 10, 11, 12, 13, 14, 15, 16, 17, 18, 19, 20, 21, 22, 23] rfl) (hD.sub (ws' := (wS (fun k => o (k + 5)) cI cR v)) [5, 6, 7, 8, 9, 10, 11, 12, 13, 14, 15, 16, 17, 18, 19, 20, 21, 22, 23] (by decide) rfl)) (va_recv hK hP (ci := 2) (q0 := 5) rfl rfl)) rfl rfl hl.1 rfl (lv_room (Nat.le_of_ble_eq_true rfl)) dX4_doDeed_143 ⟨Nat.zero_le _, Nat.zero_le _⟩) hP hD hS hA [5, 6, 7, 8, 9, 10, 11, 12, 13, 14, 15, 16, 17, 18, 19, 20, 21, 22, 23] (by decide) rfl (fun _ => rfl) (fun r_49 _ H locs e_48 hP hD hS => ?_)
    have e_48 : r_49 = nI (s_glr v 0) := e_48
    subst e_48
    have E_50 : o_put (wO o cI cR cS x v tl) [5, 6, 7, 8, 9, 10, 11, 12, 13, 14, 15, 16, 17, 18, 19, 20, 21, 22, 23] (wS (fun k => o (k + 5)) cI cR (s_gl v 0)) = (wO o cI cR cS x (s_gl v 0) tl) := by exact o_putS _ _ _ _ _ _ _ _
    rw [E_50] at hP hD
    refine lv_pop hx hb dX4_doDeed_146 rfl ?_
    refine lv_goto (tgt := 150) hx hb dX4_doDeed_147 (by decide) ?_
    have w_51 : (wO o cI cR cS x (c_do v 108 0 (10 * t_dig x (i + 1) + t_dig x (i + 1 + 1))) tl) = (wO o cI cR cS x (s_gl v 0) tl) := (by unfold c_do; rw [if_neg (by decide), if_neg (by decide), if_neg (by decide), if_neg (by decide)]; first | done | rfl)
    rw [← w_51] at hP
    exact W.vret hx hb hrt (fun t ht hW => ⟨⟨(), rfl, trivial, by show va_P D vwCl _ t.heap; rw [ht]; exact hP⟩, hS.F ht⟩) hS.2.2 dX4_doDeed_150
  · skip
    have hSc := hSI
    obtain ⟨⟨i1, i2, i3, hpl⟩, i5⟩ := hSI
    have i12 := i5 1 (by omega)
    unfold s_IR at i12
    simp only [Nat.reduceMul, Nat.reduceAdd] at i12
    refine lv_aload_n hx hb dX4_doDeed_0 rfl (lv_at hl 0 rfl) ?_
    refine va_get (D := D) (ci := 4) (v := .ref (o 2)) (C := RX4) (T := TX4) (N := 6) hx hb hts inX4_doDeed_X4 hown hK hP 0 rfl rfl 4 (by decide) (hts (.fieldLink RX4 23 "OddNotice" "text" "LOddNotice$Text;") (List.mem_of_getElem? (i := 1) (by decide +kernel))) (fun _ h9 => h9) rfl dX4_doDeed_1 ?_
    refine lv_iload_n hx hb dX4_doDeed_4 rfl (lv_at hl 2 rfl) ?_
    refine o_ri (va_runV (As := [.int (nI i)]) (rest := []) ⟨hx, hb, hml, hown, hts⟩ (k_X3_digitAt l D cI cR cS cL (fun k => o (k + 2)) x i (by show i < 2 ^ 31; first | assumption | omega) (by show x 0 0 ≤ 60; first | assumption | omega) (by show ∀ k, x 1 k < 2 ^ 31; first | assumption | omega)) (cwV 1 hts gX4_doDeed_X3_digitAt rfl rfl rfl (by decide +kernel) ⟨Nat.le_of_ble_eq_true rfl, Nat.le_of_ble_eq_true rfl⟩) (o_v (o_pR hK hN (hP.sub (ws' := (wT (fun k => o (k + 2)) cI x)) [2, 3] rfl)) (va_recv hK hP (ci := 3) (q0 := 2) rfl rfl)) rfl rfl hl.1 rfl (lv_room (Nat.le_of_ble_eq_true rfl)) dX4_doDeed_5 ⟨Nat.zero_le _, Nat.zero_le _⟩) (fun r_53 e_52 => ?_)
    have e_52 : r_53 = nI 1 := by rw [e_52, ha]
    subst e_52
    have gv_54 := t_dig_lt x i
    refine lv_istore_n (lv' := [(3, .int (nI 1)), (0, .ref (o 0)), (1, .int (nI 108)), (2, .int (nI i))]) hx hb dX4_doDeed_8 rfl hl (by decide) rfl (fun ls hl => ?_)
    refine lv_iload_n hx hb dX4_doDeed_9 rfl (lv_at hl 2 rfl) ?_
    refine lv_lookup (tgt := 138) (off := 128) hx hb dX4_doDeed_10 (by decide) (by decide) (by decide) ?_
    refine lv_aload_n hx hb dX4_doDeed_138 rfl (lv_at hl 1 rfl) ?_
    refine va_get (D := D) (ci := 4) (v := .ref (o 5)) (C := RX4) (T := TX4) (N := 6) hx hb hts inX4_doDeed_X4 hown hK hP 0 rfl rfl 0 (by decide) (hts (.fieldLink RX4 10 "OddNotice" "now" "LOddNotice$State;") (List.mem_of_getElem? (i := 2) (by decide +kernel))) (fun _ h9 => h9) rfl dX4_doDeed_139 ?_
    refine lv_iload_n hx hb dX4_doDeed_142 rfl (lv_at hl 0 rfl) ?_
    refine o_wi (va_runV (As := [.int (nI 1)]) (rest := []) ⟨hx, hb, hml, hown, hts⟩ (k_X2_glance l D cI cR cS cL s.heap.size (fun k => o (k + 5)) v b 1 (hSc) (by show b < 2 ^ 28; first | assumption | omega) (by show 1 < 4; first | assumption | omega)) (cwV 1 hts gX4_doDeed_X2_glance rfl rfl rfl (by decide +kernel) ⟨Nat.le_of_ble_eq_true rfl, Nat.le_of_ble_eq_true rfl⟩) (o_v (o_pB hK hN (hP.sub (ws' := (wS (fun k => o (k + 5)) cI cR v)) [5, 6, 7, 8, 9, 10, 11, 12, 13, 14, 15, 16, 17, 18, 19, 20, 21, 22, 23] rfl) (hD.sub (ws' := (wS (fun k => o (k + 5)) cI cR v)) [5, 6, 7, 8, 9, 10, 11, 12, 13, 14, 15, 16, 17, 18, 19, 20, 21, 22, 23] (by decide) rfl)) (va_recv hK hP (ci := 2) (q0 := 5) rfl rfl)) rfl rfl hl.1 rfl (lv_room (Nat.le_of_ble_eq_true rfl)) dX4_doDeed_143 ⟨Nat.zero_le _, Nat.zero_le _⟩) hP hD hS hA [5, 6, 7, 8, 9, 10, 11, 12, 13, 14, 15, 16, 17, 18, 19, 20, 21, 22, 23] (by decide) rfl (fun _ => rfl) (fun r_56 _ H locs e_55 hP hD hS => ?_)
    have e_55 : r_56 = nI (s_glr v 1) := e_55
    subst e_55
    have E_57 : o_put (wO o cI cR cS x v tl) [5, 6, 7, 8, 9, 10, 11, 12, 13, 14, 15, 16, 17, 18, 19, 20, 21, 22, 23] (wS (fun k => o (k + 5)) cI cR (s_gl v 1)) = (wO o cI cR cS x (s_gl v 1) tl) := by exact o_putS _ _ _ _ _ _ _ _
    rw [E_57] at hP hD
    refine lv_pop hx hb dX4_doDeed_146 rfl ?_
    refine lv_goto (tgt := 150) hx hb dX4_doDeed_147 (by decide) ?_
    have w_58 : (wO o cI cR cS x (c_do v 108 1 (10 * t_dig x (i + 1) + t_dig x (i + 1 + 1))) tl) = (wO o cI cR cS x (s_gl v 1) tl) := (by unfold c_do; rw [if_neg (by decide), if_neg (by decide), if_neg (by decide), if_neg (by decide)]; first | done | rfl)
    rw [← w_58] at hP
    exact W.vret hx hb hrt (fun t ht hW => ⟨⟨(), rfl, trivial, by show va_P D vwCl _ t.heap; rw [ht]; exact hP⟩, hS.F ht⟩) hS.2.2 dX4_doDeed_150
  · skip
    have hSc := hSI
    obtain ⟨⟨i1, i2, i3, hpl⟩, i5⟩ := hSI
    have i12 := i5 2 (by omega)
    unfold s_IR at i12
    simp only [Nat.reduceMul, Nat.reduceAdd] at i12
    refine lv_aload_n hx hb dX4_doDeed_0 rfl (lv_at hl 0 rfl) ?_
    refine va_get (D := D) (ci := 4) (v := .ref (o 2)) (C := RX4) (T := TX4) (N := 6) hx hb hts inX4_doDeed_X4 hown hK hP 0 rfl rfl 4 (by decide) (hts (.fieldLink RX4 23 "OddNotice" "text" "LOddNotice$Text;") (List.mem_of_getElem? (i := 1) (by decide +kernel))) (fun _ h9 => h9) rfl dX4_doDeed_1 ?_
    refine lv_iload_n hx hb dX4_doDeed_4 rfl (lv_at hl 2 rfl) ?_
    refine o_ri (va_runV (As := [.int (nI i)]) (rest := []) ⟨hx, hb, hml, hown, hts⟩ (k_X3_digitAt l D cI cR cS cL (fun k => o (k + 2)) x i (by show i < 2 ^ 31; first | assumption | omega) (by show x 0 0 ≤ 60; first | assumption | omega) (by show ∀ k, x 1 k < 2 ^ 31; first | assumption | omega)) (cwV 1 hts gX4_doDeed_X3_digitAt rfl rfl rfl (by decide +kernel) ⟨Nat.le_of_ble_eq_true rfl, Nat.le_of_ble_eq_true rfl⟩) (o_v (o_pR hK hN (hP.sub (ws' := (wT (fun k => o (k + 2)) cI x)) [2, 3] rfl)) (va_recv hK hP (ci := 3) (q0 := 2) rfl rfl)) rfl rfl hl.1 rfl (lv_room (Nat.le_of_ble_eq_true rfl)) dX4_doDeed_5 ⟨Nat.zero_le _, Nat.zero_le _⟩) (fun r_60 e_59 => ?_)
    have e_59 : r_60 = nI 2 := by rw [e_59, ha]
    subst e_59
    have gv_61 := t_dig_lt x i
    refine lv_istore_n (lv' := [(3, .int (nI 2)), (0, .ref (o 0)), (1, .int (nI 108)), (2, .int (nI i))]) hx hb dX4_doDeed_8 rfl hl (by decide) rfl (fun ls hl => ?_)
    refine lv_iload_n hx hb dX4_doDeed_9 rfl (lv_at hl 2 rfl) ?_
    refine lv_lookup (tgt := 138) (off := 128) hx hb dX4_doDeed_10 (by decide) (by decide) (by decide) ?_
    refine lv_aload_n hx hb dX4_doDeed_138 rfl (lv_at hl 1 rfl) ?_
    refine va_get (D := D) (ci := 4) (v := .ref (o 5)) (C := RX4) (T := TX4) (N := 6) hx hb hts inX4_doDeed_X4 hown hK hP 0 rfl rfl 0 (by decide) (hts (.fieldLink RX4 10 "OddNotice" "now" "LOddNotice$State;") (List.mem_of_getElem? (i := 2) (by decide +kernel))) (fun _ h9 => h9) rfl dX4_doDeed_139 ?_
    refine lv_iload_n hx hb dX4_doDeed_142 rfl (lv_at hl 0 rfl) ?_
    refine o_wi (va_runV (As := [.int (nI 2)]) (rest := []) ⟨hx, hb, hml, hown, hts⟩ (k_X2_glance l D cI cR cS cL s.heap.size (fun k => o (k + 5)) v b 2 (hSc) (by show b < 2 ^ 28; first | assumption | omega) (by show 2 < 4; first | assumption | omega)) (cwV 1 hts gX4_doDeed_X2_glance rfl rfl rfl (by decide +kernel) ⟨Nat.le_of_ble_eq_true rfl, Nat.le_of_ble_eq_true rfl⟩) (o_v (o_pB hK hN (hP.sub (ws' := (wS (fun k => o (k + 5)) cI cR v)) [5, 6, 7, 8, 9, 10, 11, 12, 13, 14, 15, 16, 17, 18, 19, 20, 21, 22, 23] rfl) (hD.sub (ws' := (wS (fun k => o (k + 5)) cI cR v)) [5, 6, 7, 8, 9, 10, 11, 12, 13, 14, 15, 16, 17, 18, 19, 20, 21, 22, 23] (by decide) rfl)) (va_recv hK hP (ci := 2) (q0 := 5) rfl rfl)) rfl rfl hl.1 rfl (lv_room (Nat.le_of_ble_eq_true rfl)) dX4_doDeed_143 ⟨Nat.zero_le _, Nat.zero_le _⟩) hP hD hS hA [5, 6, 7, 8, 9, 10, 11, 12, 13, 14, 15, 16, 17, 18, 19, 20, 21, 22, 23] (by decide) rfl (fun _ => rfl) (fun r_63 _ H locs e_62 hP hD hS => ?_)
    have e_62 : r_63 = nI (s_glr v 2) := e_62
    subst e_62
    have E_64 : o_put (wO o cI cR cS x v tl) [5, 6, 7, 8, 9, 10, 11, 12, 13, 14, 15, 16, 17, 18, 19, 20, 21, 22, 23] (wS (fun k => o (k + 5)) cI cR (s_gl v 2)) = (wO o cI cR cS x (s_gl v 2) tl) := by exact o_putS _ _ _ _ _ _ _ _
    rw [E_64] at hP hD
    refine lv_pop hx hb dX4_doDeed_146 rfl ?_
    refine lv_goto (tgt := 150) hx hb dX4_doDeed_147 (by decide) ?_
    have w_65 : (wO o cI cR cS x (c_do v 108 2 (10 * t_dig x (i + 1) + t_dig x (i + 1 + 1))) tl) = (wO o cI cR cS x (s_gl v 2) tl) := (by unfold c_do; rw [if_neg (by decide), if_neg (by decide), if_neg (by decide), if_neg (by decide)]; first | done | rfl)
    rw [← w_65] at hP
    exact W.vret hx hb hrt (fun t ht hW => ⟨⟨(), rfl, trivial, by show va_P D vwCl _ t.heap; rw [ht]; exact hP⟩, hS.F ht⟩) hS.2.2 dX4_doDeed_150
  · skip
    have hSc := hSI
    obtain ⟨⟨i1, i2, i3, hpl⟩, i5⟩ := hSI
    have i12 := i5 3 (by omega)
    unfold s_IR at i12
    simp only [Nat.reduceMul, Nat.reduceAdd] at i12
    refine lv_aload_n hx hb dX4_doDeed_0 rfl (lv_at hl 0 rfl) ?_
    refine va_get (D := D) (ci := 4) (v := .ref (o 2)) (C := RX4) (T := TX4) (N := 6) hx hb hts inX4_doDeed_X4 hown hK hP 0 rfl rfl 4 (by decide) (hts (.fieldLink RX4 23 "OddNotice" "text" "LOddNotice$Text;") (List.mem_of_getElem? (i := 1) (by decide +kernel))) (fun _ h9 => h9) rfl dX4_doDeed_1 ?_
    refine lv_iload_n hx hb dX4_doDeed_4 rfl (lv_at hl 2 rfl) ?_
    refine o_ri (va_runV (As := [.int (nI i)]) (rest := []) ⟨hx, hb, hml, hown, hts⟩ (k_X3_digitAt l D cI cR cS cL (fun k => o (k + 2)) x i (by show i < 2 ^ 31; first | assumption | omega) (by show x 0 0 ≤ 60; first | assumption | omega) (by show ∀ k, x 1 k < 2 ^ 31; first | assumption | omega)) (cwV 1 hts gX4_doDeed_X3_digitAt rfl rfl rfl (by decide +kernel) ⟨Nat.le_of_ble_eq_true rfl, Nat.le_of_ble_eq_true rfl⟩) (o_v (o_pR hK hN (hP.sub (ws' := (wT (fun k => o (k + 2)) cI x)) [2, 3] rfl)) (va_recv hK hP (ci := 3) (q0 := 2) rfl rfl)) rfl rfl hl.1 rfl (lv_room (Nat.le_of_ble_eq_true rfl)) dX4_doDeed_5 ⟨Nat.zero_le _, Nat.zero_le _⟩) (fun r_67 e_66 => ?_)
    have e_66 : r_67 = nI 3 := by rw [e_66, ha]
    subst e_66
    have gv_68 := t_dig_lt x i
    refine lv_istore_n (lv' := [(3, .int (nI 3)), (0, .ref (o 0)), (1, .int (nI 108)), (2, .int (nI i))]) hx hb dX4_doDeed_8 rfl hl (by decide) rfl (fun ls hl => ?_)
    refine lv_iload_n hx hb dX4_doDeed_9 rfl (lv_at hl 2 rfl) ?_
    refine lv_lookup (tgt := 138) (off := 128) hx hb dX4_doDeed_10 (by decide) (by decide) (by decide) ?_
    refine lv_aload_n hx hb dX4_doDeed_138 rfl (lv_at hl 1 rfl) ?_
    refine va_get (D := D) (ci := 4) (v := .ref (o 5)) (C := RX4) (T := TX4) (N := 6) hx hb hts inX4_doDeed_X4 hown hK hP 0 rfl rfl 0 (by decide) (hts (.fieldLink RX4 10 "OddNotice" "now" "LOddNotice$State;") (List.mem_of_getElem? (i := 2) (by decide +kernel))) (fun _ h9 => h9) rfl dX4_doDeed_139 ?_
    refine lv_iload_n hx hb dX4_doDeed_142 rfl (lv_at hl 0 rfl) ?_
    refine o_wi (va_runV (As := [.int (nI 3)]) (rest := []) ⟨hx, hb, hml, hown, hts⟩ (k_X2_glance l D cI cR cS cL s.heap.size (fun k => o (k + 5)) v b 3 (hSc) (by show b < 2 ^ 28; first | assumption | omega) (by show 3 < 4; first | assumption | omega)) (cwV 1 hts gX4_doDeed_X2_glance rfl rfl rfl (by decide +kernel) ⟨Nat.le_of_ble_eq_true rfl, Nat.le_of_ble_eq_true rfl⟩) (o_v (o_pB hK hN (hP.sub (ws' := (wS (fun k => o (k + 5)) cI cR v)) [5, 6, 7, 8, 9, 10, 11, 12, 13, 14, 15, 16, 17, 18, 19, 20, 21, 22, 23] rfl) (hD.sub (ws' := (wS (fun k => o (k + 5)) cI cR v)) [5, 6, 7, 8, 9, 10, 11, 12, 13, 14, 15, 16, 17, 18, 19, 20, 21, 22, 23] (by decide) rfl)) (va_recv hK hP (ci := 2) (q0 := 5) rfl rfl)) rfl rfl hl.1 rfl (lv_room (Nat.le_of_ble_eq_true rfl)) dX4_doDeed_143 ⟨Nat.zero_le _, Nat.zero_le _⟩) hP hD hS hA [5, 6, 7, 8, 9, 10, 11, 12, 13, 14, 15, 16, 17, 18, 19, 20, 21, 22, 23] (by decide) rfl (fun _ => rfl) (fun r_70 _ H locs e_69 hP hD hS => ?_)
    have e_69 : r_70 = nI (s_glr v 3) := e_69
    subst e_69
    have E_71 : o_put (wO o cI cR cS x v tl) [5, 6, 7, 8, 9, 10, 11, 12, 13, 14, 15, 16, 17, 18, 19, 20, 21, 22, 23] (wS (fun k => o (k + 5)) cI cR (s_gl v 3)) = (wO o cI cR cS x (s_gl v 3) tl) := by exact o_putS _ _ _ _ _ _ _ _
    rw [E_71] at hP hD
    refine lv_pop hx hb dX4_doDeed_146 rfl ?_
    refine lv_goto (tgt := 150) hx hb dX4_doDeed_147 (by decide) ?_
    have w_72 : (wO o cI cR cS x (c_do v 108 3 (10 * t_dig x (i + 1) + t_dig x (i + 1 + 1))) tl) = (wO o cI cR cS x (s_gl v 3) tl) := (by unfold c_do; rw [if_neg (by decide), if_neg (by decide), if_neg (by decide), if_neg (by decide)]; first | done | rfl)
    rw [← w_72] at hP
    exact W.vret hx hb hrt (fun t ht hW => ⟨⟨(), rfl, trivial, by show va_P D vwCl _ t.heap; rw [ht]; exact hP⟩, hS.F ht⟩) hS.2.2 dX4_doDeed_150
