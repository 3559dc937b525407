/-- what holds throughout a look at the board -/
def ya_B (p : Program) (s : State) (m : MethodId) (args : Array Value) (c : Code) (D : va_G) (cI cR cS cL : ClassId) (v : Nat → Nat → Nat) (A : Nat → Prop) (b : Nat) : Prop := p.tables.exec = Jvm.exec ∧ c.code = cL_board ∧ c.maxLocals = 11 ∧ s.vm.findClass RL = some m.cls ∧ (∀ w ∈ wsL_board, w.before args s = true) ∧ va_K D vwCl (o_T cI cR cS cL) s ∧ o_N s ∧ (∀ q : Nat, s.heap.size ≤ q → A q) ∧ qa_I b v ∧ b < 2 ^ 27
set_option maxHeartbeats 4000000 in
set_option maxRecDepth 100000 in
theorem ya_b0 {p : Program} {l : Launch} {e : Env} {s : State} {m : MethodId} {args : Array Value} {below : List Frame} {meth : Method} {c : Code} {Q : State → Prop} {D : va_G} {cI cR cS cL : ClassId} {o : Nat → Nat} {v : Nat → Nat → Nat} {tl : va_W} {A : Nat → Prop} {b : Nat} {H : Heap} {locs : List Loc} {ls : Array Slot} {x : Nat → Nat → Nat} (C : ya_B p s m args c D cI cR cS cL v A b) (hP : va_P D vwCl (wO o cI cR cS x v tl) H) (hl : lv_has ls 11 [(0, .ref (o 0))]) (K : ∀ ls, lv_has ls 11 [(7, .int (nI 0)), (6, .int (nI 1)), (1, .int (nI (v 0 0))), (2, .int (nI ((v 0 0) / 2))), (3, .int (nI 0)), (4, .int (nI 0)), (5, .int (nI 0)), (0, .ref (o 0))] → W p l e ({ frames := 4, cells := 0, slots := 0, locals := 88 } : Room) s m args below meth c H locs 0 0 Q (F0 m 100 ls [])) : W p l e ({ frames := 4, cells := 0, slots := 0, locals := 88 } : Room) s m args below meth c H locs 0 0 Q (F0 m 0 ls []) := by
  obtain ⟨hx, hb, hml, hown, hts, hK, hN, hA, hI, hb27⟩ := C
  have hSI := hI.1
  have hb28 : b < 2 ^ 28 := by omega
  have hn0 : v 0 0 < 2 ^ 29 := by have := hSI.1.1; omega
  have hS7 := s_sum_le hSI (Or.inr rfl)
  have hhv : v 0 1 ≤ s_sum v 7 := hI.2.2.2.2
  rcases qa_who hI.2.1 with ⟨hp, hw, hi, _⟩ | ⟨hp, hw, hi, hi3, _⟩
  · skip
    refine lv_aload_n hx hb dL_board_0 rfl (lv_at hl 0 rfl) ?_
    refine o_const (k := 0) hx hb dL_board_1 (by decide) ?_
    refine o_ri (va_runV (As := [.int (nI 0)]) (rest := []) ⟨hx, hb, hml, hown, hts⟩ (k_X4_count l D cI cR cS cL o x v tl b 0 hSI hb28 (by omega)) (cwV 1 hts gL_board_X4_count rfl rfl rfl (by decide +kernel) ⟨Nat.le_of_ble_eq_true rfl, Nat.le_of_ble_eq_true rfl⟩) (o_v (o_pR hK hN hP) (va_recv hK hP (ci := 4) (q0 := 0) rfl rfl)) rfl rfl hl.1 rfl (lv_room (Nat.le_of_ble_eq_true rfl)) dL_board_2 ⟨Nat.zero_le _, Nat.zero_le _⟩) (fun r1 e1 => ?_)
    have e1 : r1 = nI (c_cnt v (x 0 4) 0) := e1
    subst e1
    refine o_ti (show nI (c_cnt v (x 0 4) 0) = nI (v 0 0) from congrArg nI rfl) ?_
    refine lv_istore_n (lv' := [(1, .int (nI (v 0 0))), (0, .ref (o 0))]) hx hb dL_board_5 rfl hl (by decide) rfl (fun ls hl => ?_)
    refine lv_iload_n hx hb dL_board_6 rfl (lv_at hl 0 rfl) ?_
    refine o_const (k := 2) hx hb dL_board_7 (by decide) ?_
    refine o_idiv (a := (v 0 0)) (b := 2) (k := ((v 0 0) / 2)) hx hb dL_board_8 (by omega) (by decide) (Nat.le_of_ble_eq_true rfl) rfl ?_
    refine lv_istore_n (lv' := [(2, .int (nI ((v 0 0) / 2))), (1, .int (nI (v 0 0))), (0, .ref (o 0))]) hx hb dL_board_9 rfl hl (by decide) rfl (fun ls hl => ?_)
    refine o_const (k := 0) hx hb dL_board_10 (by decide) ?_
    refine lv_istore_n (lv' := [(3, .int (nI 0)), (2, .int (nI ((v 0 0) / 2))), (1, .int (nI (v 0 0))), (0, .ref (o 0))]) hx hb dL_board_11 rfl hl (by decide) rfl (fun ls hl => ?_)
    refine o_const (k := 0) hx hb dL_board_12 (by decide) ?_
    refine lv_istore (lv' := [(4, .int (nI 0)), (3, .int (nI 0)), (2, .int (nI ((v 0 0) / 2))), (1, .int (nI (v 0 0))), (0, .ref (o 0))]) hx hb dL_board_13 hl (by decide) rfl (fun ls hl => ?_)
    refine o_const (k := 0) hx hb dL_board_15 (by decide) ?_
    refine lv_istore (lv' := [(5, .int (nI 0)), (4, .int (nI 0)), (3, .int (nI 0)), (2, .int (nI ((v 0 0) / 2))), (1, .int (nI (v 0 0))), (0, .ref (o 0))]) hx hb dL_board_16 hl (by decide) rfl (fun ls hl => ?_)
    refine lv_iload_n hx hb dL_board_18 rfl (lv_at hl 4 rfl) ?_
    refine o_if_lt (tgt := 94) hx hb dL_board_19 (by decide) (by omega) ?_
    refine lv_iload_n hx hb dL_board_22 rfl (lv_at hl 4 rfl) ?_
    refine o_const (k := 2) hx hb dL_board_23 (by decide) ?_
    refine o_irem (a := (v 0 0)) (b := 2) (k := ((v 0 0) % 2)) hx hb dL_board_24 (by omega) (by decide) (Nat.le_of_ble_eq_true rfl) rfl ?_
    refine o_const (k := 1) hx hb dL_board_25 (by decide) ?_
    refine o_icmp_ne (tgt := 33) hx hb dL_board_26 (by decide) (by omega) (Nat.le_of_ble_eq_true rfl) (fun _ => ?_) (fun z => absurd z (by omega))
    refine o_const (k := 0) hx hb dL_board_33 (by decide) ?_
    refine lv_aload_n hx hb dL_board_34 rfl (lv_at hl 5 rfl) ?_
    refine o_const (k := 1) hx hb dL_board_35 (by decide) ?_
    refine o_ri (va_runV (As := [.int (nI 1)]) (rest := [.int (nI 0)]) ⟨hx, hb, hml, hown, hts⟩ (k_X4_count l D cI cR cS cL o x v tl b 1 hSI hb28 (by omega)) (cwV 1 hts gL_board_X4_count rfl rfl rfl (by decide +kernel) ⟨Nat.le_of_ble_eq_true rfl, Nat.le_of_ble_eq_true rfl⟩) (o_v (o_pR hK hN hP) (va_recv hK hP (ci := 4) (q0 := 0) rfl rfl)) rfl rfl hl.1 rfl (lv_room (Nat.le_of_ble_eq_true rfl)) dL_board_36 ⟨Nat.zero_le _, Nat.zero_le _⟩) (fun r1 e1 => ?_)
    have e1 : r1 = nI (c_cnt v (x 0 4) 1) := e1
    subst e1
    refine o_ti (show nI (c_cnt v (x 0 4) 1) = nI 4294967295 from congrArg nI (show c_cnt v (x 0 4) 1 = 4294967295 from hw)) ?_
    refine o_if_lt_neg (tgt := 46) hx hb dL_board_39 (by decide) (by decide) (by decide) ?_
    refine o_const (k := 0) hx hb dL_board_46 (by decide) ?_
    refine o_icmp_ne (tgt := 94) hx hb dL_board_47 (by decide) (Nat.le_of_ble_eq_true rfl) (Nat.le_of_ble_eq_true rfl) (fun z => absurd z (by decide)) (fun _ => ?_)
    refine lv_aload_n hx hb dL_board_50 rfl (lv_at hl 5 rfl) ?_
    refine o_ri (va_runV (As := []) (rest := []) ⟨hx, hb, hml, hown, hts⟩ (k_X4_busy l D cI cR cS cL o x v tl b hSI hb28) (cwV 0 hts gL_board_X4_busy rfl rfl rfl (by decide +kernel) ⟨Nat.le_of_ble_eq_true rfl, Nat.le_of_ble_eq_true rfl⟩) (o_v (o_pR hK hN hP) (va_recv hK hP (ci := 4) (q0 := 0) rfl rfl)) rfl rfl hl.1 rfl (lv_room (Nat.le_of_ble_eq_true rfl)) dL_board_51 ⟨Nat.zero_le _, Nat.zero_le _⟩) (fun r1 e1 => ?_)
    have e1 : r1 = nI (b_inl (v 3)) := e1
    subst e1
    refine o_ti (show nI (b_inl (v 3)) = nI 0 from congrArg nI hi) ?_
    refine lv_aload_n hx hb dL_board_54 rfl (lv_at hl 5 rfl) ?_
    refine o_const (k := 2) hx hb dL_board_55 (by decide) ?_
    refine o_ri (va_runV (As := [.int (nI 2)]) (rest := [.int (nI 0)]) ⟨hx, hb, hml, hown, hts⟩ (k_X4_count l D cI cR cS cL o x v tl b 2 hSI hb28 (by omega)) (cwV 1 hts gL_board_X4_count rfl rfl rfl (by decide +kernel) ⟨Nat.le_of_ble_eq_true rfl, Nat.le_of_ble_eq_true rfl⟩) (o_v (o_pR hK hN hP) (va_recv hK hP (ci := 4) (q0 := 0) rfl rfl)) rfl rfl hl.1 rfl (lv_room (Nat.le_of_ble_eq_true rfl)) dL_board_56 ⟨Nat.zero_le _, Nat.zero_le _⟩) (fun r1 e1 => ?_)
    have e1 : r1 = nI (c_cnt v (x 0 4) 2) := e1
    subst e1
    refine o_ti (show nI (c_cnt v (x 0 4) 2) = nI 0 from congrArg nI (show b_inl (v 3) - 1 = 0 by omega)) ?_
    refine lv_aload_n hx hb dL_board_59 rfl (lv_at hl 5 rfl) ?_
    refine o_const (k := 1) hx hb dL_board_60 (by decide) ?_
    refine o_ri (va_runV (As := [.int (nI 1)]) (rest := [.int (nI 0), .int (nI 0)]) ⟨hx, hb, hml, hown, hts⟩ (k_X4_count l D cI cR cS cL o x v tl b 1 hSI hb28 (by omega)) (cwV 1 hts gL_board_X4_count rfl rfl rfl (by decide +kernel) ⟨Nat.le_of_ble_eq_true rfl, Nat.le_of_ble_eq_true rfl⟩) (o_v (o_pR hK hN hP) (va_recv hK hP (ci := 4) (q0 := 0) rfl rfl)) rfl rfl hl.1 rfl (lv_room (Nat.le_of_ble_eq_true rfl)) dL_board_61 ⟨Nat.zero_le _, Nat.zero_le _⟩) (fun r1 e1 => ?_)
    have e1 : r1 = nI (c_cnt v (x 0 4) 1) := e1
    subst e1
    refine o_ti (show nI (c_cnt v (x 0 4) 1) = nI 4294967295 from congrArg nI (show c_cnt v (x 0 4) 1 = 4294967295 from hw)) ?_
    refine o_if_lt_neg (tgt := 71) hx hb dL_board_64 (by decide) (by decide) (by decide) ?_
    refine o_const (k := 0) hx hb dL_board_71 (by decide) ?_
    refine o_iadd (a := 0) (b := 0) (k := 0) hx hb dL_board_72 rfl ?_
    refine o_icmp_ne (tgt := 94) hx hb dL_board_73 (by decide) (Nat.le_of_ble_eq_true rfl) (Nat.le_of_ble_eq_true rfl) (fun z => absurd z (by decide)) (fun _ => ?_)
    refine lv_aload_n hx hb dL_board_76 rfl (lv_at hl 5 rfl) ?_
    refine o_bipush (k := 6) hx hb dL_board_77 (by decide) ?_
    refine o_ri (va_runV (As := [.int (nI 6)]) (rest := []) ⟨hx, hb, hml, hown, hts⟩ (k_X4_count l D cI cR cS cL o x v tl b 6 hSI hb28 (by omega)) (cwV 1 hts gL_board_X4_count rfl rfl rfl (by decide +kernel) ⟨Nat.le_of_ble_eq_true rfl, Nat.le_of_ble_eq_true rfl⟩) (o_v (o_pR hK hN hP) (va_recv hK hP (ci := 4) (q0 := 0) rfl rfl)) rfl rfl hl.1 rfl (lv_room (Nat.le_of_ble_eq_true rfl)) dL_board_79 ⟨Nat.zero_le _, Nat.zero_le _⟩) (fun r1 e1 => ?_)
    have e1 : r1 = nI (c_cnt v (x 0 4) 6) := e1
    subst e1
    refine o_ti (show nI (c_cnt v (x 0 4) 6) = nI (v 0 1) from congrArg nI rfl) ?_
    refine lv_aload_n hx hb dL_board_82 rfl (lv_at hl 5 rfl) ?_
    refine o_const (k := 5) hx hb dL_board_83 (by decide) ?_
    refine o_ri (va_runV (As := [.int (nI 5)]) (rest := [.int (nI (v 0 1))]) ⟨hx, hb, hml, hown, hts⟩ (k_X4_count l D cI cR cS cL o x v tl b 5 hSI hb28 (by omega)) (cwV 1 hts gL_board_X4_count rfl rfl rfl (by decide +kernel) ⟨Nat.le_of_ble_eq_true rfl, Nat.le_of_ble_eq_true rfl⟩) (o_v (o_pR hK hN hP) (va_recv hK hP (ci := 4) (q0 := 0) rfl rfl)) rfl rfl hl.1 rfl (lv_room (Nat.le_of_ble_eq_true rfl)) dL_board_84 ⟨Nat.zero_le _, Nat.zero_le _⟩) (fun r1 e1 => ?_)
    have e1 : r1 = nI (c_cnt v (x 0 4) 5) := e1
    subst e1
    refine o_ti (show nI (c_cnt v (x 0 4) 5) = nI (s_sum v 7) from congrArg nI rfl) ?_
    refine o_icmp_gt (tgt := 94) hx hb dL_board_87 (by decide) (by omega) (by omega) (fun z => absurd z (by omega)) (fun _ => ?_)
    refine o_const (k := 1) hx hb dL_board_90 (by decide) ?_
    refine lv_goto (tgt := 95) hx hb dL_board_91 (by decide) ?_
    refine lv_istore (lv' := [(6, .int (nI 1)), (5, .int (nI 0)), (4, .int (nI 0)), (3, .int (nI 0)), (2, .int (nI ((v 0 0) / 2))), (1, .int (nI (v 0 0))), (0, .ref (o 0))]) hx hb dL_board_95 hl (by decide) rfl (fun ls hl => ?_)
    refine o_const (k := 0) hx hb dL_board_97 (by decide) ?_
    refine lv_istore (lv' := [(7, .int (nI 0)), (6, .int (nI 1)), (5, .int (nI 0)), (4, .int (nI 0)), (3, .int (nI 0)), (2, .int (nI ((v 0 0) / 2))), (1, .int (nI (v 0 0))), (0, .ref (o 0))]) hx hb dL_board_98 hl (by decide) rfl (fun ls hl => ?_)
    exact K ls (lv_sub hl [0, 1, 6, 5, 4, 3, 2, 7] rfl)
  · skip
    refine lv_aload_n hx hb dL_board_0 rfl (lv_at hl 0 rfl) ?_
    refine o_const (k := 0) hx hb dL_board_1 (by decide) ?_
    refine o_ri (va_runV (As := [.int (nI 0)]) (rest := []) ⟨hx, hb, hml, hown, hts⟩ (k_X4_count l D cI cR cS cL o x v tl b 0 hSI hb28 (by omega)) (cwV 1 hts gL_board_X4_count rfl rfl rfl (by decide +kernel) ⟨Nat.le_of_ble_eq_true rfl, Nat.le_of_ble_eq_true rfl⟩) (o_v (o_pR hK hN hP) (va_recv hK hP (ci := 4) (q0 := 0) rfl rfl)) rfl rfl hl.1 rfl (lv_room (Nat.le_of_ble_eq_true rfl)) dL_board_2 ⟨Nat.zero_le _, Nat.zero_le _⟩) (fun r1 e1 => ?_)
    have e1 : r1 = nI (c_cnt v (x 0 4) 0) := e1
    subst e1
    refine o_ti (show nI (c_cnt v (x 0 4) 0) = nI (v 0 0) from congrArg nI rfl) ?_
    refine lv_istore_n (lv' := [(1, .int (nI (v 0 0))), (0, .ref (o 0))]) hx hb dL_board_5 rfl hl (by decide) rfl (fun ls hl => ?_)
    refine lv_iload_n hx hb dL_board_6 rfl (lv_at hl 0 rfl) ?_
    refine o_const (k := 2) hx hb dL_board_7 (by decide) ?_
    refine o_idiv (a := (v 0 0)) (b := 2) (k := ((v 0 0) / 2)) hx hb dL_board_8 (by omega) (by decide) (Nat.le_of_ble_eq_true rfl) rfl ?_
    refine lv_istore_n (lv' := [(2, .int (nI ((v 0 0) / 2))), (1, .int (nI (v 0 0))), (0, .ref (o 0))]) hx hb dL_board_9 rfl hl (by decide) rfl (fun ls hl => ?_)
    refine o_const (k := 0) hx hb dL_board_10 (by decide) ?_
    refine lv_istore_n (lv' := [(3, .int (nI 0)), (2, .int (nI ((v 0 0) / 2))), (1, .int (nI (v 0 0))), (0, .ref (o 0))]) hx hb dL_board_11 rfl hl (by decide) rfl (fun ls hl => ?_)
    refine o_const (k := 0) hx hb dL_board_12 (by decide) ?_
    refine lv_istore (lv' := [(4, .int (nI 0)), (3, .int (nI 0)), (2, .int (nI ((v 0 0) / 2))), (1, .int (nI (v 0 0))), (0, .ref (o 0))]) hx hb dL_board_13 hl (by decide) rfl (fun ls hl => ?_)
    refine o_const (k := 0) hx hb dL_board_15 (by decide) ?_
    refine lv_istore (lv' := [(5, .int (nI 0)), (4, .int (nI 0)), (3, .int (nI 0)), (2, .int (nI ((v 0 0) / 2))), (1, .int (nI (v 0 0))), (0, .ref (o 0))]) hx hb dL_board_16 hl (by decide) rfl (fun ls hl => ?_)
    refine lv_iload_n hx hb dL_board_18 rfl (lv_at hl 4 rfl) ?_
    refine o_if_lt (tgt := 94) hx hb dL_board_19 (by decide) (by omega) ?_
    refine lv_iload_n hx hb dL_board_22 rfl (lv_at hl 4 rfl) ?_
    refine o_const (k := 2) hx hb dL_board_23 (by decide) ?_
    refine o_irem (a := (v 0 0)) (b := 2) (k := ((v 0 0) % 2)) hx hb dL_board_24 (by omega) (by decide) (Nat.le_of_ble_eq_true rfl) rfl ?_
    refine o_const (k := 1) hx hb dL_board_25 (by decide) ?_
    refine o_icmp_ne (tgt := 33) hx hb dL_board_26 (by decide) (by omega) (Nat.le_of_ble_eq_true rfl) (fun z => absurd z (by omega)) (fun _ => ?_)
    refine o_const (k := 1) hx hb dL_board_29 (by decide) ?_
    refine lv_goto (tgt := 34) hx hb dL_board_30 (by decide) ?_
    refine lv_aload_n hx hb dL_board_34 rfl (lv_at hl 5 rfl) ?_
    refine o_const (k := 1) hx hb dL_board_35 (by decide) ?_
    refine o_ri (va_runV (As := [.int (nI 1)]) (rest := [.int (nI 1)]) ⟨hx, hb, hml, hown, hts⟩ (k_X4_count l D cI cR cS cL o x v tl b 1 hSI hb28 (by omega)) (cwV 1 hts gL_board_X4_count rfl rfl rfl (by decide +kernel) ⟨Nat.le_of_ble_eq_true rfl, Nat.le_of_ble_eq_true rfl⟩) (o_v (o_pR hK hN hP) (va_recv hK hP (ci := 4) (q0 := 0) rfl rfl)) rfl rfl hl.1 rfl (lv_room (Nat.le_of_ble_eq_true rfl)) dL_board_36 ⟨Nat.zero_le _, Nat.zero_le _⟩) (fun r1 e1 => ?_)
    have e1 : r1 = nI (c_cnt v (x 0 4) 1) := e1
    subst e1
    refine o_ti (show nI (c_cnt v (x 0 4) 1) = nI (b_who (v 3)) from congrArg nI rfl) ?_
    refine o_if_lt (tgt := 46) hx hb dL_board_39 (by decide) (by omega) ?_
    refine o_const (k := 1) hx hb dL_board_42 (by decide) ?_
    refine lv_goto (tgt := 47) hx hb dL_board_43 (by decide) ?_
    refine o_icmp_ne (tgt := 94) hx hb dL_board_47 (by decide) (Nat.le_of_ble_eq_true rfl) (Nat.le_of_ble_eq_true rfl) (fun z => absurd z (by decide)) (fun _ => ?_)
    refine lv_aload_n hx hb dL_board_50 rfl (lv_at hl 5 rfl) ?_
    refine o_ri (va_runV (As := []) (rest := []) ⟨hx, hb, hml, hown, hts⟩ (k_X4_busy l D cI cR cS cL o x v tl b hSI hb28) (cwV 0 hts gL_board_X4_busy rfl rfl rfl (by decide +kernel) ⟨Nat.le_of_ble_eq_true rfl, Nat.le_of_ble_eq_true rfl⟩) (o_v (o_pR hK hN hP) (va_recv hK hP (ci := 4) (q0 := 0) rfl rfl)) rfl rfl hl.1 rfl (lv_room (Nat.le_of_ble_eq_true rfl)) dL_board_51 ⟨Nat.zero_le _, Nat.zero_le _⟩) (fun r1 e1 => ?_)
    have e1 : r1 = nI (b_inl (v 3)) := e1
    subst e1
    refine lv_aload_n hx hb dL_board_54 rfl (lv_at hl 5 rfl) ?_
    refine o_const (k := 2) hx hb dL_board_55 (by decide) ?_
    refine o_ri (va_runV (As := [.int (nI 2)]) (rest := [.int (nI (b_inl (v 3)))]) ⟨hx, hb, hml, hown, hts⟩ (k_X4_count l D cI cR cS cL o x v tl b 2 hSI hb28 (by omega)) (cwV 1 hts gL_board_X4_count rfl rfl rfl (by decide +kernel) ⟨Nat.le_of_ble_eq_true rfl, Nat.le_of_ble_eq_true rfl⟩) (o_v (o_pR hK hN hP) (va_recv hK hP (ci := 4) (q0 := 0) rfl rfl)) rfl rfl hl.1 rfl (lv_room (Nat.le_of_ble_eq_true rfl)) dL_board_56 ⟨Nat.zero_le _, Nat.zero_le _⟩) (fun r1 e1 => ?_)
    have e1 : r1 = nI (c_cnt v (x 0 4) 2) := e1
    subst e1
    refine o_ti (show nI (c_cnt v (x 0 4) 2) = nI (b_inl (v 3) - 1) from congrArg nI rfl) ?_
    refine lv_aload_n hx hb dL_board_59 rfl (lv_at hl 5 rfl) ?_
    refine o_const (k := 1) hx hb dL_board_60 (by decide) ?_
    refine o_ri (va_runV (As := [.int (nI 1)]) (rest := [.int (nI (b_inl (v 3) - 1)), .int (nI (b_inl (v 3)))]) ⟨hx, hb, hml, hown, hts⟩ (k_X4_count l D cI cR cS cL o x v tl b 1 hSI hb28 (by omega)) (cwV 1 hts gL_board_X4_count rfl rfl rfl (by decide +kernel) ⟨Nat.le_of_ble_eq_true rfl, Nat.le_of_ble_eq_true rfl⟩) (o_v (o_pR hK hN hP) (va_recv hK hP (ci := 4) (q0 := 0) rfl rfl)) rfl rfl hl.1 rfl (lv_room (Nat.le_of_ble_eq_true rfl)) dL_board_61 ⟨Nat.zero_le _, Nat.zero_le _⟩) (fun r1 e1 => ?_)
    have e1 : r1 = nI (c_cnt v (x 0 4) 1) := e1
    subst e1
    refine o_ti (show nI (c_cnt v (x 0 4) 1) = nI (b_who (v 3)) from congrArg nI rfl) ?_
    refine o_if_lt (tgt := 71) hx hb dL_board_64 (by decide) (by omega) ?_
    refine o_const (k := 1) hx hb dL_board_67 (by decide) ?_
    refine lv_goto (tgt := 72) hx hb dL_board_68 (by decide) ?_
    refine o_iadd (a := (b_inl (v 3) - 1)) (b := 1) (k := (b_inl (v 3) - 1 + 1)) hx hb dL_board_72 rfl ?_
    refine o_icmp_ne (tgt := 94) hx hb dL_board_73 (by decide) (by omega) (by omega) (fun z => absurd z (by omega)) (fun _ => ?_)
    refine lv_aload_n hx hb dL_board_76 rfl (lv_at hl 5 rfl) ?_
    refine o_bipush (k := 6) hx hb dL_board_77 (by decide) ?_
    refine o_ri (va_runV (As := [.int (nI 6)]) (rest := []) ⟨hx, hb, hml, hown, hts⟩ (k_X4_count l D cI cR cS cL o x v tl b 6 hSI hb28 (by omega)) (cwV 1 hts gL_board_X4_count rfl rfl rfl (by decide +kernel) ⟨Nat.le_of_ble_eq_true rfl, Nat.le_of_ble_eq_true rfl⟩) (o_v (o_pR hK hN hP) (va_recv hK hP (ci := 4) (q0 := 0) rfl rfl)) rfl rfl hl.1 rfl (lv_room (Nat.le_of_ble_eq_true rfl)) dL_board_79 ⟨Nat.zero_le _, Nat.zero_le _⟩) (fun r1 e1 => ?_)
    have e1 : r1 = nI (c_cnt v (x 0 4) 6) := e1
    subst e1
    refine o_ti (show nI (c_cnt v (x 0 4) 6) = nI (v 0 1) from congrArg nI rfl) ?_
    refine lv_aload_n hx hb dL_board_82 rfl (lv_at hl 5 rfl) ?_
    refine o_const (k := 5) hx hb dL_board_83 (by decide) ?_
    refine o_ri (va_runV (As := [.int (nI 5)]) (rest := [.int (nI (v 0 1))]) ⟨hx, hb, hml, hown, hts⟩ (k_X4_count l D cI cR cS cL o x v tl b 5 hSI hb28 (by omega)) (cwV 1 hts gL_board_X4_count rfl rfl rfl (by decide +kernel) ⟨Nat.le_of_ble_eq_true rfl, Nat.le_of_ble_eq_true rfl⟩) (o_v (o_pR hK hN hP) (va_recv hK hP (ci := 4) (q0 := 0) rfl rfl)) rfl rfl hl.1 rfl (lv_room (Nat.le_of_ble_eq_true rfl)) dL_board_84 ⟨Nat.zero_le _, Nat.zero_le _⟩) (fun r1 e1 => ?_)
    have e1 : r1 = nI (c_cnt v (x 0 4) 5) := e1
    subst e1
    refine o_ti (show nI (c_cnt v (x 0 4) 5) = nI (s_sum v 7) from congrArg nI rfl) ?_
    refine o_icmp_gt (tgt := 94) hx hb dL_board_87 (by decide) (by omega) (by omega) (fun z => absurd z (by omega)) (fun _ => ?_)
    refine o_const (k := 1) hx hb dL_board_90 (by decide) ?_
    refine lv_goto (tgt := 95) hx hb dL_board_91 (by decide) ?_
    refine lv_istore (lv' := [(6, .int (nI 1)), (5, .int (nI 0)), (4, .int (nI 0)), (3, .int (nI 0)), (2, .int (nI ((v 0 0) / 2))), (1, .int (nI (v 0 0))), (0, .ref (o 0))]) hx hb dL_board_95 hl (by decide) rfl (fun ls hl => ?_)
    refine o_const (k := 0) hx hb dL_board_97 (by decide) ?_
    refine lv_istore (lv' := [(7, .int (nI 0)), (6, .int (nI 1)), (5, .int (nI 0)), (4, .int (nI 0)), (3, .int (nI 0)), (2, .int (nI ((v 0 0) / 2))), (1, .int (nI (v 0 0))), (0, .ref (o 0))]) hx hb dL_board_98 hl (by decide) rfl (fun ls hl => ?_)
    exact K ls (lv_sub hl [0, 1, 6, 5, 4, 3, 2, 7] rfl)
set_option maxHeartbeats 4000000 in
set_option maxRecDepth 100000 in
theorem ya_f {p : Program} {l : Launch} {e : Env} {s : State} {m : MethodId} {args : Array Value} {below : List Frame} {meth : Method} {c : Code} {Q : State → Prop} {D : va_G} {cI cR cS cL : ClassId} {o : Nat → Nat} {v : Nat → Nat → Nat} {tl : va_W} {A : Nat → Prop} {b : Nat} {H : Heap} {locs : List Loc} {ls : Array Slot} {x : Nat → Nat → Nat} {f : Nat} (C : ya_B p s m args c D cI cR cS cL v A b) (hP : va_P D vwCl (wO o cI cR cS x v tl) H) (hf : f < 5) (hl : lv_has ls 11 [(7, .int (nI f)), (6, .int (nI 1)), (1, .int (nI (v 0 0))), (2, .int (nI ((v 0 0) / 2))), (3, .int (nI 0)), (4, .int (nI 0)), (5, .int (nI 0)), (0, .ref (o 0))]) (K : ∀ ls, lv_has ls 11 [(7, .int (nI (f + 1))), (6, .int (nI 1)), (1, .int (nI (v 0 0))), (2, .int (nI ((v 0 0) / 2))), (3, .int (nI 0)), (4, .int (nI 0)), (5, .int (nI 0)), (0, .ref (o 0))] → W p l e ({ frames := 4, cells := 0, slots := 0, locals := 88 } : Room) s m args below meth c H locs 0 0 Q (F0 m 100 ls [])) : W p l e ({ frames := 4, cells := 0, slots := 0, locals := 88 } : Room) s m args below meth c H locs 0 0 Q (F0 m 100 ls []) := by
  obtain ⟨hx, hb, hml, hown, hts, hK, hN, hA, hI, hb27⟩ := C
  have hSI := hI.1
  have hb28 : b < 2 ^ 28 := by omega
  have hn0 : v 0 0 < 2 ^ 29 := by have := hSI.1.1; omega
  obtain ⟨n1, n2, n3, n4⟩ := qa_note hI hf
  have hfv : v 1 f < 100 := hI.2.2.1.1 f hf
  by_cases hp : v 0 0 % 2 = 1 <;> by_cases h16 : v 0 0 / 2 < 16
  · skip
    refine lv_iload hx hb dL_board_100 (lv_at hl 0 rfl) ?_
    refine o_const (k := 5) hx hb dL_board_102 (by decide) ?_
    refine o_icmp_ge (tgt := 203) hx hb dL_board_103 (by decide) (by omega) (Nat.le_of_ble_eq_true rfl) (fun z => absurd z (by omega)) (fun _ => ?_)
    refine lv_iload hx hb dL_board_106 (lv_at hl 1 rfl) ?_
    refine o_if_eq (tgt := 203) hx hb dL_board_108 (by decide) (Nat.le_of_ble_eq_true rfl) (fun z => absurd z (by decide)) (fun _ => ?_)
    refine lv_iload_n hx hb dL_board_111 rfl (lv_at hl 2 rfl) ?_
    refine o_const (k := 2) hx hb dL_board_112 (by decide) ?_
    refine o_irem (a := (v 0 0)) (b := 2) (k := ((v 0 0) % 2)) hx hb dL_board_113 (by omega) (by decide) (Nat.le_of_ble_eq_true rfl) rfl ?_
    refine o_const (k := 1) hx hb dL_board_114 (by decide) ?_
    refine o_icmp_eq (tgt := 134) hx hb dL_board_115 (by decide) (by omega) (Nat.le_of_ble_eq_true rfl) (fun _ => ?_) (fun z => absurd z (by omega))
    refine lv_aload_n hx hb dL_board_134 rfl (lv_at hl 7 rfl) ?_
    refine lv_iload_n hx hb dL_board_135 rfl (lv_at hl 3 rfl) ?_
    refine o_const (k := 1) hx hb dL_board_136 (by decide) ?_
    refine o_iadd (a := ((v 0 0) / 2)) (b := 1) (k := ((v 0 0) / 2 + 1)) hx hb dL_board_137 rfl ?_
    refine lv_iload hx hb dL_board_138 (lv_at hl 0 rfl) ?_
    refine o_ri (va_runV (As := [.int (nI ((v 0 0) / 2 + 1)), .int (nI f)]) (rest := []) ⟨hx, hb, hml, hown, hts⟩ (k_X4_notice l D cI cR cS cL o x v tl b ((v 0 0) / 2 + 1) f hSI hb28 (by omega) (by omega)) (cwV 2 hts gL_board_X4_notice rfl rfl rfl (by decide +kernel) ⟨Nat.le_of_ble_eq_true rfl, Nat.le_of_ble_eq_true rfl⟩) (o_v (o_pR hK hN hP) (va_recv hK hP (ci := 4) (q0 := 0) rfl rfl)) rfl rfl hl.1 rfl (lv_room (Nat.le_of_ble_eq_true rfl)) dL_board_140 ⟨Nat.zero_le _, Nat.zero_le _⟩) (fun r1 e1 => ?_)
    have e1 : r1 = nI (b_kv v ((v 0 0) / 2 + 1) f) := e1
    subst e1
    refine o_ti (show nI (b_kv v ((v 0 0) / 2 + 1) f) = nI 4294967295 from congrArg nI n2) ?_
    refine o_const (k := 4294967295) hx hb dL_board_143 (by decide) ?_
    refine o_icmp_ne (tgt := 194) hx hb dL_board_144 (by decide) (Nat.le_of_ble_eq_true rfl) (Nat.le_of_ble_eq_true rfl) (fun z => absurd z (by decide)) (fun _ => ?_)
    refine lv_aload_n hx hb dL_board_147 rfl (lv_at hl 7 rfl) ?_
    refine lv_iload_n hx hb dL_board_148 rfl (lv_at hl 3 rfl) ?_
    refine lv_iload hx hb dL_board_149 (lv_at hl 0 rfl) ?_
    refine o_ri (va_runV (As := [.int (nI ((v 0 0) / 2)), .int (nI f)]) (rest := []) ⟨hx, hb, hml, hown, hts⟩ (k_X4_notice l D cI cR cS cL o x v tl b ((v 0 0) / 2) f hSI hb28 (by omega) (by omega)) (cwV 2 hts gL_board_X4_notice rfl rfl rfl (by decide +kernel) ⟨Nat.le_of_ble_eq_true rfl, Nat.le_of_ble_eq_true rfl⟩) (o_v (o_pR hK hN hP) (va_recv hK hP (ci := 4) (q0 := 0) rfl rfl)) rfl rfl hl.1 rfl (lv_room (Nat.le_of_ble_eq_true rfl)) dL_board_151 ⟨Nat.zero_le _, Nat.zero_le _⟩) (fun r1 e1 => ?_)
    have e1 : r1 = nI (b_kv v ((v 0 0) / 2) f) := e1
    subst e1
    refine o_if_lt (tgt := 194) hx hb dL_board_154 (by decide) (by omega) ?_
    refine lv_iload_n hx hb dL_board_157 rfl (lv_at hl 3 rfl) ?_
    refine o_bipush (k := 16) hx hb dL_board_158 (by decide) ?_
    refine o_icmp_lt (tgt := 190) hx hb dL_board_160 (by decide) (by omega) (Nat.le_of_ble_eq_true rfl) (fun _ => ?_) (fun z => absurd z (by omega))
    refine o_const (k := 1) hx hb dL_board_190 (by decide) ?_
    refine lv_goto (tgt := 195) hx hb dL_board_191 (by decide) ?_
    refine lv_istore (lv' := [(6, .int (nI 1)), (7, .int (nI f)), (1, .int (nI (v 0 0))), (2, .int (nI ((v 0 0) / 2))), (3, .int (nI 0)), (4, .int (nI 0)), (5, .int (nI 0)), (0, .ref (o 0))]) hx hb dL_board_195 hl (by decide) rfl (fun ls hl => ?_)
    refine lv_iinc (v := nI (f + 1)) (lv' := [(7, .int (nI (f + 1))), (6, .int (nI 1)), (1, .int (nI (v 0 0))), (2, .int (nI ((v 0 0) / 2))), (3, .int (nI 0)), (4, .int (nI 0)), (5, .int (nI 0)), (0, .ref (o 0))]) hx hb dL_board_197 hl (k := 1) rfl (o_inc1 _) (by decide) rfl (fun ls hl => ?_)
    refine lv_goto (tgt := 100) hx hb dL_board_200 (by decide) ?_
    exact K ls (lv_sub hl [0, 1, 2, 3, 4, 5, 6, 7] rfl)
  · skip
    obtain ⟨n5, n6⟩ := n4 (by omega)
    refine lv_iload hx hb dL_board_100 (lv_at hl 0 rfl) ?_
    refine o_const (k := 5) hx hb dL_board_102 (by decide) ?_
    refine o_icmp_ge (tgt := 203) hx hb dL_board_103 (by decide) (by omega) (Nat.le_of_ble_eq_true rfl) (fun z => absurd z (by omega)) (fun _ => ?_)
    refine lv_iload hx hb dL_board_106 (lv_at hl 1 rfl) ?_
    refine o_if_eq (tgt := 203) hx hb dL_board_108 (by decide) (Nat.le_of_ble_eq_true rfl) (fun z => absurd z (by decide)) (fun _ => ?_)
    refine lv_iload_n hx hb dL_board_111 rfl (lv_at hl 2 rfl) ?_
    refine o_const (k := 2) hx hb dL_board_112 (by decide) ?_
    refine o_irem (a := (v 0 0)) (b := 2) (k := ((v 0 0) % 2)) hx hb dL_board_113 (by omega) (by decide) (Nat.le_of_ble_eq_true rfl) rfl ?_
    refine o_const (k := 1) hx hb dL_board_114 (by decide) ?_
    refine o_icmp_eq (tgt := 134) hx hb dL_board_115 (by decide) (by omega) (Nat.le_of_ble_eq_true rfl) (fun _ => ?_) (fun z => absurd z (by omega))
    refine lv_aload_n hx hb dL_board_134 rfl (lv_at hl 7 rfl) ?_
    refine lv_iload_n hx hb dL_board_135 rfl (lv_at hl 3 rfl) ?_
    refine o_const (k := 1) hx hb dL_board_136 (by decide) ?_
    refine o_iadd (a := ((v 0 0) / 2)) (b := 1) (k := ((v 0 0) / 2 + 1)) hx hb dL_board_137 rfl ?_
    refine lv_iload hx hb dL_board_138 (lv_at hl 0 rfl) ?_
    refine o_ri (va_runV (As := [.int (nI ((v 0 0) / 2 + 1)), .int (nI f)]) (rest := []) ⟨hx, hb, hml, hown, hts⟩ (k_X4_notice l D cI cR cS cL o x v tl b ((v 0 0) / 2 + 1) f hSI hb28 (by omega) (by omega)) (cwV 2 hts gL_board_X4_notice rfl rfl rfl (by decide +kernel) ⟨Nat.le_of_ble_eq_true rfl, Nat.le_of_ble_eq_true rfl⟩) (o_v (o_pR hK hN hP) (va_recv hK hP (ci := 4) (q0 := 0) rfl rfl)) rfl rfl hl.1 rfl (lv_room (Nat.le_of_ble_eq_true rfl)) dL_board_140 ⟨Nat.zero_le _, Nat.zero_le _⟩) (fun r1 e1 => ?_)
    have e1 : r1 = nI (b_kv v ((v 0 0) / 2 + 1) f) := e1
    subst e1
    refine o_ti (show nI (b_kv v ((v 0 0) / 2 + 1) f) = nI 4294967295 from congrArg nI n2) ?_
    refine o_const (k := 4294967295) hx hb dL_board_143 (by decide) ?_
    refine o_icmp_ne (tgt := 194) hx hb dL_board_144 (by decide) (Nat.le_of_ble_eq_true rfl) (Nat.le_of_ble_eq_true rfl) (fun z => absurd z (by decide)) (fun _ => ?_)
    refine lv_aload_n hx hb dL_board_147 rfl (lv_at hl 7 rfl) ?_
    refine lv_iload_n hx hb dL_board_148 rfl (lv_at hl 3 rfl) ?_
    refine lv_iload hx hb dL_board_149 (lv_at hl 0 rfl) ?_
    refine o_ri (va_runV (As := [.int (nI ((v 0 0) / 2)), .int (nI f)]) (rest := []) ⟨hx, hb, hml, hown, hts⟩ (k_X4_notice l D cI cR cS cL o x v tl b ((v 0 0) / 2) f hSI hb28 (by omega) (by omega)) (cwV 2 hts gL_board_X4_notice rfl rfl rfl (by decide +kernel) ⟨Nat.le_of_ble_eq_true rfl, Nat.le_of_ble_eq_true rfl⟩) (o_v (o_pR hK hN hP) (va_recv hK hP (ci := 4) (q0 := 0) rfl rfl)) rfl rfl hl.1 rfl (lv_room (Nat.le_of_ble_eq_true rfl)) dL_board_151 ⟨Nat.zero_le _, Nat.zero_le _⟩) (fun r1 e1 => ?_)
    have e1 : r1 = nI (b_kv v ((v 0 0) / 2) f) := e1
    subst e1
    refine o_if_lt (tgt := 194) hx hb dL_board_154 (by decide) (by omega) ?_
    refine lv_iload_n hx hb dL_board_157 rfl (lv_at hl 3 rfl) ?_
    refine o_bipush (k := 16) hx hb dL_board_158 (by decide) ?_
    refine o_icmp_lt (tgt := 190) hx hb dL_board_160 (by decide) (by omega) (Nat.le_of_ble_eq_true rfl) (fun z => absurd z (by omega)) (fun _ => ?_)
    refine lv_aload_n hx hb dL_board_163 rfl (lv_at hl 7 rfl) ?_
    refine lv_iload_n hx hb dL_board_164 rfl (lv_at hl 3 rfl) ?_
    refine o_bipush (k := 16) hx hb dL_board_165 (by decide) ?_
    refine o_isub (a := ((v 0 0) / 2)) (b := 16) (k := ((v 0 0) / 2 - 16)) hx hb dL_board_167 (by omega) rfl ?_
    refine lv_iload hx hb dL_board_168 (lv_at hl 0 rfl) ?_
    refine o_ri (va_runV (As := [.int (nI ((v 0 0) / 2 - 16)), .int (nI f)]) (rest := []) ⟨hx, hb, hml, hown, hts⟩ (k_X4_notice l D cI cR cS cL o x v tl b ((v 0 0) / 2 - 16) f hSI hb28 (by omega) (by omega)) (cwV 2 hts gL_board_X4_notice rfl rfl rfl (by decide +kernel) ⟨Nat.le_of_ble_eq_true rfl, Nat.le_of_ble_eq_true rfl⟩) (o_v (o_pR hK hN hP) (va_recv hK hP (ci := 4) (q0 := 0) rfl rfl)) rfl rfl hl.1 rfl (lv_room (Nat.le_of_ble_eq_true rfl)) dL_board_170 ⟨Nat.zero_le _, Nat.zero_le _⟩) (fun r1 e1 => ?_)
    have e1 : r1 = nI (b_kv v ((v 0 0) / 2 - 16) f) := e1
    subst e1
    refine o_ti (show nI (b_kv v ((v 0 0) / 2 - 16) f) = nI 4294967295 from congrArg nI n5) ?_
    refine o_const (k := 4294967295) hx hb dL_board_173 (by decide) ?_
    refine o_icmp_ne (tgt := 194) hx hb dL_board_174 (by decide) (Nat.le_of_ble_eq_true rfl) (Nat.le_of_ble_eq_true rfl) (fun z => absurd z (by decide)) (fun _ => ?_)
    refine lv_aload_n hx hb dL_board_177 rfl (lv_at hl 7 rfl) ?_
    refine lv_iload_n hx hb dL_board_178 rfl (lv_at hl 3 rfl) ?_
    refine o_bipush (k := 15) hx hb dL_board_179 (by decide) ?_
    refine o_isub (a := ((v 0 0) / 2)) (b := 15) (k := ((v 0 0) / 2 - 15)) hx hb dL_board_181 (by omega) rfl ?_
    refine lv_iload hx hb dL_board_182 (lv_at hl 0 rfl) ?_
    refine o_ri (va_runV (As := [.int (nI ((v 0 0) / 2 - 15)), .int (nI f)]) (rest := []) ⟨hx, hb, hml, hown, hts⟩ (k_X4_notice l D cI cR cS cL o x v tl b ((v 0 0) / 2 - 15) f hSI hb28 (by omega) (by omega)) (cwV 2 hts gL_board_X4_notice rfl rfl rfl (by decide +kernel) ⟨Nat.le_of_ble_eq_true rfl, Nat.le_of_ble_eq_true rfl⟩) (o_v (o_pR hK hN hP) (va_recv hK hP (ci := 4) (q0 := 0) rfl rfl)) rfl rfl hl.1 rfl (lv_room (Nat.le_of_ble_eq_true rfl)) dL_board_184 ⟨Nat.zero_le _, Nat.zero_le _⟩) (fun r1 e1 => ?_)
    have e1 : r1 = nI (b_kv v ((v 0 0) / 2 - 15) f) := e1
    subst e1
    refine o_if_lt (tgt := 194) hx hb dL_board_187 (by decide) (by omega) ?_
    refine o_const (k := 1) hx hb dL_board_190 (by decide) ?_
    refine lv_goto (tgt := 195) hx hb dL_board_191 (by decide) ?_
    refine lv_istore (lv' := [(6, .int (nI 1)), (7, .int (nI f)), (1, .int (nI (v 0 0))), (2, .int (nI ((v 0 0) / 2))), (3, .int (nI 0)), (4, .int (nI 0)), (5, .int (nI 0)), (0, .ref (o 0))]) hx hb dL_board_195 hl (by decide) rfl (fun ls hl => ?_)
    refine lv_iinc (v := nI (f + 1)) (lv' := [(7, .int (nI (f + 1))), (6, .int (nI 1)), (1, .int (nI (v 0 0))), (2, .int (nI ((v 0 0) / 2))), (3, .int (nI 0)), (4, .int (nI 0)), (5, .int (nI 0)), (0, .ref (o 0))]) hx hb dL_board_197 hl (k := 1) rfl (o_inc1 _) (by decide) rfl (fun ls hl => ?_)
    refine lv_goto (tgt := 100) hx hb dL_board_200 (by decide) ?_
    exact K ls (lv_sub hl [0, 1, 2, 3, 4, 5, 6, 7] rfl)
  · skip
    have n1 := n1 (by omega)
    refine lv_iload hx hb dL_board_100 (lv_at hl 0 rfl) ?_
    refine o_const (k := 5) hx hb dL_board_102 (by decide) ?_
    refine o_icmp_ge (tgt := 203) hx hb dL_board_103 (by decide) (by omega) (Nat.le_of_ble_eq_true rfl) (fun z => absurd z (by omega)) (fun _ => ?_)
    refine lv_iload hx hb dL_board_106 (lv_at hl 1 rfl) ?_
    refine o_if_eq (tgt := 203) hx hb dL_board_108 (by decide) (Nat.le_of_ble_eq_true rfl) (fun z => absurd z (by decide)) (fun _ => ?_)
    refine lv_iload_n hx hb dL_board_111 rfl (lv_at hl 2 rfl) ?_
    refine o_const (k := 2) hx hb dL_board_112 (by decide) ?_
    refine o_irem (a := (v 0 0)) (b := 2) (k := ((v 0 0) % 2)) hx hb dL_board_113 (by omega) (by decide) (Nat.le_of_ble_eq_true rfl) rfl ?_
    refine o_const (k := 1) hx hb dL_board_114 (by decide) ?_
    refine o_icmp_eq (tgt := 134) hx hb dL_board_115 (by decide) (by omega) (Nat.le_of_ble_eq_true rfl) (fun z => absurd z (by omega)) (fun _ => ?_)
    refine lv_aload_n hx hb dL_board_118 rfl (lv_at hl 7 rfl) ?_
    refine lv_iload_n hx hb dL_board_119 rfl (lv_at hl 3 rfl) ?_
    refine lv_iload hx hb dL_board_120 (lv_at hl 0 rfl) ?_
    refine o_ri (va_runV (As := [.int (nI ((v 0 0) / 2)), .int (nI f)]) (rest := []) ⟨hx, hb, hml, hown, hts⟩ (k_X4_notice l D cI cR cS cL o x v tl b ((v 0 0) / 2) f hSI hb28 (by omega) (by omega)) (cwV 2 hts gL_board_X4_notice rfl rfl rfl (by decide +kernel) ⟨Nat.le_of_ble_eq_true rfl, Nat.le_of_ble_eq_true rfl⟩) (o_v (o_pR hK hN hP) (va_recv hK hP (ci := 4) (q0 := 0) rfl rfl)) rfl rfl hl.1 rfl (lv_room (Nat.le_of_ble_eq_true rfl)) dL_board_122 ⟨Nat.zero_le _, Nat.zero_le _⟩) (fun r1 e1 => ?_)
    have e1 : r1 = nI (b_kv v ((v 0 0) / 2) f) := e1
    subst e1
    refine lv_aload_n hx hb dL_board_125 rfl (lv_at hl 7 rfl) ?_
    refine lv_iload hx hb dL_board_126 (lv_at hl 0 rfl) ?_
    refine o_ri (va_runV (As := [.int (nI f)]) (rest := [.int (nI (b_kv v ((v 0 0) / 2) f))]) ⟨hx, hb, hml, hown, hts⟩ (k_X4_field l D cI cR cS cL o x v tl b f (by omega)) (cwV 1 hts gL_board_X4_field rfl rfl rfl (by decide +kernel) ⟨Nat.le_of_ble_eq_true rfl, Nat.le_of_ble_eq_true rfl⟩) (o_v (o_pR hK hN hP) (va_recv hK hP (ci := 4) (q0 := 0) rfl rfl)) rfl rfl hl.1 rfl (lv_room (Nat.le_of_ble_eq_true rfl)) dL_board_128 ⟨Nat.zero_le _, Nat.zero_le _⟩) (fun r1 e1 => ?_)
    have e1 : r1 = nI (v 1 f) := e1
    subst e1
    refine o_icmp_ne (tgt := 194) hx hb dL_board_131 (by decide) (by omega) (by omega) (fun z => absurd z (by omega)) (fun _ => ?_)
    refine lv_aload_n hx hb dL_board_134 rfl (lv_at hl 7 rfl) ?_
    refine lv_iload_n hx hb dL_board_135 rfl (lv_at hl 3 rfl) ?_
    refine o_const (k := 1) hx hb dL_board_136 (by decide) ?_
    refine o_iadd (a := ((v 0 0) / 2)) (b := 1) (k := ((v 0 0) / 2 + 1)) hx hb dL_board_137 rfl ?_
    refine lv_iload hx hb dL_board_138 (lv_at hl 0 rfl) ?_
    refine o_ri (va_runV (As := [.int (nI ((v 0 0) / 2 + 1)), .int (nI f)]) (rest := []) ⟨hx, hb, hml, hown, hts⟩ (k_X4_notice l D cI cR cS cL o x v tl b ((v 0 0) / 2 + 1) f hSI hb28 (by omega) (by omega)) (cwV 2 hts gL_board_X4_notice rfl rfl rfl (by decide +kernel) ⟨Nat.le_of_ble_eq_true rfl, Nat.le_of_ble_eq_true rfl⟩) (o_v (o_pR hK hN hP) (va_recv hK hP (ci := 4) (q0 := 0) rfl rfl)) rfl rfl hl.1 rfl (lv_room (Nat.le_of_ble_eq_true rfl)) dL_board_140 ⟨Nat.zero_le _, Nat.zero_le _⟩) (fun r1 e1 => ?_)
    have e1 : r1 = nI (b_kv v ((v 0 0) / 2 + 1) f) := e1
    subst e1
    refine o_ti (show nI (b_kv v ((v 0 0) / 2 + 1) f) = nI 4294967295 from congrArg nI n2) ?_
    refine o_const (k := 4294967295) hx hb dL_board_143 (by decide) ?_
    refine o_icmp_ne (tgt := 194) hx hb dL_board_144 (by decide) (Nat.le_of_ble_eq_true rfl) (Nat.le_of_ble_eq_true rfl) (fun z => absurd z (by decide)) (fun _ => ?_)
    refine lv_aload_n hx hb dL_board_147 rfl (lv_at hl 7 rfl) ?_
    refine lv_iload_n hx hb dL_board_148 rfl (lv_at hl 3 rfl) ?_
    refine lv_iload hx hb dL_board_149 (lv_at hl 0 rfl) ?_
    refine o_ri (va_runV (As := [.int (nI ((v 0 0) / 2)), .int (nI f)]) (rest := []) ⟨hx, hb, hml, hown, hts⟩ (k_X4_notice l D cI cR cS cL o x v tl b ((v 0 0) / 2) f hSI hb28 (by omega) (by omega)) (cwV 2 hts gL_board_X4_notice rfl rfl rfl (by decide +kernel) ⟨Nat.le_of_ble_eq_true rfl, Nat.le_of_ble_eq_true rfl⟩) (o_v (o_pR hK hN hP) (va_recv hK hP (ci := 4) (q0 := 0) rfl rfl)) rfl rfl hl.1 rfl (lv_room (Nat.le_of_ble_eq_true rfl)) dL_board_151 ⟨Nat.zero_le _, Nat.zero_le _⟩) (fun r1 e1 => ?_)
    have e1 : r1 = nI (b_kv v ((v 0 0) / 2) f) := e1
    subst e1
    refine o_if_lt (tgt := 194) hx hb dL_board_154 (by decide) (by omega) ?_
    refine lv_iload_n hx hb dL_board_157 rfl (lv_at hl 3 rfl) ?_
    refine o_bipush (k := 16) hx hb dL_board_158 (by decide) ?_
    refine o_icmp_lt (tgt := 190) hx hb dL_board_160 (by decide) (by omega) (Nat.le_of_ble_eq_true rfl) (fun _ => ?_) (fun z => absurd z (by omega))
    refine o_const (k := 1) hx hb dL_board_190 (by decide) ?_
    refine lv_goto (tgt := 195) hx hb dL_board_191 (by decide) ?_
    refine lv_istore (lv' := [(6, .int (nI 1)), (7, .int (nI f)), (1, .int (nI (v 0 0))), (2, .int (nI ((v 0 0) / 2))), (3, .int (nI 0)), (4, .int (nI 0)), (5, .int (nI 0)), (0, .ref (o 0))]) hx hb dL_board_195 hl (by decide) rfl (fun ls hl => ?_)
    refine lv_iinc (v := nI (f + 1)) (lv' := [(7, .int (nI (f + 1))), (6, .int (nI 1)), (1, .int (nI (v 0 0))), (2, .int (nI ((v 0 0) / 2))), (3, .int (nI 0)), (4, .int (nI 0)), (5, .int (nI 0)), (0, .ref (o 0))]) hx hb dL_board_197 hl (k := 1) rfl (o_inc1 _) (by decide) rfl (fun ls hl => ?_)
    refine lv_goto (tgt := 100) hx hb dL_board_200 (by decide) ?_
    exact K ls (lv_sub hl [0, 1, 2, 3, 4, 5, 6, 7] rfl)
  · skip
    have n1 := n1 (by omega)
    obtain ⟨n5, n6⟩ := n4 (by omega)
    refine lv_iload hx hb dL_board_100 (lv_at hl 0 rfl) ?_
    refine o_const (k := 5) hx hb dL_board_102 (by decide) ?_
    refine o_icmp_ge (tgt := 203) hx hb dL_board_103 (by decide) (by omega) (Nat.le_of_ble_eq_true rfl) (fun z => absurd z (by omega)) (fun _ => ?_)
    refine lv_iload hx hb dL_board_106 (lv_at hl 1 rfl) ?_
    refine o_if_eq (tgt := 203) hx hb dL_board_108 (by decide) (Nat.le_of_ble_eq_true rfl) (fun z => absurd z (by decide)) (fun _ => ?_)
    refine lv_iload_n hx hb dL_board_111 rfl (lv_at hl 2 rfl) ?_
    refine o_const (k := 2) hx hb dL_board_112 (by decide) ?_
    refine o_irem (a := (v 0 0)) (b := 2) (k := ((v 0 0) % 2)) hx hb dL_board_113 (by omega) (by decide) (Nat.le_of_ble_eq_true rfl) rfl ?_
    refine o_const (k := 1) hx hb dL_board_114 (by decide) ?_
    refine o_icmp_eq (tgt := 134) hx hb dL_board_115 (by decide) (by omega) (Nat.le_of_ble_eq_true rfl) (fun z => absurd z (by omega)) (fun _ => ?_)
    refine lv_aload_n hx hb dL_board_118 rfl (lv_at hl 7 rfl) ?_
    refine lv_iload_n hx hb dL_board_119 rfl (lv_at hl 3 rfl) ?_
    refine lv_iload hx hb dL_board_120 (lv_at hl 0 rfl) ?_
    refine o_ri (va_runV (As := [.int (nI ((v 0 0) / 2)), .int (nI f)]) (rest := []) ⟨hx, hb, hml, hown, hts⟩ (k_X4_notice l D cI cR cS cL o x v tl b ((v 0 0) / 2) f hSI hb28 (by omega) (by omega)) (cwV 2 hts gL_board_X4_notice rfl rfl rfl (by decide +kernel) ⟨Nat.le_of_ble_eq_true rfl, Nat.le_of_ble_eq_true rfl⟩) (o_v (o_pR hK hN hP) (va_recv hK hP (ci := 4) (q0 := 0) rfl rfl)) rfl rfl hl.1 rfl (lv_room (Nat.le_of_ble_eq_true rfl)) dL_board_122 ⟨Nat.zero_le _, Nat.zero_le _⟩) (fun r1 e1 => ?_)
    have e1 : r1 = nI (b_kv v ((v 0 0) / 2) f) := e1
    subst e1
    refine lv_aload_n hx hb dL_board_125 rfl (lv_at hl 7 rfl) ?_
    refine lv_iload hx hb dL_board_126 (lv_at hl 0 rfl) ?_
    refine o_ri (va_runV (As := [.int (nI f)]) (rest := [.int (nI (b_kv v ((v 0 0) / 2) f))]) ⟨hx, hb, hml, hown, hts⟩ (k_X4_field l D cI cR cS cL o x v tl b f (by omega)) (cwV 1 hts gL_board_X4_field rfl rfl rfl (by decide +kernel) ⟨Nat.le_of_ble_eq_true rfl, Nat.le_of_ble_eq_true rfl⟩) (o_v (o_pR hK hN hP) (va_recv hK hP (ci := 4) (q0 := 0) rfl rfl)) rfl rfl hl.1 rfl (lv_room (Nat.le_of_ble_eq_true rfl)) dL_board_128 ⟨Nat.zero_le _, Nat.zero_le _⟩) (fun r1 e1 => ?_)
    have e1 : r1 = nI (v 1 f) := e1
    subst e1
    refine o_icmp_ne (tgt := 194) hx hb dL_board_131 (by decide) (by omega) (by omega) (fun z => absurd z (by omega)) (fun _ => ?_)
    refine lv_aload_n hx hb dL_board_134 rfl (lv_at hl 7 rfl) ?_
    refine lv_iload_n hx hb dL_board_135 rfl (lv_at hl 3 rfl) ?_
    refine o_const (k := 1) hx hb dL_board_136 (by decide) ?_
    refine o_iadd (a := ((v 0 0) / 2)) (b := 1) (k := ((v 0 0) / 2 + 1)) hx hb dL_board_137 rfl ?_
    refine lv_iload hx hb dL_board_138 (lv_at hl 0 rfl) ?_
    refine o_ri (va_runV (As := [.int (nI ((v 0 0) / 2 + 1)), .int (nI f)]) (rest := []) ⟨hx, hb, hml, hown, hts⟩ (k_X4_notice l D cI cR cS cL o x v tl b ((v 0 0) / 2 + 1) f hSI hb28 (by omega) (by omega)) (cwV 2 hts gL_board_X4_notice rfl rfl rfl (by decide +kernel) ⟨Nat.le_of_ble_eq_true rfl, Nat.le_of_ble_eq_true rfl⟩) (o_v (o_pR hK hN hP) (va_recv hK hP (ci := 4) (q0 := 0) rfl rfl)) rfl rfl hl.1 rfl (lv_room (Nat.le_of_ble_eq_true rfl)) dL_board_140 ⟨Nat.zero_le _, Nat.zero_le _⟩) (fun r1 e1 => ?_)
    have e1 : r1 = nI (b_kv v ((v 0 0) / 2 + 1) f) := e1
    subst e1
    refine o_ti (show nI (b_kv v ((v 0 0) / 2 + 1) f) = nI 4294967295 from congrArg nI n2) ?_
    refine o_const (k := 4294967295) hx hb dL_board_143 (by decide) ?_
    refine o_icmp_ne (tgt := 194) hx hb dL_board_144 (by decide) (Nat.le_of_ble_eq_true rfl) (Nat.le_of_ble_eq_true rfl) (fun z => absurd z (by decide)) (fun _ => ?_)
    refine lv_aload_n hx hb dL_board_147 rfl (lv_at hl 7 rfl) ?_
    refine lv_iload_n hx hb dL_board_148 rfl (lv_at hl 3 rfl) ?_
    refine lv_iload hx hb dL_board_149 (lv_at hl 0 rfl) ?_
    refine o_ri (va_runV (As := [.int (nI ((v 0 0) / 2)), .int (nI f)]) (rest := []) ⟨hx, hb, hml, hown, hts⟩ (k_X4_notice l D cI cR cS cL o x v tl b ((v 0 0) / 2) f hSI hb28 (by omega) (by omega)) (cwV 2 hts gL_board_X4_notice rfl rfl rfl (by decide +kernel) ⟨Nat.le_of_ble_eq_true rfl, Nat.le_of_ble_eq_true rfl⟩) (o_v (o_pR hK hN hP) (va_recv hK hP (ci := 4) (q0 := 0) rfl rfl)) rfl rfl hl.1 rfl (lv_room (Nat.le_of_ble_eq_true rfl)) dL_board_151 ⟨Nat.zero_le _, Nat.zero_le _⟩) (fun r1 e1 => ?_)
    have e1 : r1 = nI (b_kv v ((v 0 0) / 2) f) := e1
    subst e1
    refine o_if_lt (tgt := 194) hx hb dL_board_154 (by decide) (by omega) ?_
    refine lv_iload_n hx hb dL_board_157 rfl (lv_at hl 3 rfl) ?_
    refine o_bipush (k := 16) hx hb dL_board_158 (by decide) ?_
    refine o_icmp_lt (tgt := 190) hx hb dL_board_160 (by decide) (by omega) (Nat.le_of_ble_eq_true rfl) (fun z => absurd z (by omega)) (fun _ => ?_)
    refine lv_aload_n hx hb dL_board_163 rfl (lv_at hl 7 rfl) ?_
    refine lv_iload_n hx hb dL_board_164 rfl (lv_at hl 3 rfl) ?_
    refine o_bipush (k := 16) hx hb dL_board_165 (by decide) ?_
    refine o_isub (a := ((v 0 0) / 2)) (b := 16) (k := ((v 0 0) / 2 - 16)) hx hb dL_board_167 (by omega) rfl ?_
    refine lv_iload hx hb dL_board_168 (lv_at hl 0 rfl) ?_
    refine o_ri (va_runV (As := [.int (nI ((v 0 0) / 2 - 16)), .int (nI f)]) (rest := []) ⟨hx, hb, hml, hown, hts⟩ (k_X4_notice l D cI cR cS cL o x v tl b ((v 0 0) / 2 - 16) f hSI hb28 (by omega) (by omega)) (cwV 2 hts gL_board_X4_notice rfl rfl rfl (by decide +kernel) ⟨Nat.le_of_ble_eq_true rfl, Nat.le_of_ble_eq_true rfl⟩) (o_v (o_pR hK hN hP) (va_recv hK hP (ci := 4) (q0 := 0) rfl rfl)) rfl rfl hl.1 rfl (lv_room (Nat.le_of_ble_eq_true rfl)) dL_board_170 ⟨Nat.zero_le _, Nat.zero_le _⟩) (fun r1 e1 => ?_)
    have e1 : r1 = nI (b_kv v ((v 0 0) / 2 - 16) f) := e1
    subst e1
    refine o_ti (show nI (b_kv v ((v 0 0) / 2 - 16) f) = nI 4294967295 from congrArg nI n5) ?_
    refine o_const (k := 4294967295) hx hb dL_board_173 (by decide) ?_
    refine o_icmp_ne (tgt := 194) hx hb dL_board_174 (by decide) (Nat.le_of_ble_eq_true rfl) (Nat.le_of_ble_eq_true rfl) (fun z => absurd z (by decide)) (fun _ => ?_)
    refine lv_aload_n hx hb dL_board_177 rfl (lv_at hl 7 rfl) ?_
    refine lv_iload_n hx hb dL_board_178 rfl (lv_at hl 3 rfl) ?_
    refine o_bipush (k := 15) hx hb dL_board_179 (by decide) ?_
    refine o_isub (a := ((v 0 0) / 2)) (b := 15) (k := ((v 0 0) / 2 - 15)) hx hb dL_board_181 (by omega) rfl ?_
    refine lv_iload hx hb dL_board_182 (lv_at hl 0 rfl) ?_
    refine o_ri (va_runV (As := [.int (nI ((v 0 0) / 2 - 15)), .int (nI f)]) (rest := []) ⟨hx, hb, hml, hown, hts⟩ (k_X4_notice l D cI cR cS cL o x v tl b ((v 0 0) / 2 - 15) f hSI hb28 (by omega) (by omega)) (cwV 2 hts gL_board_X4_notice rfl rfl rfl (by decide +kernel) ⟨Nat.le_of_ble_eq_true rfl, Nat.le_of_ble_eq_true rfl⟩) (o_v (o_pR hK hN hP) (va_recv hK hP (ci := 4) (q0 := 0) rfl rfl)) rfl rfl hl.1 rfl (lv_room (Nat.le_of_ble_eq_true rfl)) dL_board_184 ⟨Nat.zero_le _, Nat.zero_le _⟩) (fun r1 e1 => ?_)
    have e1 : r1 = nI (b_kv v ((v 0 0) / 2 - 15) f) := e1
    subst e1
    refine o_if_lt (tgt := 194) hx hb dL_board_187 (by decide) (by omega) ?_
    refine o_const (k := 1) hx hb dL_board_190 (by decide) ?_
    refine lv_goto (tgt := 195) hx hb dL_board_191 (by decide) ?_
    refine lv_istore (lv' := [(6, .int (nI 1)), (7, .int (nI f)), (1, .int (nI (v 0 0))), (2, .int (nI ((v 0 0) / 2))), (3, .int (nI 0)), (4, .int (nI 0)), (5, .int (nI 0)), (0, .ref (o 0))]) hx hb dL_board_195 hl (by decide) rfl (fun ls hl => ?_)
    refine lv_iinc (v := nI (f + 1)) (lv' := [(7, .int (nI (f + 1))), (6, .int (nI 1)), (1, .int (nI (v 0 0))), (2, .int (nI ((v 0 0) / 2))), (3, .int (nI 0)), (4, .int (nI 0)), (5, .int (nI 0)), (0, .ref (o 0))]) hx hb dL_board_197 hl (k := 1) rfl (o_inc1 _) (by decide) rfl (fun ls hl => ?_)
    refine lv_goto (tgt := 100) hx hb dL_board_200 (by decide) ?_
    exact K ls (lv_sub hl [0, 1, 2, 3, 4, 5, 6, 7] rfl)
set_option maxHeartbeats 4000000 in
set_option maxRecDepth 100000 in
theorem ya_fx {p : Program} {l : Launch} {e : Env} {s : State} {m : MethodId} {args : Array Value} {below : List Frame} {meth : Method} {c : Code} {Q : State → Prop} {D : va_G} {cI cR cS cL : ClassId} {o : Nat → Nat} {v : Nat → Nat → Nat} {tl : va_W} {A : Nat → Prop} {b : Nat} {H : Heap} {locs : List Loc} {ls : Array Slot} {x : Nat → Nat → Nat} (C : ya_B p s m args c D cI cR cS cL v A b) (hl : lv_has ls 11 [(7, .int (nI 5)), (6, .int (nI 1)), (1, .int (nI (v 0 0))), (2, .int (nI ((v 0 0) / 2))), (3, .int (nI 0)), (4, .int (nI 0)), (5, .int (nI 0)), (0, .ref (o 0))]) (K : ∀ ls, lv_has ls 11 [(7, .int (nI 0)), (6, .int (nI 1)), (1, .int (nI (v 0 0))), (2, .int (nI ((v 0 0) / 2))), (3, .int (nI 0)), (4, .int (nI 0)), (5, .int (nI 0)), (0, .ref (o 0))] → W p l e ({ frames := 4, cells := 0, slots := 0, locals := 88 } : Room) s m args below meth c H locs 0 0 Q (F0 m 206 ls [])) : W p l e ({ frames := 4, cells := 0, slots := 0, locals := 88 } : Room) s m args below meth c H locs 0 0 Q (F0 m 100 ls []) := by
  obtain ⟨hx, hb, hml, hown, hts, hK, hN, hA, hI, hb27⟩ := C
  have hSI := hI.1
  have hb28 : b < 2 ^ 28 := by omega
  have hn0 : v 0 0 < 2 ^ 29 := by have := hSI.1.1; omega
  refine lv_iload hx hb dL_board_100 (lv_at hl 0 rfl) ?_
  refine o_const (k := 5) hx hb dL_board_102 (by decide) ?_
  refine o_icmp_ge (tgt := 203) hx hb dL_board_103 (by decide) (Nat.le_of_ble_eq_true rfl) (Nat.le_of_ble_eq_true rfl) (fun _ => ?_) (fun z => absurd z (by decide))
  refine o_const (k := 0) hx hb dL_board_203 (by decide) ?_
  refine lv_istore (lv' := [(7, .int (nI 0)), (6, .int (nI 1)), (1, .int (nI (v 0 0))), (2, .int (nI ((v 0 0) / 2))), (3, .int (nI 0)), (4, .int (nI 0)), (5, .int (nI 0)), (0, .ref (o 0))]) hx hb dL_board_204 hl (by decide) rfl (fun ls hl => ?_)
  exact K ls (lv_sub hl [0, 1, 2, 3, 4, 5, 6, 7] rfl)
set_option maxHeartbeats 4000000 in
set_option maxRecDepth 100000 in
theorem ya_c {p : Program} {l : Launch} {e : Env} {s : State} {m : MethodId} {args : Array Value} {below : List Frame} {meth : Method} {c : Code} {Q : State → Prop} {D : va_G} {cI cR cS cL : ClassId} {o : Nat → Nat} {v : Nat → Nat → Nat} {tl : va_W} {A : Nat → Prop} {b : Nat} {H : Heap} {locs : List Loc} {ls : Array Slot} {x : Nat → Nat → Nat} {k : Nat} (C : ya_B p s m args c D cI cR cS cL v A b) (hP : va_P D vwCl (wO o cI cR cS x v tl) H) (hk : k < 3) (hl : lv_has ls 11 [(7, .int (nI k)), (6, .int (nI 1)), (1, .int (nI (v 0 0))), (2, .int (nI ((v 0 0) / 2))), (3, .int (nI 0)), (4, .int (nI 0)), (5, .int (nI 0)), (0, .ref (o 0))]) (K : ∀ ls, lv_has ls 11 [(7, .int (nI (k + 1))), (6, .int (nI 1)), (1, .int (nI (v 0 0))), (2, .int (nI ((v 0 0) / 2))), (3, .int (nI 0)), (4, .int (nI 0)), (5, .int (nI 0)), (0, .ref (o 0))] → W p l e ({ frames := 4, cells := 0, slots := 0, locals := 88 } : Room) s m args below meth c H locs 0 0 Q (F0 m 206 ls [])) : W p l e ({ frames := 4, cells := 0, slots := 0, locals := 88 } : Room) s m args below meth c H locs 0 0 Q (F0 m 206 ls []) := by
  obtain ⟨hx, hb, hml, hown, hts, hK, hN, hA, hI, hb27⟩ := C
  have hSI := hI.1
  have hb28 : b < 2 ^ 28 := by omega
  have hn0 : v 0 0 < 2 ^ 29 := by have := hSI.1.1; omega
  have hwb : b_who (v 3) < 2 ^ 32 := by rcases qa_who hI.2.1 with ⟨_, h, _⟩ | ⟨_, h, _⟩ <;> omega
  rcases qa_doing hI.2.1 hk with ⟨d1, d2⟩ | ⟨d1 | d1, d2⟩
  · skip
    refine lv_iload hx hb dL_board_206 (lv_at hl 0 rfl) ?_
    refine o_const (k := 3) hx hb dL_board_208 (by decide) ?_
    refine o_icmp_ge (tgt := 264) hx hb dL_board_209 (by decide) (by omega) (Nat.le_of_ble_eq_true rfl) (fun z => absurd z (by omega)) (fun _ => ?_)
    refine lv_iload hx hb dL_board_212 (lv_at hl 1 rfl) ?_
    refine o_if_eq (tgt := 264) hx hb dL_board_214 (by decide) (Nat.le_of_ble_eq_true rfl) (fun z => absurd z (by decide)) (fun _ => ?_)
    refine lv_aload_n hx hb dL_board_217 rfl (lv_at hl 7 rfl) ?_
    refine lv_iload hx hb dL_board_218 (lv_at hl 0 rfl) ?_
    refine o_const (k := 0) hx hb dL_board_220 (by decide) ?_
    refine o_ri (va_runV (As := [.int (nI k), .int (nI 0)]) (rest := []) ⟨hx, hb, hml, hown, hts⟩ (k_X4_clerk l D cI cR cS cL o x v tl b k 0 hSI hb28 (by omega) (by omega)) (cwV 2 hts gL_board_X4_clerk rfl rfl rfl (by decide +kernel) ⟨Nat.le_of_ble_eq_true rfl, Nat.le_of_ble_eq_true rfl⟩) (o_v (o_pR hK hN hP) (va_recv hK hP (ci := 4) (q0 := 0) rfl rfl)) rfl rfl hl.1 rfl (lv_room (Nat.le_of_ble_eq_true rfl)) dL_board_221 ⟨Nat.zero_le _, Nat.zero_le _⟩) (fun r1 e1 => ?_)
    have e1 : r1 = nI (c_clk v k 0) := e1
    subst e1
    refine o_ti (show nI (c_clk v k 0) = nI 1 from congrArg nI (show c_clk v k 0 = 1 from d1)) ?_
    refine o_const (k := 1) hx hb dL_board_224 (by decide) ?_
    refine o_icmp_ne (tgt := 232) hx hb dL_board_225 (by decide) (Nat.le_of_ble_eq_true rfl) (Nat.le_of_ble_eq_true rfl) (fun z => absurd z (by decide)) (fun _ => ?_)
    refine o_const (k := 1) hx hb dL_board_228 (by decide) ?_
    refine lv_goto (tgt := 233) hx hb dL_board_229 (by decide) ?_
    refine lv_aload_n hx hb dL_board_233 rfl (lv_at hl 7 rfl) ?_
    refine o_const (k := 1) hx hb dL_board_234 (by decide) ?_
    refine o_ri (va_runV (As := [.int (nI 1)]) (rest := [.int (nI 1)]) ⟨hx, hb, hml, hown, hts⟩ (k_X4_count l D cI cR cS cL o x v tl b 1 hSI hb28 (by omega)) (cwV 1 hts gL_board_X4_count rfl rfl rfl (by decide +kernel) ⟨Nat.le_of_ble_eq_true rfl, Nat.le_of_ble_eq_true rfl⟩) (o_v (o_pR hK hN hP) (va_recv hK hP (ci := 4) (q0 := 0) rfl rfl)) rfl rfl hl.1 rfl (lv_room (Nat.le_of_ble_eq_true rfl)) dL_board_235 ⟨Nat.zero_le _, Nat.zero_le _⟩) (fun r1 e1 => ?_)
    have e1 : r1 = nI (c_cnt v (x 0 4) 1) := e1
    subst e1
    refine o_ti (show nI (c_cnt v (x 0 4) 1) = nI (b_who (v 3)) from congrArg nI rfl) ?_
    refine lv_iload hx hb dL_board_238 (lv_at hl 0 rfl) ?_
    refine o_icmp_ne (tgt := 247) hx hb dL_board_240 (by decide) (by omega) (by omega) (fun z => absurd z (by omega)) (fun _ => ?_)
    refine o_const (k := 1) hx hb dL_board_243 (by decide) ?_
    refine lv_goto (tgt := 248) hx hb dL_board_244 (by decide) ?_
    refine o_icmp_ne (tgt := 255) hx hb dL_board_248 (by decide) (Nat.le_of_ble_eq_true rfl) (Nat.le_of_ble_eq_true rfl) (fun z => absurd z (by decide)) (fun _ => ?_)
    refine o_const (k := 1) hx hb dL_board_251 (by decide) ?_
    refine lv_goto (tgt := 256) hx hb dL_board_252 (by decide) ?_
    refine lv_istore (lv' := [(6, .int (nI 1)), (7, .int (nI k)), (1, .int (nI (v 0 0))), (2, .int (nI ((v 0 0) / 2))), (3, .int (nI 0)), (4, .int (nI 0)), (5, .int (nI 0)), (0, .ref (o 0))]) hx hb dL_board_256 hl (by decide) rfl (fun ls hl => ?_)
    refine lv_iinc (v := nI (k + 1)) (lv' := [(7, .int (nI (k + 1))), (6, .int (nI 1)), (1, .int (nI (v 0 0))), (2, .int (nI ((v 0 0) / 2))), (3, .int (nI 0)), (4, .int (nI 0)), (5, .int (nI 0)), (0, .ref (o 0))]) hx hb dL_board_258 hl (k := 1) rfl (o_inc1 _) (by decide) rfl (fun ls hl => ?_)
    refine lv_goto (tgt := 206) hx hb dL_board_261 (by decide) ?_
    exact K ls (lv_sub hl [0, 1, 2, 3, 4, 5, 6, 7] rfl)
  · skip
    refine lv_iload hx hb dL_board_206 (lv_at hl 0 rfl) ?_
    refine o_const (k := 3) hx hb dL_board_208 (by decide) ?_
    refine o_icmp_ge (tgt := 264) hx hb dL_board_209 (by decide) (by omega) (Nat.le_of_ble_eq_true rfl) (fun z => absurd z (by omega)) (fun _ => ?_)
    refine lv_iload hx hb dL_board_212 (lv_at hl 1 rfl) ?_
    refine o_if_eq (tgt := 264) hx hb dL_board_214 (by decide) (Nat.le_of_ble_eq_true rfl) (fun z => absurd z (by decide)) (fun _ => ?_)
    refine lv_aload_n hx hb dL_board_217 rfl (lv_at hl 7 rfl) ?_
    refine lv_iload hx hb dL_board_218 (lv_at hl 0 rfl) ?_
    refine o_const (k := 0) hx hb dL_board_220 (by decide) ?_
    refine o_ri (va_runV (As := [.int (nI k), .int (nI 0)]) (rest := []) ⟨hx, hb, hml, hown, hts⟩ (k_X4_clerk l D cI cR cS cL o x v tl b k 0 hSI hb28 (by omega) (by omega)) (cwV 2 hts gL_board_X4_clerk rfl rfl rfl (by decide +kernel) ⟨Nat.le_of_ble_eq_true rfl, Nat.le_of_ble_eq_true rfl⟩) (o_v (o_pR hK hN hP) (va_recv hK hP (ci := 4) (q0 := 0) rfl rfl)) rfl rfl hl.1 rfl (lv_room (Nat.le_of_ble_eq_true rfl)) dL_board_221 ⟨Nat.zero_le _, Nat.zero_le _⟩) (fun r1 e1 => ?_)
    have e1 : r1 = nI (c_clk v k 0) := e1
    subst e1
    refine o_ti (show nI (c_clk v k 0) = nI 0 from congrArg nI (show c_clk v k 0 = 0 from d1)) ?_
    refine o_const (k := 1) hx hb dL_board_224 (by decide) ?_
    refine o_icmp_ne (tgt := 232) hx hb dL_board_225 (by decide) (Nat.le_of_ble_eq_true rfl) (Nat.le_of_ble_eq_true rfl) (fun _ => ?_) (fun z => absurd z (by decide))
    refine o_const (k := 0) hx hb dL_board_232 (by decide) ?_
    refine lv_aload_n hx hb dL_board_233 rfl (lv_at hl 7 rfl) ?_
    refine o_const (k := 1) hx hb dL_board_234 (by decide) ?_
    refine o_ri (va_runV (As := [.int (nI 1)]) (rest := [.int (nI 0)]) ⟨hx, hb, hml, hown, hts⟩ (k_X4_count l D cI cR cS cL o x v tl b 1 hSI hb28 (by omega)) (cwV 1 hts gL_board_X4_count rfl rfl rfl (by decide +kernel) ⟨Nat.le_of_ble_eq_true rfl, Nat.le_of_ble_eq_true rfl⟩) (o_v (o_pR hK hN hP) (va_recv hK hP (ci := 4) (q0 := 0) rfl rfl)) rfl rfl hl.1 rfl (lv_room (Nat.le_of_ble_eq_true rfl)) dL_board_235 ⟨Nat.zero_le _, Nat.zero_le _⟩) (fun r1 e1 => ?_)
    have e1 : r1 = nI (c_cnt v (x 0 4) 1) := e1
    subst e1
    refine o_ti (show nI (c_cnt v (x 0 4) 1) = nI (b_who (v 3)) from congrArg nI rfl) ?_
    refine lv_iload hx hb dL_board_238 (lv_at hl 0 rfl) ?_
    refine o_icmp_ne (tgt := 247) hx hb dL_board_240 (by decide) (by omega) (by omega) (fun _ => ?_) (fun z => absurd z (by omega))
    refine o_const (k := 0) hx hb dL_board_247 (by decide) ?_
    refine o_icmp_ne (tgt := 255) hx hb dL_board_248 (by decide) (Nat.le_of_ble_eq_true rfl) (Nat.le_of_ble_eq_true rfl) (fun z => absurd z (by decide)) (fun _ => ?_)
    refine o_const (k := 1) hx hb dL_board_251 (by decide) ?_
    refine lv_goto (tgt := 256) hx hb dL_board_252 (by decide) ?_
    refine lv_istore (lv' := [(6, .int (nI 1)), (7, .int (nI k)), (1, .int (nI (v 0 0))), (2, .int (nI ((v 0 0) / 2))), (3, .int (nI 0)), (4, .int (nI 0)), (5, .int (nI 0)), (0, .ref (o 0))]) hx hb dL_board_256 hl (by decide) rfl (fun ls hl => ?_)
    refine lv_iinc (v := nI (k + 1)) (lv' := [(7, .int (nI (k + 1))), (6, .int (nI 1)), (1, .int (nI (v 0 0))), (2, .int (nI ((v 0 0) / 2))), (3, .int (nI 0)), (4, .int (nI 0)), (5, .int (nI 0)), (0, .ref (o 0))]) hx hb dL_board_258 hl (k := 1) rfl (o_inc1 _) (by decide) rfl (fun ls hl => ?_)
    refine lv_goto (tgt := 206) hx hb dL_board_261 (by decide) ?_
    exact K ls (lv_sub hl [0, 1, 2, 3, 4, 5, 6, 7] rfl)
  · skip
    refine lv_iload hx hb dL_board_206 (lv_at hl 0 rfl) ?_
    refine o_const (k := 3) hx hb dL_board_208 (by decide) ?_
    refine o_icmp_ge (tgt := 264) hx hb dL_board_209 (by decide) (by omega) (Nat.le_of_ble_eq_true rfl) (fun z => absurd z (by omega)) (fun _ => ?_)
    refine lv_iload hx hb dL_board_212 (lv_at hl 1 rfl) ?_
    refine o_if_eq (tgt := 264) hx hb dL_board_214 (by decide) (Nat.le_of_ble_eq_true rfl) (fun z => absurd z (by decide)) (fun _ => ?_)
    refine lv_aload_n hx hb dL_board_217 rfl (lv_at hl 7 rfl) ?_
    refine lv_iload hx hb dL_board_218 (lv_at hl 0 rfl) ?_
    refine o_const (k := 0) hx hb dL_board_220 (by decide) ?_
    refine o_ri (va_runV (As := [.int (nI k), .int (nI 0)]) (rest := []) ⟨hx, hb, hml, hown, hts⟩ (k_X4_clerk l D cI cR cS cL o x v tl b k 0 hSI hb28 (by omega) (by omega)) (cwV 2 hts gL_board_X4_clerk rfl rfl rfl (by decide +kernel) ⟨Nat.le_of_ble_eq_true rfl, Nat.le_of_ble_eq_true rfl⟩) (o_v (o_pR hK hN hP) (va_recv hK hP (ci := 4) (q0 := 0) rfl rfl)) rfl rfl hl.1 rfl (lv_room (Nat.le_of_ble_eq_true rfl)) dL_board_221 ⟨Nat.zero_le _, Nat.zero_le _⟩) (fun r1 e1 => ?_)
    have e1 : r1 = nI (c_clk v k 0) := e1
    subst e1
    refine o_ti (show nI (c_clk v k 0) = nI 2 from congrArg nI (show c_clk v k 0 = 2 from d1)) ?_
    refine o_const (k := 1) hx hb dL_board_224 (by decide) ?_
    refine o_icmp_ne (tgt := 232) hx hb dL_board_225 (by decide) (Nat.le_of_ble_eq_true rfl) (Nat.le_of_ble_eq_true rfl) (fun _ => ?_) (fun z => absurd z (by decide))
    refine o_const (k := 0) hx hb dL_board_232 (by decide) ?_
    refine lv_aload_n hx hb dL_board_233 rfl (lv_at hl 7 rfl) ?_
    refine o_const (k := 1) hx hb dL_board_234 (by decide) ?_
    refine o_ri (va_runV (As := [.int (nI 1)]) (rest := [.int (nI 0)]) ⟨hx, hb, hml, hown, hts⟩ (k_X4_count l D cI cR cS cL o x v tl b 1 hSI hb28 (by omega)) (cwV 1 hts gL_board_X4_count rfl rfl rfl (by decide +kernel) ⟨Nat.le_of_ble_eq_true rfl, Nat.le_of_ble_eq_true rfl⟩) (o_v (o_pR hK hN hP) (va_recv hK hP (ci := 4) (q0 := 0) rfl rfl)) rfl rfl hl.1 rfl (lv_room (Nat.le_of_ble_eq_true rfl)) dL_board_235 ⟨Nat.zero_le _, Nat.zero_le _⟩) (fun r1 e1 => ?_)
    have e1 : r1 = nI (c_cnt v (x 0 4) 1) := e1
    subst e1
    refine o_ti (show nI (c_cnt v (x 0 4) 1) = nI (b_who (v 3)) from congrArg nI rfl) ?_
    refine lv_iload hx hb dL_board_238 (lv_at hl 0 rfl) ?_
    refine o_icmp_ne (tgt := 247) hx hb dL_board_240 (by decide) (by omega) (by omega) (fun _ => ?_) (fun z => absurd z (by omega))
    refine o_const (k := 0) hx hb dL_board_247 (by decide) ?_
    refine o_icmp_ne (tgt := 255) hx hb dL_board_248 (by decide) (Nat.le_of_ble_eq_true rfl) (Nat.le_of_ble_eq_true rfl) (fun z => absurd z (by decide)) (fun _ => ?_)
    refine o_const (k := 1) hx hb dL_board_251 (by decide) ?_
    refine lv_goto (tgt := 256) hx hb dL_board_252 (by decide) ?_
    refine lv_istore (lv' := [(6, .int (nI 1)), (7, .int (nI k)), (1, .int (nI (v 0 0))), (2, .int (nI ((v 0 0) / 2))), (3, .int (nI 0)), (4, .int (nI 0)), (5, .int (nI 0)), (0, .ref (o 0))]) hx hb dL_board_256 hl (by decide) rfl (fun ls hl => ?_)
    refine lv_iinc (v := nI (k + 1)) (lv' := [(7, .int (nI (k + 1))), (6, .int (nI 1)), (1, .int (nI (v 0 0))), (2, .int (nI ((v 0 0) / 2))), (3, .int (nI 0)), (4, .int (nI 0)), (5, .int (nI 0)), (0, .ref (o 0))]) hx hb dL_board_258 hl (k := 1) rfl (o_inc1 _) (by decide) rfl (fun ls hl => ?_)
    refine lv_goto (tgt := 206) hx hb dL_board_261 (by decide) ?_
    exact K ls (lv_sub hl [0, 1, 2, 3, 4, 5, 6, 7] rfl)
set_option maxHeartbeats 4000000 in
set_option maxRecDepth 100000 in
theorem ya_cx {p : Program} {l : Launch} {e : Env} {s : State} {m : MethodId} {args : Array Value} {below : List Frame} {meth : Method} {c : Code} {Q : State → Prop} {D : va_G} {cI cR cS cL : ClassId} {o : Nat → Nat} {v : Nat → Nat → Nat} {tl : va_W} {A : Nat → Prop} {b : Nat} {H : Heap} {locs : List Loc} {ls : Array Slot} {x : Nat → Nat → Nat} (C : ya_B p s m args c D cI cR cS cL v A b) (hl : lv_has ls 11 [(7, .int (nI 3)), (6, .int (nI 1)), (1, .int (nI (v 0 0))), (2, .int (nI ((v 0 0) / 2))), (3, .int (nI 0)), (4, .int (nI 0)), (5, .int (nI 0)), (0, .ref (o 0))]) (K : ∀ ls, lv_has ls 11 [(7, .int (nI 0)), (6, .int (nI 1)), (1, .int (nI (v 0 0))), (2, .int (nI ((v 0 0) / 2))), (3, .int (nI 0)), (4, .int (nI 0)), (5, .int (nI 0)), (0, .ref (o 0))] → W p l e ({ frames := 4, cells := 0, slots := 0, locals := 88 } : Room) s m args below meth c H locs 0 0 Q (F0 m 267 ls [])) : W p l e ({ frames := 4, cells := 0, slots := 0, locals := 88 } : Room) s m args below meth c H locs 0 0 Q (F0 m 206 ls []) := by
  obtain ⟨hx, hb, hml, hown, hts, hK, hN, hA, hI, hb27⟩ := C
  have hSI := hI.1
  have hb28 : b < 2 ^ 28 := by omega
  have hn0 : v 0 0 < 2 ^ 29 := by have := hSI.1.1; omega
  refine lv_iload hx hb dL_board_206 (lv_at hl 0 rfl) ?_
  refine o_const (k := 3) hx hb dL_board_208 (by decide) ?_
  refine o_icmp_ge (tgt := 264) hx hb dL_board_209 (by decide) (Nat.le_of_ble_eq_true rfl) (Nat.le_of_ble_eq_true rfl) (fun _ => ?_) (fun z => absurd z (by decide))
  refine o_const (k := 0) hx hb dL_board_264 (by decide) ?_
  refine lv_istore (lv' := [(7, .int (nI 0)), (6, .int (nI 1)), (1, .int (nI (v 0 0))), (2, .int (nI ((v 0 0) / 2))), (3, .int (nI 0)), (4, .int (nI 0)), (5, .int (nI 0)), (0, .ref (o 0))]) hx hb dL_board_265 hl (by decide) rfl (fun ls hl => ?_)
  exact K ls (lv_sub hl [0, 1, 2, 3, 4, 5, 6, 7] rfl)
