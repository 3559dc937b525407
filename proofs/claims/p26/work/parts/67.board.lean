set_option maxHeartbeats 4000000 in
set_option maxRecDepth 100000 in
theorem ya_r {p : Program} {l : Launch} {e : Env} {s : State} {m : MethodId} {args : Array Value} {below : List Frame} {meth : Method} {c : Code} {Q : State → Prop} {D : va_G} {cI cR cS cL : ClassId} {o : Nat → Nat} {v : Nat → Nat → Nat} {tl : va_W} {A : Nat → Prop} {b : Nat} {H : Heap} {locs : List Loc} {ls : Array Slot} {x : Nat → Nat → Nat} {r : Nat} (C : ya_B p s m args c D cI cR cS cL v A b) (hP : va_P D vwCl (wO o cI cR cS x v tl) H) (hD : va_D A (wO o cI cR cS x v tl)) (hS : va_S A s.heap H locs) (hr : r < 4) (hl : lv_has ls 11 [(7, .int (nI r)), (6, .int (nI 1)), (1, .int (nI (v 0 0))), (2, .int (nI ((v 0 0) / 2))), (3, .int (nI (qa_ps v 1 r))), (4, .int (nI (qa_ps v 6 r))), (5, .int (nI (qa_ps v 7 r))), (0, .ref (o 0))]) (K : ∀ (H : Heap) (locs : List Loc) (x' : Nat → Nat → Nat) (ls : Array Slot), va_P D vwCl (wO o cI cR cS x' v tl) H → va_D A (wO o cI cR cS x' v tl) → va_S A s.heap H locs → x' 0 = x 0 → lv_has ls 11 [(7, .int (nI (r + 1))), (6, .int (nI 1)), (1, .int (nI (v 0 0))), (2, .int (nI ((v 0 0) / 2))), (3, .int (nI (qa_ps v 1 (r + 1)))), (4, .int (nI (qa_ps v 6 (r + 1)))), (5, .int (nI (qa_ps v 7 (r + 1)))), (0, .ref (o 0))] → W p l e ({ frames := 4, cells := 0, slots := 0, locals := 88 } : Room) s m args below meth c H locs 0 0 Q (F0 m 267 ls [])) : W p l e ({ frames := 4, cells := 0, slots := 0, locals := 88 } : Room) s m args below meth c H locs 0 0 Q (F0 m 267 ls []) := by
  by_cases hrd : v (5 + 3 * r) 1 = 0 <;> by_cases hhd : v (5 + 3 * r) 0 = 0 <;> by_cases hp : v 0 0 % 2 = 1
  · exact ya_rB3a C hP hD hS hr hl K hrd hhd hp
  · exact ya_rB3b C hP hD hS hr hl K hrd hhd hp
  · by_cases hgu : v 0 2 ≤ v (5 + 3 * r) 5
    · exact ya_rB1a C hP hD hS hr hl K hrd hhd hgu hp
    · exact ya_rB2a C hP hD hS hr hl K hrd hhd hgu hp
  · by_cases hgu : v 0 2 ≤ v (5 + 3 * r) 5
    · exact ya_rB1b C hP hD hS hr hl K hrd hhd hgu hp
    · exact ya_rB2b C hP hD hS hr hl K hrd hhd hgu hp
  · exact ya_rA2a C hP hD hS hr hl K hrd hhd hp
  · exact ya_rA2b C hP hD hS hr hl K hrd hhd hp
  · by_cases hnn : v (5 + 3 * r) 3 = v 0 0
    · exact ya_rA1a C hP hD hS hr hl K hrd hhd hnn
    · exact ya_rA1b C hP hD hS hr hl K hrd hhd hnn hp
  · by_cases hnn : v (5 + 3 * r) 3 = v 0 0
    · exact ya_rA1a C hP hD hS hr hl K hrd hhd hnn
    · exact ya_rA1c C hP hD hS hr hl K hrd hhd hnn hp
set_option maxHeartbeats 4000000 in
set_option maxRecDepth 100000 in
theorem ya_rx {p : Program} {l : Launch} {e : Env} {s : State} {m : MethodId} {args : Array Value} {below : List Frame} {meth : Method} {c : Code} {Q : State → Prop} {D : va_G} {cI cR cS cL : ClassId} {o : Nat → Nat} {v : Nat → Nat → Nat} {tl : va_W} {A : Nat → Prop} {b : Nat} {H : Heap} {locs : List Loc} {ls : Array Slot} {x : Nat → Nat → Nat} (C : ya_B p s m args c D cI cR cS cL v A b) (hP : va_P D vwCl (wO o cI cR cS x v tl) H) (hl : lv_has ls 11 [(7, .int (nI 4)), (6, .int (nI 1)), (1, .int (nI (v 0 0))), (2, .int (nI ((v 0 0) / 2))), (3, .int (nI (qa_ps v 1 4))), (4, .int (nI (qa_ps v 6 4))), (5, .int (nI (qa_ps v 7 4))), (0, .ref (o 0))]) (K : ∀ ls, lv_has ls 11 [(7, .int (nI 4)), (6, .int (nI 1)), (1, .int (nI (v 0 0))), (2, .int (nI ((v 0 0) / 2))), (3, .int (nI (qa_ps v 1 4))), (4, .int (nI (qa_ps v 6 4))), (5, .int (nI (qa_ps v 7 4))), (0, .ref (o 0))] → W p l e ({ frames := 4, cells := 0, slots := 0, locals := 88 } : Room) s m args below meth c H locs 0 0 Q (F0 m 662 ls [.int (nI 1)])) : W p l e ({ frames := 4, cells := 0, slots := 0, locals := 88 } : Room) s m args below meth c H locs 0 0 Q (F0 m 267 ls []) := by
  obtain ⟨hx, hb, hml, hown, hts, hK, hN, hA, hI, hb27⟩ := C
  have hSI := hI.1
  have hb28 : b < 2 ^ 28 := by omega
  have hn0 : v 0 0 < 2 ^ 29 := by have := hSI.1.1; omega
  have hS7 := s_sum_le hSI (Or.inr rfl)
  have hS6 := s_sum_le hSI (Or.inl rfl)
  have hS1 := qa_s1 hSI
  have p1 := qa_ps4 v 1
  have p6 := qa_ps4 v 6
  have p7 := qa_ps4 v 7
  obtain ⟨ns, hns, hnr⟩ := c_share_n hSI hb28
  refine lv_iload hx hb dL_board_267 (lv_at hl 0 rfl) ?_
  refine o_const (k := 4) hx hb dL_board_269 (by decide) ?_
  refine o_icmp_ge (tgt := 605) hx hb dL_board_270 (by decide) (Nat.le_of_ble_eq_true rfl) (Nat.le_of_ble_eq_true rfl) (fun _ => ?_) (fun z => absurd z (by decide))
  refine lv_iload hx hb dL_board_605 (lv_at hl 1 rfl) ?_
  refine o_if_eq (tgt := 661) hx hb dL_board_607 (by decide) (Nat.le_of_ble_eq_true rfl) (fun z => absurd z (by decide)) (fun _ => ?_)
  refine lv_iload_n hx hb dL_board_610 rfl (lv_at hl 4 rfl) ?_
  refine lv_aload_n hx hb dL_board_611 rfl (lv_at hl 7 rfl) ?_
  refine o_const (k := 3) hx hb dL_board_612 (by decide) ?_
  refine o_ri (va_runV (As := [.int (nI 3)]) (rest := [.int (nI (qa_ps v 1 4))]) ⟨hx, hb, hml, hown, hts⟩ (k_X4_count l D cI cR cS cL o x v tl b 3 hSI hb28 (by omega)) (cwV 1 hts gL_board_X4_count rfl rfl rfl (by decide +kernel) ⟨Nat.le_of_ble_eq_true rfl, Nat.le_of_ble_eq_true rfl⟩) (o_v (o_pR hK hN hP) (va_recv hK hP (ci := 4) (q0 := 0) rfl rfl)) rfl rfl hl.1 rfl (lv_room (Nat.le_of_ble_eq_true rfl)) dL_board_613 ⟨Nat.zero_le _, Nat.zero_le _⟩) (fun r1 e1 => ?_)
  have e1 : r1 = nI (c_cnt v (x 0 4) 3) := e1
  subst e1
  refine o_ti (show nI (c_cnt v (x 0 4) 3) = nI (s_sum v 1) from congrArg nI rfl) ?_
  refine o_icmp_ne (tgt := 661) hx hb dL_board_616 (by decide) (by omega) (by omega) (fun z => absurd z (by omega)) (fun _ => ?_)
  refine lv_iload hx hb dL_board_619 (lv_at hl 5 rfl) ?_
  refine lv_aload_n hx hb dL_board_621 rfl (lv_at hl 7 rfl) ?_
  refine o_const (k := 4) hx hb dL_board_622 (by decide) ?_
  refine o_ri (va_runV (As := [.int (nI 4)]) (rest := [.int (nI (qa_ps v 6 4))]) ⟨hx, hb, hml, hown, hts⟩ (k_X4_count l D cI cR cS cL o x v tl b 4 hSI hb28 (by omega)) (cwV 1 hts gL_board_X4_count rfl rfl rfl (by decide +kernel) ⟨Nat.le_of_ble_eq_true rfl, Nat.le_of_ble_eq_true rfl⟩) (o_v (o_pR hK hN hP) (va_recv hK hP (ci := 4) (q0 := 0) rfl rfl)) rfl rfl hl.1 rfl (lv_room (Nat.le_of_ble_eq_true rfl)) dL_board_623 ⟨Nat.zero_le _, Nat.zero_le _⟩) (fun r1 e1 => ?_)
  have e1 : r1 = nI (c_cnt v (x 0 4) 4) := e1
  subst e1
  refine o_ti (show nI (c_cnt v (x 0 4) 4) = nI (s_sum v 6) from congrArg nI rfl) ?_
  refine o_icmp_ne (tgt := 661) hx hb dL_board_626 (by decide) (by omega) (by omega) (fun z => absurd z (by omega)) (fun _ => ?_)
  refine lv_iload hx hb dL_board_629 (lv_at hl 6 rfl) ?_
  refine lv_aload_n hx hb dL_board_631 rfl (lv_at hl 7 rfl) ?_
  refine o_const (k := 5) hx hb dL_board_632 (by decide) ?_
  refine o_ri (va_runV (As := [.int (nI 5)]) (rest := [.int (nI (qa_ps v 7 4))]) ⟨hx, hb, hml, hown, hts⟩ (k_X4_count l D cI cR cS cL o x v tl b 5 hSI hb28 (by omega)) (cwV 1 hts gL_board_X4_count rfl rfl rfl (by decide +kernel) ⟨Nat.le_of_ble_eq_true rfl, Nat.le_of_ble_eq_true rfl⟩) (o_v (o_pR hK hN hP) (va_recv hK hP (ci := 4) (q0 := 0) rfl rfl)) rfl rfl hl.1 rfl (lv_room (Nat.le_of_ble_eq_true rfl)) dL_board_633 ⟨Nat.zero_le _, Nat.zero_le _⟩) (fun r1 e1 => ?_)
  have e1 : r1 = nI (c_cnt v (x 0 4) 5) := e1
  subst e1
  refine o_ti (show nI (c_cnt v (x 0 4) 5) = nI (s_sum v 7) from congrArg nI rfl) ?_
  refine o_icmp_ne (tgt := 661) hx hb dL_board_636 (by decide) (by omega) (by omega) (fun z => absurd z (by omega)) (fun _ => ?_)
  refine lv_aload_n hx hb dL_board_639 rfl (lv_at hl 7 rfl) ?_
  refine o_rd (va_runV (As := []) (rest := []) ⟨hx, hb, hml, hown, hts⟩ (k_X4_wellShare l D cI cR cS cL o x v tl b hSI hb28) (cwV 0 hts gL_board_X4_wellShare rfl rfl rfl (by decide +kernel) ⟨Nat.le_of_ble_eq_true rfl, Nat.le_of_ble_eq_true rfl⟩) (o_v (o_pR hK hN hP) (va_recv hK hP (ci := 4) (q0 := 0) rfl rfl)) rfl rfl hl.1 rfl (lv_room (Nat.le_of_ble_eq_true rfl)) dL_board_640 ⟨Nat.zero_le _, Nat.zero_le _⟩) (fun r1 e1 => ?_)
  have e1 : r1 = (c_share v) := e1
  subst e1
  refine lv_dconst0 hx hb dL_board_643 ?_
  refine lv_dcmp hx hb dL_board_644 ?_
  refine lv_if_lt (tgt := 661) hx hb dL_board_645 (by decide) (fun z => absurd z (by rw [hns]; exact qa_cl (by omega))) (fun _ => ?_)
  refine lv_aload_n hx hb dL_board_648 rfl (lv_at hl 7 rfl) ?_
  refine o_rd (va_runV (As := []) (rest := []) ⟨hx, hb, hml, hown, hts⟩ (k_X4_wellShare l D cI cR cS cL o x v tl b hSI hb28) (cwV 0 hts gL_board_X4_wellShare rfl rfl rfl (by decide +kernel) ⟨Nat.le_of_ble_eq_true rfl, Nat.le_of_ble_eq_true rfl⟩) (o_v (o_pR hK hN hP) (va_recv hK hP (ci := 4) (q0 := 0) rfl rfl)) rfl rfl hl.1 rfl (lv_room (Nat.le_of_ble_eq_true rfl)) dL_board_649 ⟨Nat.zero_le _, Nat.zero_le _⟩) (fun r1 e1 => ?_)
  have e1 : r1 = (c_share v) := e1
  subst e1
  refine lv_dconst1 hx hb dL_board_652 ?_
  refine lv_dcmp hx hb dL_board_653 ?_
  refine lv_if_gt (tgt := 661) hx hb dL_board_654 (by decide) (fun z => absurd z (by rw [hns]; exact qa_cg (by omega))) (fun _ => ?_)
  refine o_const (k := 1) hx hb dL_board_657 (by decide) ?_
  refine lv_goto (tgt := 662) hx hb dL_board_658 (by decide) ?_
  exact K ls (lv_sub hl [0, 1, 2, 3, 4, 5, 6, 7] rfl)
set_option maxHeartbeats 4000000 in
set_option maxRecDepth 100000 in
theorem l_board (l : Launch) (D : va_G) (cI cR cS cL : ClassId) (sz : Nat) (o : Nat → Nat) (x v : Nat → Nat → Nat) (tl : va_W) (b : Nat) (h : qa_I b v) (hb9 : b < 2 ^ 27) : Met l yL_board wsL_board ({ frames := 4, cells := 0, slots := 0, locals := 88 }) (va_Pc [.ref (o 0)] (o_B D (o_T cI cR cS cL) (wO o cI cR cS x v tl) sz)) (va_Qi (fun rz (u : Nat → Nat → Nat) => rz = nI 1 ∧ u 0 = x 0) (fun (u : Nat → Nat → Nat) t => va_P D vwCl (wO o cI cR cS u v tl) t.heap) (va_A (wO o cI cR cS x v tl) sz)) 0 0 (va_A (wO o cI cR cS x v tl) sz) := by
  refine Met.ofW (cc := cL_board) (maxL := 11) (ret := (some .boolean)) (by decide) rfl ?_
  intro p e s m args below meth cd s₁ B hml hv
  obtain ⟨rfl, hsz, hP, hK, hD0, hN⟩ := hv
  have hx := B.exec
  have hb := B.bytes
  have hrt := B.returns
  have hts := atoms_spec (ws := wsL_board) B.pre
  have hown : s.vm.findClass RL = some m.cls := findClass_of_methodNamed B.named
  have hlocks := B.notSynchronized
  subst hsz
  have hD := hD0.self (sz := s.heap.size)
  generalize hAe : va_A (wO o cI cR cS x v tl) s.heap.size = A at hD ⊢
  have hA : ∀ q : Nat, s.heap.size ≤ q → A q := fun q h => by rw [← hAe]; exact Or.inr h
  have hS : va_S A s.heap s.heap [] := va_S.rf
  have hl := lv_entry ([.ref (o 0)]) (n := 11) (Nat.le_of_ble_eq_true rfl)
  rw [lg_entry_eq]
  generalize (lg_sl ([.ref (o 0)]) ++ List.replicate (11 - (lg_sl ([.ref (o 0)])).length) Slot.unset).toArray = ls at hl ⊢
  have hl : lv_has ls 11 [(0, .ref (o 0))] := hl
  have C : ya_B p s m ([.ref (o 0)] : List Value).toArray cd D cI cR cS cL v A b := ⟨hx, hb, hml, hown, hts, hK, hN, hA, h, hb9⟩
  refine ya_b0 C hP hl (fun ls hl => ?_)
  refine ya_f (f := 0) C hP (by decide) hl (fun ls hl => ?_)
  refine ya_f (f := 1) C hP (by decide) hl (fun ls hl => ?_)
  refine ya_f (f := 2) C hP (by decide) hl (fun ls hl => ?_)
  refine ya_f (f := 3) C hP (by decide) hl (fun ls hl => ?_)
  refine ya_f (f := 4) C hP (by decide) hl (fun ls hl => ?_)
  refine ya_fx (x := x) (tl := tl) C hl (fun ls hl => ?_)
  refine ya_c (k := 0) C hP (by decide) hl (fun ls hl => ?_)
  refine ya_c (k := 1) C hP (by decide) hl (fun ls hl => ?_)
  refine ya_c (k := 2) C hP (by decide) hl (fun ls hl => ?_)
  refine ya_cx (x := x) (tl := tl) C hl (fun ls hl => ?_)
  refine ya_r (r := 0) C hP hD hS (by decide) hl (fun H locs x0 ls hP hD hS hx0 hl => ?_)
  refine ya_r (r := 1) C hP hD hS (by decide) hl (fun H locs x1 ls hP hD hS hx1 hl => ?_)
  refine ya_r (r := 2) C hP hD hS (by decide) hl (fun H locs x2 ls hP hD hS hx2 hl => ?_)
  refine ya_r (r := 3) C hP hD hS (by decide) hl (fun H locs x3 ls hP hD hS hx3 hl => ?_)
  refine ya_rx C hP hl (fun ls hl => ?_)
  exact W.zret (v := nI 1) hx hb hrt rfl (fun t ht hW => ⟨⟨_, x3, rfl, ⟨rfl, by rw [hx3, hx2, hx1, hx0]⟩, by show va_P D vwCl _ t.heap; rw [ht]; exact hP⟩, hS.F ht⟩) hS.2.2 dL_board_662
