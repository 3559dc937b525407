set_option maxHeartbeats 4000000 in
set_option maxRecDepth 100000 in
theorem ya_rA1a {p : Program} {l : Launch} {e : Env} {s : State} {m : MethodId} {args : Array Value} {below : List Frame} {meth : Method} {c : Code} {Q : State → Prop} {D : va_G} {cI cR cS cL : ClassId} {o : Nat → Nat} {v : Nat → Nat → Nat} {tl : va_W} {A : Nat → Prop} {b : Nat} {H : Heap} {locs : List Loc} {ls : Array Slot} {x : Nat → Nat → Nat} {r : Nat} (C : ya_B p s m args c D cI cR cS cL v A b) (hP : va_P D vwCl (wO o cI cR cS x v tl) H) (hD : va_D A (wO o cI cR cS x v tl)) (hS : va_S A s.heap H locs) (hr : r < 4) (hl : lv_has ls 11 [(7, .int (nI r)), (6, .int (nI 1)), (1, .int (nI (v 0 0))), (2, .int (nI ((v 0 0) / 2))), (3, .int (nI (qa_ps v 1 r))), (4, .int (nI (qa_ps v 6 r))), (5, .int (nI (qa_ps v 7 r))), (0, .ref (o 0))]) (K : ∀ (H : Heap) (locs : List Loc) (x' : Nat → Nat → Nat) (ls : Array Slot), va_P D vwCl (wO o cI cR cS x' v tl) H → va_D A (wO o cI cR cS x' v tl) → va_S A s.heap H locs → x' 0 = x 0 → lv_has ls 11 [(7, .int (nI (r + 1))), (6, .int (nI 1)), (1, .int (nI (v 0 0))), (2, .int (nI ((v 0 0) / 2))), (3, .int (nI (qa_ps v 1 (r + 1)))), (4, .int (nI (qa_ps v 6 (r + 1)))), (5, .int (nI (qa_ps v 7 (r + 1)))), (0, .ref (o 0))] → W p l e ({ frames := 4, cells := 0, slots := 0, locals := 88 } : Room) s m args below meth c H locs 0 0 Q (F0 m 267 ls [])) (hrd : ¬ v (5 + 3 * r) 1 = 0) (hhd : ¬ v (5 + 3 * r) 0 = 0) (hnn : v (5 + 3 * r) 3 = v 0 0) : W p l e ({ frames := 4, cells := 0, slots := 0, locals := 88 } : Room) s m args below meth c H locs 0 0 Q (F0 m 267 ls []) := by
  obtain ⟨hx, hb, hml, hown, hts, hK, hN, hA, hI, hb27⟩ := C
  have hSI := hI.1
  have hb28 : b < 2 ^ 28 := by omega
  have hn0 : v 0 0 < 2 ^ 29 := by have := hSI.1.1; omega
  have hIR := hSI.2 r hr
  unfold s_IR at hIR
  have hRR := hI.2.2.2.1 r hr
  have hrow := hRR.2
  have hst := hSI.1.2.2.1
  obtain ⟨hD0, hN1, hT2⟩ := qa_d1 hrd
  have hO := qa_o1 hrd
  have hno := (hRR.1 hrd).1
  have hH7 : c_rdr v r 7 = 1 := if_neg hhd
  have hev := ((hRR.1 hrd).2 hhd).1
  rw [if_neg (fun z => z.2 hnn)] at hO
  have hp : ¬ v 0 0 % 2 = 1 := by omega
  have hF := qa_half0 hI hb28 hr (by omega) (Or.inr ⟨hhd, hnn⟩)
  clear hRR
  refine lv_iload hx hb dL_board_267 (lv_at hl 0 rfl) ?_
  refine o_const (k := 4) hx hb dL_board_269 (by decide) ?_
  refine o_icmp_ge (tgt := 605) hx hb dL_board_270 (by decide) (by omega) (Nat.le_of_ble_eq_true rfl) (fun z => absurd z (by omega)) (fun _ => ?_)
  refine lv_iload hx hb dL_board_273 (lv_at hl 1 rfl) ?_
  refine o_if_eq (tgt := 605) hx hb dL_board_275 (by decide) (Nat.le_of_ble_eq_true rfl) (fun z => absurd z (by decide)) (fun _ => ?_)
  refine lv_aload_n hx hb dL_board_278 rfl (lv_at hl 7 rfl) ?_
  refine lv_iload hx hb dL_board_279 (lv_at hl 0 rfl) ?_
  refine o_const (k := 1) hx hb dL_board_281 (by decide) ?_
  refine o_ri (va_runV (As := [.int (nI r), .int (nI 1)]) (rest := []) ⟨hx, hb, hml, hown, hts⟩ (k_X4_readerOf l D cI cR cS cL o x v tl b r 1 hSI hb28 (by omega) (by omega)) (cwV 2 hts gL_board_X4_readerOf rfl rfl rfl (by decide +kernel) ⟨Nat.le_of_ble_eq_true rfl, Nat.le_of_ble_eq_true rfl⟩) (o_v (o_pR hK hN hP) (va_recv hK hP (ci := 4) (q0 := 0) rfl rfl)) rfl rfl hl.1 rfl (lv_room (Nat.le_of_ble_eq_true rfl)) dL_board_282 ⟨Nat.zero_le _, Nat.zero_le _⟩) (fun r1 e1 => ?_)
  have e1 : r1 = nI (c_rdr v r 1) := e1
  subst e1
  refine o_ti (show nI (c_rdr v r 1) = nI (v (5 + 3 * r) 3) from congrArg nI hN1) ?_
  refine lv_istore (lv' := [(8, .int (nI (v (5 + 3 * r) 3))), (7, .int (nI r)), (6, .int (nI 1)), (1, .int (nI (v 0 0))), (2, .int (nI ((v 0 0) / 2))), (3, .int (nI (qa_ps v 1 r))), (4, .int (nI (qa_ps v 6 r))), (5, .int (nI (qa_ps v 7 r))), (0, .ref (o 0))]) hx hb dL_board_285 hl (by decide) rfl (fun ls hl => ?_)
  refine lv_aload_n hx hb dL_board_287 rfl (lv_at hl 8 rfl) ?_
  refine lv_iload hx hb dL_board_288 (lv_at hl 1 rfl) ?_
  refine o_bipush (k := 7) hx hb dL_board_290 (by decide) ?_
  refine o_ri (va_runV (As := [.int (nI r), .int (nI 7)]) (rest := []) ⟨hx, hb, hml, hown, hts⟩ (k_X4_readerOf l D cI cR cS cL o x v tl b r 7 hSI hb28 (by omega) (by omega)) (cwV 2 hts gL_board_X4_readerOf rfl rfl rfl (by decide +kernel) ⟨Nat.le_of_ble_eq_true rfl, Nat.le_of_ble_eq_true rfl⟩) (o_v (o_pR hK hN hP) (va_recv hK hP (ci := 4) (q0 := 0) rfl rfl)) rfl rfl hl.1 rfl (lv_room (Nat.le_of_ble_eq_true rfl)) dL_board_292 ⟨Nat.zero_le _, Nat.zero_le _⟩) (fun r1 e1 => ?_)
  have e1 : r1 = nI (c_rdr v r 7) := e1
  subst e1
  refine o_ti (show nI (c_rdr v r 7) = nI 1 from congrArg nI hH7) ?_
  refine o_const (k := 1) hx hb dL_board_295 (by decide) ?_
  refine o_icmp_ne (tgt := 303) hx hb dL_board_296 (by decide) (Nat.le_of_ble_eq_true rfl) (Nat.le_of_ble_eq_true rfl) (fun z => absurd z (by decide)) (fun _ => ?_)
  refine o_const (k := 1) hx hb dL_board_299 (by decide) ?_
  refine lv_goto (tgt := 304) hx hb dL_board_300 (by decide) ?_
  refine lv_istore (lv' := [(9, .int (nI 1)), (8, .int (nI (v (5 + 3 * r) 3))), (7, .int (nI r)), (6, .int (nI 1)), (1, .int (nI (v 0 0))), (2, .int (nI ((v 0 0) / 2))), (3, .int (nI (qa_ps v 1 r))), (4, .int (nI (qa_ps v 6 r))), (5, .int (nI (qa_ps v 7 r))), (0, .ref (o 0))]) hx hb dL_board_304 hl (by decide) rfl (fun ls hl => ?_)
  refine lv_aload_n hx hb dL_board_306 rfl (lv_at hl 9 rfl) ?_
  refine lv_iload hx hb dL_board_307 (lv_at hl 2 rfl) ?_
  refine o_ri (va_runV (As := [.int (nI r)]) (rest := []) ⟨hx, hb, hml, hown, hts⟩ (k_X4_ifRead l D cI cR cS cL o x v tl b r hSI hb28 (by omega)) (cwV 1 hts gL_board_X4_ifRead rfl rfl rfl (by decide +kernel) ⟨Nat.le_of_ble_eq_true rfl, Nat.le_of_ble_eq_true rfl⟩) (o_v (o_pR hK hN hP) (va_recv hK hP (ci := 4) (q0 := 0) rfl rfl)) rfl rfl hl.1 rfl (lv_room (Nat.le_of_ble_eq_true rfl)) dL_board_309 ⟨Nat.zero_le _, Nat.zero_le _⟩) (fun r1 e1 => ?_)
  have e1 : r1 = nI (s_out v r) := e1
  subst e1
  refine o_ti (show nI (s_out v r) = nI 1 from congrArg nI hO) ?_
  refine lv_istore (lv' := [(10, .int (nI 1)), (9, .int (nI 1)), (8, .int (nI (v (5 + 3 * r) 3))), (7, .int (nI r)), (6, .int (nI 1)), (1, .int (nI (v 0 0))), (2, .int (nI ((v 0 0) / 2))), (3, .int (nI (qa_ps v 1 r))), (4, .int (nI (qa_ps v 6 r))), (5, .int (nI (qa_ps v 7 r))), (0, .ref (o 0))]) hx hb dL_board_312 hl (by decide) rfl (fun ls hl => ?_)
  refine lv_iload_n hx hb dL_board_314 rfl (lv_at hl 7 rfl) ?_
  refine lv_aload_n hx hb dL_board_315 rfl (lv_at hl 10 rfl) ?_
  refine lv_iload hx hb dL_board_316 (lv_at hl 3 rfl) ?_
  refine o_const (k := 0) hx hb dL_board_318 (by decide) ?_
  refine o_ri (va_runV (As := [.int (nI r), .int (nI 0)]) (rest := [.int (nI (qa_ps v 1 r))]) ⟨hx, hb, hml, hown, hts⟩ (k_X4_readerOf l D cI cR cS cL o x v tl b r 0 hSI hb28 (by omega) (by omega)) (cwV 2 hts gL_board_X4_readerOf rfl rfl rfl (by decide +kernel) ⟨Nat.le_of_ble_eq_true rfl, Nat.le_of_ble_eq_true rfl⟩) (o_v (o_pR hK hN hP) (va_recv hK hP (ci := 4) (q0 := 0) rfl rfl)) rfl rfl hl.1 rfl (lv_room (Nat.le_of_ble_eq_true rfl)) dL_board_319 ⟨Nat.zero_le _, Nat.zero_le _⟩) (fun r1 e1 => ?_)
  have e1 : r1 = nI (c_rdr v r 0) := e1
  subst e1
  refine o_ti (show nI (c_rdr v r 0) = nI 1 from congrArg nI hD0) ?_
  refine o_const (k := 1) hx hb dL_board_322 (by decide) ?_
  refine o_icmp_ne (tgt := 330) hx hb dL_board_323 (by decide) (Nat.le_of_ble_eq_true rfl) (Nat.le_of_ble_eq_true rfl) (fun z => absurd z (by decide)) (fun _ => ?_)
  refine o_const (k := 1) hx hb dL_board_326 (by decide) ?_
  refine lv_goto (tgt := 331) hx hb dL_board_327 (by decide) ?_
  refine o_iadd (a := (qa_ps v 1 r)) (b := 1) (k := ((qa_ps v 1 r) + 1)) hx hb dL_board_331 rfl ?_
  refine lv_istore_n (lv' := [(3, .int (nI ((qa_ps v 1 r) + 1))), (10, .int (nI 1)), (9, .int (nI 1)), (8, .int (nI (v (5 + 3 * r) 3))), (7, .int (nI r)), (6, .int (nI 1)), (1, .int (nI (v 0 0))), (2, .int (nI ((v 0 0) / 2))), (4, .int (nI (qa_ps v 6 r))), (5, .int (nI (qa_ps v 7 r))), (0, .ref (o 0))]) hx hb dL_board_332 rfl hl (by decide) rfl (fun ls hl => ?_)
  refine lv_iload hx hb dL_board_333 (lv_at hl 8 rfl) ?_
  refine lv_aload_n hx hb dL_board_335 rfl (lv_at hl 10 rfl) ?_
  refine lv_iload hx hb dL_board_336 (lv_at hl 4 rfl) ?_
  refine o_const (k := 4) hx hb dL_board_338 (by decide) ?_
  refine o_ri (va_runV (As := [.int (nI r), .int (nI 4)]) (rest := [.int (nI (qa_ps v 6 r))]) ⟨hx, hb, hml, hown, hts⟩ (k_X4_readerOf l D cI cR cS cL o x v tl b r 4 hSI hb28 (by omega) (by omega)) (cwV 2 hts gL_board_X4_readerOf rfl rfl rfl (by decide +kernel) ⟨Nat.le_of_ble_eq_true rfl, Nat.le_of_ble_eq_true rfl⟩) (o_v (o_pR hK hN hP) (va_recv hK hP (ci := 4) (q0 := 0) rfl rfl)) rfl rfl hl.1 rfl (lv_room (Nat.le_of_ble_eq_true rfl)) dL_board_339 ⟨Nat.zero_le _, Nat.zero_le _⟩) (fun r1 e1 => ?_)
  have e1 : r1 = nI (c_rdr v r 4) := e1
  subst e1
  refine o_ti (show nI (c_rdr v r 4) = nI (v (5 + 3 * r) 6) from congrArg nI rfl) ?_
  refine o_iadd (a := (qa_ps v 6 r)) (b := (v (5 + 3 * r) 6)) (k := ((qa_ps v 6 r) + (v (5 + 3 * r) 6))) hx hb dL_board_342 rfl ?_
  refine lv_istore (lv' := [(4, .int (nI ((qa_ps v 6 r) + (v (5 + 3 * r) 6)))), (3, .int (nI ((qa_ps v 1 r) + 1))), (10, .int (nI 1)), (9, .int (nI 1)), (8, .int (nI (v (5 + 3 * r) 3))), (7, .int (nI r)), (6, .int (nI 1)), (1, .int (nI (v 0 0))), (2, .int (nI ((v 0 0) / 2))), (5, .int (nI (qa_ps v 7 r))), (0, .ref (o 0))]) hx hb dL_board_343 hl (by decide) rfl (fun ls hl => ?_)
  refine lv_iload hx hb dL_board_345 (lv_at hl 9 rfl) ?_
  refine lv_aload_n hx hb dL_board_347 rfl (lv_at hl 10 rfl) ?_
  refine lv_iload hx hb dL_board_348 (lv_at hl 5 rfl) ?_
  refine o_const (k := 5) hx hb dL_board_350 (by decide) ?_
  refine o_ri (va_runV (As := [.int (nI r), .int (nI 5)]) (rest := [.int (nI (qa_ps v 7 r))]) ⟨hx, hb, hml, hown, hts⟩ (k_X4_readerOf l D cI cR cS cL o x v tl b r 5 hSI hb28 (by omega) (by omega)) (cwV 2 hts gL_board_X4_readerOf rfl rfl rfl (by decide +kernel) ⟨Nat.le_of_ble_eq_true rfl, Nat.le_of_ble_eq_true rfl⟩) (o_v (o_pR hK hN hP) (va_recv hK hP (ci := 4) (q0 := 0) rfl rfl)) rfl rfl hl.1 rfl (lv_room (Nat.le_of_ble_eq_true rfl)) dL_board_351 ⟨Nat.zero_le _, Nat.zero_le _⟩) (fun r1 e1 => ?_)
  have e1 : r1 = nI (c_rdr v r 5) := e1
  subst e1
  refine o_ti (show nI (c_rdr v r 5) = nI (v (5 + 3 * r) 7) from congrArg nI rfl) ?_
  refine o_iadd (a := (qa_ps v 7 r)) (b := (v (5 + 3 * r) 7)) (k := ((qa_ps v 7 r) + (v (5 + 3 * r) 7))) hx hb dL_board_354 rfl ?_
  refine lv_istore (lv' := [(5, .int (nI ((qa_ps v 7 r) + (v (5 + 3 * r) 7)))), (4, .int (nI ((qa_ps v 6 r) + (v (5 + 3 * r) 6)))), (3, .int (nI ((qa_ps v 1 r) + 1))), (10, .int (nI 1)), (9, .int (nI 1)), (8, .int (nI (v (5 + 3 * r) 3))), (7, .int (nI r)), (6, .int (nI 1)), (1, .int (nI (v 0 0))), (2, .int (nI ((v 0 0) / 2))), (0, .ref (o 0))]) hx hb dL_board_355 hl (by decide) rfl (fun ls hl => ?_)
  refine lv_iload hx hb dL_board_357 (lv_at hl 5 rfl) ?_
  refine lv_iload_n hx hb dL_board_359 rfl (lv_at hl 8 rfl) ?_
  refine o_icmp_gt (tgt := 596) hx hb dL_board_360 (by decide) (by omega) (by omega) (fun z => absurd z (by omega)) (fun _ => ?_)
  refine lv_iload hx hb dL_board_363 (lv_at hl 5 rfl) ?_
  refine o_const (k := 4294967295) hx hb dL_board_365 (by decide) ?_
  refine o_icmp_eq (tgt := 381) hx hb dL_board_366 (by decide) (by omega) (Nat.le_of_ble_eq_true rfl) (fun z => absurd z (by omega)) (fun _ => ?_)
  refine lv_iload hx hb dL_board_369 (lv_at hl 4 rfl) ?_
  refine o_if_eq (tgt := 381) hx hb dL_board_371 (by decide) (Nat.le_of_ble_eq_true rfl) (fun z => absurd z (by decide)) (fun _ => ?_)
  refine lv_iload hx hb dL_board_374 (lv_at hl 5 rfl) ?_
  refine o_const (k := 2) hx hb dL_board_376 (by decide) ?_
  refine o_irem (a := (v (5 + 3 * r) 3)) (b := 2) (k := ((v (5 + 3 * r) 3) % 2)) hx hb dL_board_377 (by omega) (by decide) (Nat.le_of_ble_eq_true rfl) rfl ?_
  refine o_if_ne (tgt := 596) hx hb dL_board_378 (by decide) (by omega) (fun z => absurd z (by omega)) (fun _ => ?_)
  refine lv_iload hx hb dL_board_381 (lv_at hl 5 rfl) ?_
  refine o_if_lt (tgt := 390) hx hb dL_board_383 (by decide) (by omega) ?_
  refine o_const (k := 1) hx hb dL_board_386 (by decide) ?_
  refine lv_goto (tgt := 391) hx hb dL_board_387 (by decide) ?_
  refine lv_aload_n hx hb dL_board_391 rfl (lv_at hl 10 rfl) ?_
  refine lv_iload hx hb dL_board_392 (lv_at hl 6 rfl) ?_
  refine o_const (k := 0) hx hb dL_board_394 (by decide) ?_
  refine o_ri (va_runV (As := [.int (nI r), .int (nI 0)]) (rest := [.int (nI 1)]) ⟨hx, hb, hml, hown, hts⟩ (k_X4_readerOf l D cI cR cS cL o x v tl b r 0 hSI hb28 (by omega) (by omega)) (cwV 2 hts gL_board_X4_readerOf rfl rfl rfl (by decide +kernel) ⟨Nat.le_of_ble_eq_true rfl, Nat.le_of_ble_eq_true rfl⟩) (o_v (o_pR hK hN hP) (va_recv hK hP (ci := 4) (q0 := 0) rfl rfl)) rfl rfl hl.1 rfl (lv_room (Nat.le_of_ble_eq_true rfl)) dL_board_395 ⟨Nat.zero_le _, Nat.zero_le _⟩) (fun r1 e1 => ?_)
  have e1 : r1 = nI (c_rdr v r 0) := e1
  subst e1
  refine o_ti (show nI (c_rdr v r 0) = nI 1 from congrArg nI hD0) ?_
  refine o_const (k := 1) hx hb dL_board_398 (by decide) ?_
  refine o_icmp_ne (tgt := 406) hx hb dL_board_399 (by decide) (Nat.le_of_ble_eq_true rfl) (Nat.le_of_ble_eq_true rfl) (fun z => absurd z (by decide)) (fun _ => ?_)
  refine o_const (k := 1) hx hb dL_board_402 (by decide) ?_
  refine lv_goto (tgt := 407) hx hb dL_board_403 (by decide) ?_
  refine o_icmp_ne (tgt := 596) hx hb dL_board_407 (by decide) (Nat.le_of_ble_eq_true rfl) (Nat.le_of_ble_eq_true rfl) (fun z => absurd z (by decide)) (fun _ => ?_)
  refine lv_aload_n hx hb dL_board_410 rfl (lv_at hl 10 rfl) ?_
  refine lv_iload hx hb dL_board_411 (lv_at hl 6 rfl) ?_
  refine o_const (k := 2) hx hb dL_board_413 (by decide) ?_
  refine o_ri (va_runV (As := [.int (nI r), .int (nI 2)]) (rest := []) ⟨hx, hb, hml, hown, hts⟩ (k_X4_readerOf l D cI cR cS cL o x v tl b r 2 hSI hb28 (by omega) (by omega)) (cwV 2 hts gL_board_X4_readerOf rfl rfl rfl (by decide +kernel) ⟨Nat.le_of_ble_eq_true rfl, Nat.le_of_ble_eq_true rfl⟩) (o_v (o_pR hK hN hP) (va_recv hK hP (ci := 4) (q0 := 0) rfl rfl)) rfl rfl hl.1 rfl (lv_room (Nat.le_of_ble_eq_true rfl)) dL_board_414 ⟨Nat.zero_le _, Nat.zero_le _⟩) (fun r1 e1 => ?_)
  have e1 : r1 = nI (c_rdr v r 2) := e1
  subst e1
  refine o_ti (show nI (c_rdr v r 2) = nI (v (5 + 3 * r) 4) from congrArg nI hT2) ?_
  refine o_const (k := 5) hx hb dL_board_417 (by decide) ?_
  refine o_icmp_gt (tgt := 596) hx hb dL_board_418 (by decide) (by omega) (Nat.le_of_ble_eq_true rfl) (fun z => absurd z (by omega)) (fun _ => ?_)
  refine lv_aload_n hx hb dL_board_421 rfl (lv_at hl 10 rfl) ?_
  refine lv_iload hx hb dL_board_422 (lv_at hl 6 rfl) ?_
  refine o_const (k := 3) hx hb dL_board_424 (by decide) ?_
  refine o_ri (va_runV (As := [.int (nI r), .int (nI 3)]) (rest := []) ⟨hx, hb, hml, hown, hts⟩ (k_X4_readerOf l D cI cR cS cL o x v tl b r 3 hSI hb28 (by omega) (by omega)) (cwV 2 hts gL_board_X4_readerOf rfl rfl rfl (by decide +kernel) ⟨Nat.le_of_ble_eq_true rfl, Nat.le_of_ble_eq_true rfl⟩) (o_v (o_pR hK hN hP) (va_recv hK hP (ci := 4) (q0 := 0) rfl rfl)) rfl rfl hl.1 rfl (lv_room (Nat.le_of_ble_eq_true rfl)) dL_board_425 ⟨Nat.zero_le _, Nat.zero_le _⟩) (fun r1 e1 => ?_)
  have e1 : r1 = nI (c_rdr v r 3) := e1
  subst e1
  refine o_ti (show nI (c_rdr v r 3) = nI (v (5 + 3 * r) 5) from congrArg nI rfl) ?_
  refine lv_aload_n hx hb dL_board_428 rfl (lv_at hl 10 rfl) ?_
  refine lv_iload hx hb dL_board_429 (lv_at hl 6 rfl) ?_
  refine o_const (k := 4) hx hb dL_board_431 (by decide) ?_
  refine o_ri (va_runV (As := [.int (nI r), .int (nI 4)]) (rest := [.int (nI (v (5 + 3 * r) 5))]) ⟨hx, hb, hml, hown, hts⟩ (k_X4_readerOf l D cI cR cS cL o x v tl b r 4 hSI hb28 (by omega) (by omega)) (cwV 2 hts gL_board_X4_readerOf rfl rfl rfl (by decide +kernel) ⟨Nat.le_of_ble_eq_true rfl, Nat.le_of_ble_eq_true rfl⟩) (o_v (o_pR hK hN hP) (va_recv hK hP (ci := 4) (q0 := 0) rfl rfl)) rfl rfl hl.1 rfl (lv_room (Nat.le_of_ble_eq_true rfl)) dL_board_432 ⟨Nat.zero_le _, Nat.zero_le _⟩) (fun r1 e1 => ?_)
  have e1 : r1 = nI (c_rdr v r 4) := e1
  subst e1
  refine o_ti (show nI (c_rdr v r 4) = nI (v (5 + 3 * r) 6) from congrArg nI rfl) ?_
  refine o_icmp_gt (tgt := 596) hx hb dL_board_435 (by decide) (by omega) (by omega) (fun z => absurd z (by omega)) (fun _ => ?_)
  refine lv_aload_n hx hb dL_board_438 rfl (lv_at hl 10 rfl) ?_
  refine lv_iload hx hb dL_board_439 (lv_at hl 6 rfl) ?_
  refine o_const (k := 0) hx hb dL_board_441 (by decide) ?_
  refine o_ri (va_runV (As := [.int (nI r), .int (nI 0)]) (rest := []) ⟨hx, hb, hml, hown, hts⟩ (k_X4_readerOf l D cI cR cS cL o x v tl b r 0 hSI hb28 (by omega) (by omega)) (cwV 2 hts gL_board_X4_readerOf rfl rfl rfl (by decide +kernel) ⟨Nat.le_of_ble_eq_true rfl, Nat.le_of_ble_eq_true rfl⟩) (o_v (o_pR hK hN hP) (va_recv hK hP (ci := 4) (q0 := 0) rfl rfl)) rfl rfl hl.1 rfl (lv_room (Nat.le_of_ble_eq_true rfl)) dL_board_442 ⟨Nat.zero_le _, Nat.zero_le _⟩) (fun r1 e1 => ?_)
  have e1 : r1 = nI (c_rdr v r 0) := e1
  subst e1
  refine o_ti (show nI (c_rdr v r 0) = nI 1 from congrArg nI hD0) ?_
  refine o_const (k := 2) hx hb dL_board_445 (by decide) ?_
  refine o_icmp_ne (tgt := 453) hx hb dL_board_446 (by decide) (Nat.le_of_ble_eq_true rfl) (Nat.le_of_ble_eq_true rfl) (fun _ => ?_) (fun z => absurd z (by decide))
  refine o_const (k := 0) hx hb dL_board_453 (by decide) ?_
  refine lv_iload hx hb dL_board_454 (lv_at hl 4 rfl) ?_
  refine o_if_eq (tgt := 485) hx hb dL_board_456 (by decide) (Nat.le_of_ble_eq_true rfl) (fun z => absurd z (by decide)) (fun _ => ?_)
  refine lv_iload hx hb dL_board_459 (lv_at hl 5 rfl) ?_
  refine o_const (k := 4294967295) hx hb dL_board_461 (by decide) ?_
  refine o_icmp_ne (tgt := 485) hx hb dL_board_462 (by decide) (by omega) (Nat.le_of_ble_eq_true rfl) (fun _ => ?_) (fun z => absurd z (by omega))
  refine o_const (k := 0) hx hb dL_board_485 (by decide) ?_
  refine o_icmp_ne (tgt := 596) hx hb dL_board_486 (by decide) (Nat.le_of_ble_eq_true rfl) (Nat.le_of_ble_eq_true rfl) (fun z => absurd z (by decide)) (fun _ => ?_)
  refine lv_iload hx hb dL_board_489 (lv_at hl 3 rfl) ?_
  refine o_const (k := 4294967295) hx hb dL_board_491 (by decide) ?_
  refine o_icmp_ne (tgt := 499) hx hb dL_board_492 (by decide) (Nat.le_of_ble_eq_true rfl) (Nat.le_of_ble_eq_true rfl) (fun _ => ?_) (fun z => absurd z (by decide))
  refine o_const (k := 0) hx hb dL_board_499 (by decide) ?_
  refine lv_aload_n hx hb dL_board_500 rfl (lv_at hl 10 rfl) ?_
  refine lv_iload hx hb dL_board_501 (lv_at hl 6 rfl) ?_
  refine o_const (k := 0) hx hb dL_board_503 (by decide) ?_
  refine o_ri (va_runV (As := [.int (nI r), .int (nI 0)]) (rest := [.int (nI 0)]) ⟨hx, hb, hml, hown, hts⟩ (k_X4_readerOf l D cI cR cS cL o x v tl b r 0 hSI hb28 (by omega) (by omega)) (cwV 2 hts gL_board_X4_readerOf rfl rfl rfl (by decide +kernel) ⟨Nat.le_of_ble_eq_true rfl, Nat.le_of_ble_eq_true rfl⟩) (o_v (o_pR hK hN hP) (va_recv hK hP (ci := 4) (q0 := 0) rfl rfl)) rfl rfl hl.1 rfl (lv_room (Nat.le_of_ble_eq_true rfl)) dL_board_504 ⟨Nat.zero_le _, Nat.zero_le _⟩) (fun r1 e1 => ?_)
  have e1 : r1 = nI (c_rdr v r 0) := e1
  subst e1
  refine o_ti (show nI (c_rdr v r 0) = nI 1 from congrArg nI hD0) ?_
  refine o_const (k := 2) hx hb dL_board_507 (by decide) ?_
  refine o_icmp_ne (tgt := 515) hx hb dL_board_508 (by decide) (Nat.le_of_ble_eq_true rfl) (Nat.le_of_ble_eq_true rfl) (fun _ => ?_) (fun z => absurd z (by decide))
  refine o_const (k := 0) hx hb dL_board_515 (by decide) ?_
  refine o_icmp_ne (tgt := 596) hx hb dL_board_516 (by decide) (Nat.le_of_ble_eq_true rfl) (Nat.le_of_ble_eq_true rfl) (fun z => absurd z (by decide)) (fun _ => ?_)
  refine lv_iload hx hb dL_board_519 (lv_at hl 4 rfl) ?_
  refine o_if_ne (tgt := 530) hx hb dL_board_521 (by decide) (Nat.le_of_ble_eq_true rfl) (fun _ => ?_) (fun z => absurd z (by decide))
  refine lv_iload_n hx hb dL_board_530 rfl (lv_at hl 8 rfl) ?_
  refine o_const (k := 2) hx hb dL_board_531 (by decide) ?_
  refine o_irem (a := (v 0 0)) (b := 2) (k := ((v 0 0) % 2)) hx hb dL_board_532 (by omega) (by decide) (Nat.le_of_ble_eq_true rfl) rfl ?_
  refine o_const (k := 1) hx hb dL_board_533 (by decide) ?_
  refine o_icmp_eq (tgt := 563) hx hb dL_board_534 (by decide) (by omega) (Nat.le_of_ble_eq_true rfl) (fun z => absurd z (by omega)) (fun _ => ?_)
  refine lv_iload hx hb dL_board_537 (lv_at hl 5 rfl) ?_
  refine o_if_ge (tgt := 563) hx hb dL_board_539 (by decide) (by omega) ?_
  refine lv_iload hx hb dL_board_563 (lv_at hl 3 rfl) ?_
  refine o_const (k := 1) hx hb dL_board_565 (by decide) ?_
  refine o_icmp_eq (tgt := 578) hx hb dL_board_566 (by decide) (Nat.le_of_ble_eq_true rfl) (Nat.le_of_ble_eq_true rfl) (fun _ => ?_) (fun z => absurd z (by decide))
  refine lv_iload hx hb dL_board_578 (lv_at hl 4 rfl) ?_
  refine o_if_eq (tgt := 592) hx hb dL_board_580 (by decide) (Nat.le_of_ble_eq_true rfl) (fun z => absurd z (by decide)) (fun _ => ?_)
  refine lv_aload_n hx hb dL_board_583 rfl (lv_at hl 10 rfl) ?_
  refine lv_iload hx hb dL_board_584 (lv_at hl 6 rfl) ?_
  refine o_wiA (va_runV (As := [.int (nI r)]) (rest := []) ⟨hx, hb, hml, hown, hts⟩ (k_X4_wouldBeHalf l D cI cR cS cL H.size o x v tl b r hSI hb28 (by omega)) (cwV 1 hts gL_board_X4_wouldBeHalf rfl rfl rfl (by decide +kernel) ⟨Nat.le_of_ble_eq_true rfl, Nat.le_of_ble_eq_true rfl⟩) (o_v (o_pB hK hN hP hD) (va_recv hK hP (ci := 4) (q0 := 0) rfl rfl)) rfl rfl hl.1 rfl (lv_room (Nat.le_of_ble_eq_true rfl)) dL_board_586 ⟨Nat.zero_le _, Nat.zero_le _⟩) hD hS hA (fun _ => rfl) (fun r1 _ H locs e1 hP hD hS => ?_)
  have e1 : r1 = nI (c_half v r) := e1
  subst e1
  have hP : va_P D vwCl (wO o cI cR cS (va_up x 2 (c_wtf v r (x 2))) v tl) H := hP
  have hD : va_D A (wO o cI cR cS (va_up x 2 (c_wtf v r (x 2))) v tl) := hD
  refine o_ti (show nI (c_half v r) = nI 0 from congrArg nI hF) ?_
  refine o_if_ne (tgt := 596) hx hb dL_board_589 (by decide) (Nat.le_of_ble_eq_true rfl) (fun z => absurd z (by decide)) (fun _ => ?_)
  refine o_const (k := 1) hx hb dL_board_592 (by decide) ?_
  refine lv_goto (tgt := 597) hx hb dL_board_593 (by decide) ?_
  refine lv_istore (lv' := [(6, .int (nI 1)), (5, .int (nI ((qa_ps v 7 r) + (v (5 + 3 * r) 7)))), (4, .int (nI ((qa_ps v 6 r) + (v (5 + 3 * r) 6)))), (3, .int (nI ((qa_ps v 1 r) + 1))), (10, .int (nI 1)), (9, .int (nI 1)), (8, .int (nI (v (5 + 3 * r) 3))), (7, .int (nI r)), (1, .int (nI (v 0 0))), (2, .int (nI ((v 0 0) / 2))), (0, .ref (o 0))]) hx hb dL_board_597 hl (by decide) rfl (fun ls hl => ?_)
  refine lv_iinc (v := nI (r + 1)) (lv' := [(7, .int (nI (r + 1))), (6, .int (nI 1)), (5, .int (nI ((qa_ps v 7 r) + (v (5 + 3 * r) 7)))), (4, .int (nI ((qa_ps v 6 r) + (v (5 + 3 * r) 6)))), (3, .int (nI ((qa_ps v 1 r) + 1))), (10, .int (nI 1)), (9, .int (nI 1)), (8, .int (nI (v (5 + 3 * r) 3))), (1, .int (nI (v 0 0))), (2, .int (nI ((v 0 0) / 2))), (0, .ref (o 0))]) hx hb dL_board_599 hl (k := 7) rfl (o_inc1 _) (by decide) rfl (fun ls hl => ?_)
  refine lv_goto (tgt := 267) hx hb dL_board_602 (by decide) ?_
  have hl := o_lvset hl 4 rfl (congrArg Value.int (congrArg nI (show ((qa_ps v 1 r) + 1) = (qa_ps v 1 (r + 1)) by show _ = qa_ps v 1 r + v (5 + 3 * r) 1; omega)))
  have hl := o_lvset hl 3 rfl (congrArg Value.int (congrArg nI (show ((qa_ps v 6 r) + (v (5 + 3 * r) 6)) = (qa_ps v 6 (r + 1)) by show _ = qa_ps v 6 r + v (5 + 3 * r) 6; omega)))
  have hl := o_lvset hl 2 rfl (congrArg Value.int (congrArg nI (show ((qa_ps v 7 r) + (v (5 + 3 * r) 7)) = (qa_ps v 7 (r + 1)) by show _ = qa_ps v 7 r + v (5 + 3 * r) 7; omega)))
  exact K H locs _ ls hP hD hS rfl (lv_sub hl [0, 1, 8, 9, 4, 3, 2, 10] rfl)
set_option maxHeartbeats 4000000 in
set_option maxRecDepth 100000 in
theorem ya_rA1b {p : Program} {l : Launch} {e : Env} {s : State} {m : MethodId} {args : Array Value} {below : List Frame} {meth : Method} {c : Code} {Q : State → Prop} {D : va_G} {cI cR cS cL : ClassId} {o : Nat → Nat} {v : Nat → Nat → Nat} {tl : va_W} {A : Nat → Prop} {b : Nat} {H : Heap} {locs : List Loc} {ls : Array Slot} {x : Nat → Nat → Nat} {r : Nat} (C : ya_B p s m args c D cI cR cS cL v A b) (hP : va_P D vwCl (wO o cI cR cS x v tl) H) (hD : va_D A (wO o cI cR cS x v tl)) (hS : va_S A s.heap H locs) (hr : r < 4) (hl : lv_has ls 11 [(7, .int (nI r)), (6, .int (nI 1)), (1, .int (nI (v 0 0))), (2, .int (nI ((v 0 0) / 2))), (3, .int (nI (qa_ps v 1 r))), (4, .int (nI (qa_ps v 6 r))), (5, .int (nI (qa_ps v 7 r))), (0, .ref (o 0))]) (K : ∀ (H : Heap) (locs : List Loc) (x' : Nat → Nat → Nat) (ls : Array Slot), va_P D vwCl (wO o cI cR cS x' v tl) H → va_D A (wO o cI cR cS x' v tl) → va_S A s.heap H locs → x' 0 = x 0 → lv_has ls 11 [(7, .int (nI (r + 1))), (6, .int (nI 1)), (1, .int (nI (v 0 0))), (2, .int (nI ((v 0 0) / 2))), (3, .int (nI (qa_ps v 1 (r + 1)))), (4, .int (nI (qa_ps v 6 (r + 1)))), (5, .int (nI (qa_ps v 7 (r + 1)))), (0, .ref (o 0))] → W p l e ({ frames := 4, cells := 0, slots := 0, locals := 88 } : Room) s m args below meth c H locs 0 0 Q (F0 m 267 ls [])) (hrd : ¬ v (5 + 3 * r) 1 = 0) (hhd : ¬ v (5 + 3 * r) 0 = 0) (hnn : ¬ v (5 + 3 * r) 3 = v 0 0) (hp : v 0 0 % 2 = 1) : W p l e ({ frames := 4, cells := 0, slots := 0, locals := 88 } : Room) s m args below meth c H locs 0 0 Q (F0 m 267 ls []) := by
  obtain ⟨hx, hb, hml, hown, hts, hK, hN, hA, hI, hb27⟩ := C
  have hSI := hI.1
  have hb28 : b < 2 ^ 28 := by omega
  have hn0 : v 0 0 < 2 ^ 29 := by have := hSI.1.1; omega
  have hIR := hSI.2 r hr
  unfold s_IR at hIR
  have hRR := hI.2.2.2.1 r hr
  have hrow := hRR.2
  have hst := hSI.1.2.2.1
  obtain ⟨hD0, hN1, hT2⟩ := qa_d1 hrd
  have hO := qa_o1 hrd
  have hno := (hRR.1 hrd).1
  have hH7 : c_rdr v r 7 = 1 := if_neg hhd
  have hev := ((hRR.1 hrd).2 hhd).1
  rw [if_pos ⟨hhd, hnn⟩] at hO
  have hF : c_half v r = 0 := qa_half1 (by rw [hO]; decide)
  clear hRR
  refine lv_iload hx hb dL_board_267 (lv_at hl 0 rfl) ?_
  refine o_const (k := 4) hx hb dL_board_269 (by decide) ?_
  refine o_icmp_ge (tgt := 605) hx hb dL_board_270 (by decide) (by omega) (Nat.le_of_ble_eq_true rfl) (fun z => absurd z (by omega)) (fun _ => ?_)
  refine lv_iload hx hb dL_board_273 (lv_at hl 1 rfl) ?_
  refine o_if_eq (tgt := 605) hx hb dL_board_275 (by decide) (Nat.le_of_ble_eq_true rfl) (fun z => absurd z (by decide)) (fun _ => ?_)
  refine lv_aload_n hx hb dL_board_278 rfl (lv_at hl 7 rfl) ?_
  refine lv_iload hx hb dL_board_279 (lv_at hl 0 rfl) ?_
  refine o_const (k := 1) hx hb dL_board_281 (by decide) ?_
  refine o_ri (va_runV (As := [.int (nI r), .int (nI 1)]) (rest := []) ⟨hx, hb, hml, hown, hts⟩ (k_X4_readerOf l D cI cR cS cL o x v tl b r 1 hSI hb28 (by omega) (by omega)) (cwV 2 hts gL_board_X4_readerOf rfl rfl rfl (by decide +kernel) ⟨Nat.le_of_ble_eq_true rfl, Nat.le_of_ble_eq_true rfl⟩) (o_v (o_pR hK hN hP) (va_recv hK hP (ci := 4) (q0 := 0) rfl rfl)) rfl rfl hl.1 rfl (lv_room (Nat.le_of_ble_eq_true rfl)) dL_board_282 ⟨Nat.zero_le _, Nat.zero_le _⟩) (fun r1 e1 => ?_)
  have e1 : r1 = nI (c_rdr v r 1) := e1
  subst e1
  refine o_ti (show nI (c_rdr v r 1) = nI (v (5 + 3 * r) 3) from congrArg nI hN1) ?_
  refine lv_istore (lv' := [(8, .int (nI (v (5 + 3 * r) 3))), (7, .int (nI r)), (6, .int (nI 1)), (1, .int (nI (v 0 0))), (2, .int (nI ((v 0 0) / 2))), (3, .int (nI (qa_ps v 1 r))), (4, .int (nI (qa_ps v 6 r))), (5, .int (nI (qa_ps v 7 r))), (0, .ref (o 0))]) hx hb dL_board_285 hl (by decide) rfl (fun ls hl => ?_)
  refine lv_aload_n hx hb dL_board_287 rfl (lv_at hl 8 rfl) ?_
  refine lv_iload hx hb dL_board_288 (lv_at hl 1 rfl) ?_
  refine o_bipush (k := 7) hx hb dL_board_290 (by decide) ?_
  refine o_ri (va_runV (As := [.int (nI r), .int (nI 7)]) (rest := []) ⟨hx, hb, hml, hown, hts⟩ (k_X4_readerOf l D cI cR cS cL o x v tl b r 7 hSI hb28 (by omega) (by omega)) (cwV 2 hts gL_board_X4_readerOf rfl rfl rfl (by decide +kernel) ⟨Nat.le_of_ble_eq_true rfl, Nat.le_of_ble_eq_true rfl⟩) (o_v (o_pR hK hN hP) (va_recv hK hP (ci := 4) (q0 := 0) rfl rfl)) rfl rfl hl.1 rfl (lv_room (Nat.le_of_ble_eq_true rfl)) dL_board_292 ⟨Nat.zero_le _, Nat.zero_le _⟩) (fun r1 e1 => ?_)
  have e1 : r1 = nI (c_rdr v r 7) := e1
  subst e1
  refine o_ti (show nI (c_rdr v r 7) = nI 1 from congrArg nI hH7) ?_
  refine o_const (k := 1) hx hb dL_board_295 (by decide) ?_
  refine o_icmp_ne (tgt := 303) hx hb dL_board_296 (by decide) (Nat.le_of_ble_eq_true rfl) (Nat.le_of_ble_eq_true rfl) (fun z => absurd z (by decide)) (fun _ => ?_)
  refine o_const (k := 1) hx hb dL_board_299 (by decide) ?_
  refine lv_goto (tgt := 304) hx hb dL_board_300 (by decide) ?_
  refine lv_istore (lv' := [(9, .int (nI 1)), (8, .int (nI (v (5 + 3 * r) 3))), (7, .int (nI r)), (6, .int (nI 1)), (1, .int (nI (v 0 0))), (2, .int (nI ((v 0 0) / 2))), (3, .int (nI (qa_ps v 1 r))), (4, .int (nI (qa_ps v 6 r))), (5, .int (nI (qa_ps v 7 r))), (0, .ref (o 0))]) hx hb dL_board_304 hl (by decide) rfl (fun ls hl => ?_)
  refine lv_aload_n hx hb dL_board_306 rfl (lv_at hl 9 rfl) ?_
  refine lv_iload hx hb dL_board_307 (lv_at hl 2 rfl) ?_
  refine o_ri (va_runV (As := [.int (nI r)]) (rest := []) ⟨hx, hb, hml, hown, hts⟩ (k_X4_ifRead l D cI cR cS cL o x v tl b r hSI hb28 (by omega)) (cwV 1 hts gL_board_X4_ifRead rfl rfl rfl (by decide +kernel) ⟨Nat.le_of_ble_eq_true rfl, Nat.le_of_ble_eq_true rfl⟩) (o_v (o_pR hK hN hP) (va_recv hK hP (ci := 4) (q0 := 0) rfl rfl)) rfl rfl hl.1 rfl (lv_room (Nat.le_of_ble_eq_true rfl)) dL_board_309 ⟨Nat.zero_le _, Nat.zero_le _⟩) (fun r1 e1 => ?_)
  have e1 : r1 = nI (s_out v r) := e1
  subst e1
  refine o_ti (show nI (s_out v r) = nI 0 from congrArg nI hO) ?_
  refine lv_istore (lv' := [(10, .int (nI 0)), (9, .int (nI 1)), (8, .int (nI (v (5 + 3 * r) 3))), (7, .int (nI r)), (6, .int (nI 1)), (1, .int (nI (v 0 0))), (2, .int (nI ((v 0 0) / 2))), (3, .int (nI (qa_ps v 1 r))), (4, .int (nI (qa_ps v 6 r))), (5, .int (nI (qa_ps v 7 r))), (0, .ref (o 0))]) hx hb dL_board_312 hl (by decide) rfl (fun ls hl => ?_)
  refine lv_iload_n hx hb dL_board_314 rfl (lv_at hl 7 rfl) ?_
  refine lv_aload_n hx hb dL_board_315 rfl (lv_at hl 10 rfl) ?_
  refine lv_iload hx hb dL_board_316 (lv_at hl 3 rfl) ?_
  refine o_const (k := 0) hx hb dL_board_318 (by decide) ?_
  refine o_ri (va_runV (As := [.int (nI r), .int (nI 0)]) (rest := [.int (nI (qa_ps v 1 r))]) ⟨hx, hb, hml, hown, hts⟩ (k_X4_readerOf l D cI cR cS cL o x v tl b r 0 hSI hb28 (by omega) (by omega)) (cwV 2 hts gL_board_X4_readerOf rfl rfl rfl (by decide +kernel) ⟨Nat.le_of_ble_eq_true rfl, Nat.le_of_ble_eq_true rfl⟩) (o_v (o_pR hK hN hP) (va_recv hK hP (ci := 4) (q0 := 0) rfl rfl)) rfl rfl hl.1 rfl (lv_room (Nat.le_of_ble_eq_true rfl)) dL_board_319 ⟨Nat.zero_le _, Nat.zero_le _⟩) (fun r1 e1 => ?_)
  have e1 : r1 = nI (c_rdr v r 0) := e1
  subst e1
  refine o_ti (show nI (c_rdr v r 0) = nI 1 from congrArg nI hD0) ?_
  refine o_const (k := 1) hx hb dL_board_322 (by decide) ?_
  refine o_icmp_ne (tgt := 330) hx hb dL_board_323 (by decide) (Nat.le_of_ble_eq_true rfl) (Nat.le_of_ble_eq_true rfl) (fun z => absurd z (by decide)) (fun _ => ?_)
  refine o_const (k := 1) hx hb dL_board_326 (by decide) ?_
  refine lv_goto (tgt := 331) hx hb dL_board_327 (by decide) ?_
  refine o_iadd (a := (qa_ps v 1 r)) (b := 1) (k := ((qa_ps v 1 r) + 1)) hx hb dL_board_331 rfl ?_
  refine lv_istore_n (lv' := [(3, .int (nI ((qa_ps v 1 r) + 1))), (10, .int (nI 0)), (9, .int (nI 1)), (8, .int (nI (v (5 + 3 * r) 3))), (7, .int (nI r)), (6, .int (nI 1)), (1, .int (nI (v 0 0))), (2, .int (nI ((v 0 0) / 2))), (4, .int (nI (qa_ps v 6 r))), (5, .int (nI (qa_ps v 7 r))), (0, .ref (o 0))]) hx hb dL_board_332 rfl hl (by decide) rfl (fun ls hl => ?_)
  refine lv_iload hx hb dL_board_333 (lv_at hl 8 rfl) ?_
  refine lv_aload_n hx hb dL_board_335 rfl (lv_at hl 10 rfl) ?_
  refine lv_iload hx hb dL_board_336 (lv_at hl 4 rfl) ?_
  refine o_const (k := 4) hx hb dL_board_338 (by decide) ?_
  refine o_ri (va_runV (As := [.int (nI r), .int (nI 4)]) (rest := [.int (nI (qa_ps v 6 r))]) ⟨hx, hb, hml, hown, hts⟩ (k_X4_readerOf l D cI cR cS cL o x v tl b r 4 hSI hb28 (by omega) (by omega)) (cwV 2 hts gL_board_X4_readerOf rfl rfl rfl (by decide +kernel) ⟨Nat.le_of_ble_eq_true rfl, Nat.le_of_ble_eq_true rfl⟩) (o_v (o_pR hK hN hP) (va_recv hK hP (ci := 4) (q0 := 0) rfl rfl)) rfl rfl hl.1 rfl (lv_room (Nat.le_of_ble_eq_true rfl)) dL_board_339 ⟨Nat.zero_le _, Nat.zero_le _⟩) (fun r1 e1 => ?_)
  have e1 : r1 = nI (c_rdr v r 4) := e1
  subst e1
  refine o_ti (show nI (c_rdr v r 4) = nI (v (5 + 3 * r) 6) from congrArg nI rfl) ?_
  refine o_iadd (a := (qa_ps v 6 r)) (b := (v (5 + 3 * r) 6)) (k := ((qa_ps v 6 r) + (v (5 + 3 * r) 6))) hx hb dL_board_342 rfl ?_
  refine lv_istore (lv' := [(4, .int (nI ((qa_ps v 6 r) + (v (5 + 3 * r) 6)))), (3, .int (nI ((qa_ps v 1 r) + 1))), (10, .int (nI 0)), (9, .int (nI 1)), (8, .int (nI (v (5 + 3 * r) 3))), (7, .int (nI r)), (6, .int (nI 1)), (1, .int (nI (v 0 0))), (2, .int (nI ((v 0 0) / 2))), (5, .int (nI (qa_ps v 7 r))), (0, .ref (o 0))]) hx hb dL_board_343 hl (by decide) rfl (fun ls hl => ?_)
  refine lv_iload hx hb dL_board_345 (lv_at hl 9 rfl) ?_
  refine lv_aload_n hx hb dL_board_347 rfl (lv_at hl 10 rfl) ?_
  refine lv_iload hx hb dL_board_348 (lv_at hl 5 rfl) ?_
  refine o_const (k := 5) hx hb dL_board_350 (by decide) ?_
  refine o_ri (va_runV (As := [.int (nI r), .int (nI 5)]) (rest := [.int (nI (qa_ps v 7 r))]) ⟨hx, hb, hml, hown, hts⟩ (k_X4_readerOf l D cI cR cS cL o x v tl b r 5 hSI hb28 (by omega) (by omega)) (cwV 2 hts gL_board_X4_readerOf rfl rfl rfl (by decide +kernel) ⟨Nat.le_of_ble_eq_true rfl, Nat.le_of_ble_eq_true rfl⟩) (o_v (o_pR hK hN hP) (va_recv hK hP (ci := 4) (q0 := 0) rfl rfl)) rfl rfl hl.1 rfl (lv_room (Nat.le_of_ble_eq_true rfl)) dL_board_351 ⟨Nat.zero_le _, Nat.zero_le _⟩) (fun r1 e1 => ?_)
  have e1 : r1 = nI (c_rdr v r 5) := e1
  subst e1
  refine o_ti (show nI (c_rdr v r 5) = nI (v (5 + 3 * r) 7) from congrArg nI rfl) ?_
  refine o_iadd (a := (qa_ps v 7 r)) (b := (v (5 + 3 * r) 7)) (k := ((qa_ps v 7 r) + (v (5 + 3 * r) 7))) hx hb dL_board_354 rfl ?_
  refine lv_istore (lv' := [(5, .int (nI ((qa_ps v 7 r) + (v (5 + 3 * r) 7)))), (4, .int (nI ((qa_ps v 6 r) + (v (5 + 3 * r) 6)))), (3, .int (nI ((qa_ps v 1 r) + 1))), (10, .int (nI 0)), (9, .int (nI 1)), (8, .int (nI (v (5 + 3 * r) 3))), (7, .int (nI r)), (6, .int (nI 1)), (1, .int (nI (v 0 0))), (2, .int (nI ((v 0 0) / 2))), (0, .ref (o 0))]) hx hb dL_board_355 hl (by decide) rfl (fun ls hl => ?_)
  refine lv_iload hx hb dL_board_357 (lv_at hl 5 rfl) ?_
  refine lv_iload_n hx hb dL_board_359 rfl (lv_at hl 8 rfl) ?_
  refine o_icmp_gt (tgt := 596) hx hb dL_board_360 (by decide) (by omega) (by omega) (fun z => absurd z (by omega)) (fun _ => ?_)
  refine lv_iload hx hb dL_board_363 (lv_at hl 5 rfl) ?_
  refine o_const (k := 4294967295) hx hb dL_board_365 (by decide) ?_
  refine o_icmp_eq (tgt := 381) hx hb dL_board_366 (by decide) (by omega) (Nat.le_of_ble_eq_true rfl) (fun z => absurd z (by omega)) (fun _ => ?_)
  refine lv_iload hx hb dL_board_369 (lv_at hl 4 rfl) ?_
  refine o_if_eq (tgt := 381) hx hb dL_board_371 (by decide) (Nat.le_of_ble_eq_true rfl) (fun z => absurd z (by decide)) (fun _ => ?_)
  refine lv_iload hx hb dL_board_374 (lv_at hl 5 rfl) ?_
  refine o_const (k := 2) hx hb dL_board_376 (by decide) ?_
  refine o_irem (a := (v (5 + 3 * r) 3)) (b := 2) (k := ((v (5 + 3 * r) 3) % 2)) hx hb dL_board_377 (by omega) (by decide) (Nat.le_of_ble_eq_true rfl) rfl ?_
  refine o_if_ne (tgt := 596) hx hb dL_board_378 (by decide) (by omega) (fun z => absurd z (by omega)) (fun _ => ?_)
  refine lv_iload hx hb dL_board_381 (lv_at hl 5 rfl) ?_
  refine o_if_lt (tgt := 390) hx hb dL_board_383 (by decide) (by omega) ?_
  refine o_const (k := 1) hx hb dL_board_386 (by decide) ?_
  refine lv_goto (tgt := 391) hx hb dL_board_387 (by decide) ?_
  refine lv_aload_n hx hb dL_board_391 rfl (lv_at hl 10 rfl) ?_
  refine lv_iload hx hb dL_board_392 (lv_at hl 6 rfl) ?_
  refine o_const (k := 0) hx hb dL_board_394 (by decide) ?_
  refine o_ri (va_runV (As := [.int (nI r), .int (nI 0)]) (rest := [.int (nI 1)]) ⟨hx, hb, hml, hown, hts⟩ (k_X4_readerOf l D cI cR cS cL o x v tl b r 0 hSI hb28 (by omega) (by omega)) (cwV 2 hts gL_board_X4_readerOf rfl rfl rfl (by decide +kernel) ⟨Nat.le_of_ble_eq_true rfl, Nat.le_of_ble_eq_true rfl⟩) (o_v (o_pR hK hN hP) (va_recv hK hP (ci := 4) (q0 := 0) rfl rfl)) rfl rfl hl.1 rfl (lv_room (Nat.le_of_ble_eq_true rfl)) dL_board_395 ⟨Nat.zero_le _, Nat.zero_le _⟩) (fun r1 e1 => ?_)
  have e1 : r1 = nI (c_rdr v r 0) := e1
  subst e1
  refine o_ti (show nI (c_rdr v r 0) = nI 1 from congrArg nI hD0) ?_
  refine o_const (k := 1) hx hb dL_board_398 (by decide) ?_
  refine o_icmp_ne (tgt := 406) hx hb dL_board_399 (by decide) (Nat.le_of_ble_eq_true rfl) (Nat.le_of_ble_eq_true rfl) (fun z => absurd z (by decide)) (fun _ => ?_)
  refine o_const (k := 1) hx hb dL_board_402 (by decide) ?_
  refine lv_goto (tgt := 407) hx hb dL_board_403 (by decide) ?_
  refine o_icmp_ne (tgt := 596) hx hb dL_board_407 (by decide) (Nat.le_of_ble_eq_true rfl) (Nat.le_of_ble_eq_true rfl) (fun z => absurd z (by decide)) (fun _ => ?_)
  refine lv_aload_n hx hb dL_board_410 rfl (lv_at hl 10 rfl) ?_
  refine lv_iload hx hb dL_board_411 (lv_at hl 6 rfl) ?_
  refine o_const (k := 2) hx hb dL_board_413 (by decide) ?_
  refine o_ri (va_runV (As := [.int (nI r), .int (nI 2)]) (rest := []) ⟨hx, hb, hml, hown, hts⟩ (k_X4_readerOf l D cI cR cS cL o x v tl b r 2 hSI hb28 (by omega) (by omega)) (cwV 2 hts gL_board_X4_readerOf rfl rfl rfl (by decide +kernel) ⟨Nat.le_of_ble_eq_true rfl, Nat.le_of_ble_eq_true rfl⟩) (o_v (o_pR hK hN hP) (va_recv hK hP (ci := 4) (q0 := 0) rfl rfl)) rfl rfl hl.1 rfl (lv_room (Nat.le_of_ble_eq_true rfl)) dL_board_414 ⟨Nat.zero_le _, Nat.zero_le _⟩) (fun r1 e1 => ?_)
  have e1 : r1 = nI (c_rdr v r 2) := e1
  subst e1
  refine o_ti (show nI (c_rdr v r 2) = nI (v (5 + 3 * r) 4) from congrArg nI hT2) ?_
  refine o_const (k := 5) hx hb dL_board_417 (by decide) ?_
  refine o_icmp_gt (tgt := 596) hx hb dL_board_418 (by decide) (by omega) (Nat.le_of_ble_eq_true rfl) (fun z => absurd z (by omega)) (fun _ => ?_)
  refine lv_aload_n hx hb dL_board_421 rfl (lv_at hl 10 rfl) ?_
  refine lv_iload hx hb dL_board_422 (lv_at hl 6 rfl) ?_
  refine o_const (k := 3) hx hb dL_board_424 (by decide) ?_
  refine o_ri (va_runV (As := [.int (nI r), .int (nI 3)]) (rest := []) ⟨hx, hb, hml, hown, hts⟩ (k_X4_readerOf l D cI cR cS cL o x v tl b r 3 hSI hb28 (by omega) (by omega)) (cwV 2 hts gL_board_X4_readerOf rfl rfl rfl (by decide +kernel) ⟨Nat.le_of_ble_eq_true rfl, Nat.le_of_ble_eq_true rfl⟩) (o_v (o_pR hK hN hP) (va_recv hK hP (ci := 4) (q0 := 0) rfl rfl)) rfl rfl hl.1 rfl (lv_room (Nat.le_of_ble_eq_true rfl)) dL_board_425 ⟨Nat.zero_le _, Nat.zero_le _⟩) (fun r1 e1 => ?_)
  have e1 : r1 = nI (c_rdr v r 3) := e1
  subst e1
  refine o_ti (show nI (c_rdr v r 3) = nI (v (5 + 3 * r) 5) from congrArg nI rfl) ?_
  refine lv_aload_n hx hb dL_board_428 rfl (lv_at hl 10 rfl) ?_
  refine lv_iload hx hb dL_board_429 (lv_at hl 6 rfl) ?_
  refine o_const (k := 4) hx hb dL_board_431 (by decide) ?_
  refine o_ri (va_runV (As := [.int (nI r), .int (nI 4)]) (rest := [.int (nI (v (5 + 3 * r) 5))]) ⟨hx, hb, hml, hown, hts⟩ (k_X4_readerOf l D cI cR cS cL o x v tl b r 4 hSI hb28 (by omega) (by omega)) (cwV 2 hts gL_board_X4_readerOf rfl rfl rfl (by decide +kernel) ⟨Nat.le_of_ble_eq_true rfl, Nat.le_of_ble_eq_true rfl⟩) (o_v (o_pR hK hN hP) (va_recv hK hP (ci := 4) (q0 := 0) rfl rfl)) rfl rfl hl.1 rfl (lv_room (Nat.le_of_ble_eq_true rfl)) dL_board_432 ⟨Nat.zero_le _, Nat.zero_le _⟩) (fun r1 e1 => ?_)
  have e1 : r1 = nI (c_rdr v r 4) := e1
  subst e1
  refine o_ti (show nI (c_rdr v r 4) = nI (v (5 + 3 * r) 6) from congrArg nI rfl) ?_
  refine o_icmp_gt (tgt := 596) hx hb dL_board_435 (by decide) (by omega) (by omega) (fun z => absurd z (by omega)) (fun _ => ?_)
  refine lv_aload_n hx hb dL_board_438 rfl (lv_at hl 10 rfl) ?_
  refine lv_iload hx hb dL_board_439 (lv_at hl 6 rfl) ?_
  refine o_const (k := 0) hx hb dL_board_441 (by decide) ?_
  refine o_ri (va_runV (As := [.int (nI r), .int (nI 0)]) (rest := []) ⟨hx, hb, hml, hown, hts⟩ (k_X4_readerOf l D cI cR cS cL o x v tl b r 0 hSI hb28 (by omega) (by omega)) (cwV 2 hts gL_board_X4_readerOf rfl rfl rfl (by decide +kernel) ⟨Nat.le_of_ble_eq_true rfl, Nat.le_of_ble_eq_true rfl⟩) (o_v (o_pR hK hN hP) (va_recv hK hP (ci := 4) (q0 := 0) rfl rfl)) rfl rfl hl.1 rfl (lv_room (Nat.le_of_ble_eq_true rfl)) dL_board_442 ⟨Nat.zero_le _, Nat.zero_le _⟩) (fun r1 e1 => ?_)
  have e1 : r1 = nI (c_rdr v r 0) := e1
  subst e1
  refine o_ti (show nI (c_rdr v r 0) = nI 1 from congrArg nI hD0) ?_
  refine o_const (k := 2) hx hb dL_board_445 (by decide) ?_
  refine o_icmp_ne (tgt := 453) hx hb dL_board_446 (by decide) (Nat.le_of_ble_eq_true rfl) (Nat.le_of_ble_eq_true rfl) (fun _ => ?_) (fun z => absurd z (by decide))
  refine o_const (k := 0) hx hb dL_board_453 (by decide) ?_
  refine lv_iload hx hb dL_board_454 (lv_at hl 4 rfl) ?_
  refine o_if_eq (tgt := 485) hx hb dL_board_456 (by decide) (Nat.le_of_ble_eq_true rfl) (fun z => absurd z (by decide)) (fun _ => ?_)
  refine lv_iload hx hb dL_board_459 (lv_at hl 5 rfl) ?_
  refine o_const (k := 4294967295) hx hb dL_board_461 (by decide) ?_
  refine o_icmp_ne (tgt := 485) hx hb dL_board_462 (by decide) (by omega) (Nat.le_of_ble_eq_true rfl) (fun _ => ?_) (fun z => absurd z (by omega))
  refine o_const (k := 0) hx hb dL_board_485 (by decide) ?_
  refine o_icmp_ne (tgt := 596) hx hb dL_board_486 (by decide) (Nat.le_of_ble_eq_true rfl) (Nat.le_of_ble_eq_true rfl) (fun z => absurd z (by decide)) (fun _ => ?_)
  refine lv_iload hx hb dL_board_489 (lv_at hl 3 rfl) ?_
  refine o_const (k := 4294967295) hx hb dL_board_491 (by decide) ?_
  refine o_icmp_ne (tgt := 499) hx hb dL_board_492 (by decide) (Nat.le_of_ble_eq_true rfl) (Nat.le_of_ble_eq_true rfl) (fun _ => ?_) (fun z => absurd z (by decide))
  refine o_const (k := 0) hx hb dL_board_499 (by decide) ?_
  refine lv_aload_n hx hb dL_board_500 rfl (lv_at hl 10 rfl) ?_
  refine lv_iload hx hb dL_board_501 (lv_at hl 6 rfl) ?_
  refine o_const (k := 0) hx hb dL_board_503 (by decide) ?_
  refine o_ri (va_runV (As := [.int (nI r), .int (nI 0)]) (rest := [.int (nI 0)]) ⟨hx, hb, hml, hown, hts⟩ (k_X4_readerOf l D cI cR cS cL o x v tl b r 0 hSI hb28 (by omega) (by omega)) (cwV 2 hts gL_board_X4_readerOf rfl rfl rfl (by decide +kernel) ⟨Nat.le_of_ble_eq_true rfl, Nat.le_of_ble_eq_true rfl⟩) (o_v (o_pR hK hN hP) (va_recv hK hP (ci := 4) (q0 := 0) rfl rfl)) rfl rfl hl.1 rfl (lv_room (Nat.le_of_ble_eq_true rfl)) dL_board_504 ⟨Nat.zero_le _, Nat.zero_le _⟩) (fun r1 e1 => ?_)
  have e1 : r1 = nI (c_rdr v r 0) := e1
  subst e1
  refine o_ti (show nI (c_rdr v r 0) = nI 1 from congrArg nI hD0) ?_
  refine o_const (k := 2) hx hb dL_board_507 (by decide) ?_
  refine o_icmp_ne (tgt := 515) hx hb dL_board_508 (by decide) (Nat.le_of_ble_eq_true rfl) (Nat.le_of_ble_eq_true rfl) (fun _ => ?_) (fun z => absurd z (by decide))
  refine o_const (k := 0) hx hb dL_board_515 (by decide) ?_
  refine o_icmp_ne (tgt := 596) hx hb dL_board_516 (by decide) (Nat.le_of_ble_eq_true rfl) (Nat.le_of_ble_eq_true rfl) (fun z => absurd z (by decide)) (fun _ => ?_)
  refine lv_iload hx hb dL_board_519 (lv_at hl 4 rfl) ?_
  refine o_if_ne (tgt := 530) hx hb dL_board_521 (by decide) (Nat.le_of_ble_eq_true rfl) (fun _ => ?_) (fun z => absurd z (by decide))
  refine lv_iload_n hx hb dL_board_530 rfl (lv_at hl 8 rfl) ?_
  refine o_const (k := 2) hx hb dL_board_531 (by decide) ?_
  refine o_irem (a := (v 0 0)) (b := 2) (k := ((v 0 0) % 2)) hx hb dL_board_532 (by omega) (by decide) (Nat.le_of_ble_eq_true rfl) rfl ?_
  refine o_const (k := 1) hx hb dL_board_533 (by decide) ?_
  refine o_icmp_eq (tgt := 563) hx hb dL_board_534 (by decide) (by omega) (Nat.le_of_ble_eq_true rfl) (fun _ => ?_) (fun z => absurd z (by omega))
  refine lv_iload hx hb dL_board_563 (lv_at hl 3 rfl) ?_
  refine o_const (k := 1) hx hb dL_board_565 (by decide) ?_
  refine o_icmp_eq (tgt := 578) hx hb dL_board_566 (by decide) (Nat.le_of_ble_eq_true rfl) (Nat.le_of_ble_eq_true rfl) (fun z => absurd z (by decide)) (fun _ => ?_)
  refine lv_aload_n hx hb dL_board_569 rfl (lv_at hl 10 rfl) ?_
  refine lv_iload hx hb dL_board_570 (lv_at hl 6 rfl) ?_
  refine o_wiA (va_runV (As := [.int (nI r)]) (rest := []) ⟨hx, hb, hml, hown, hts⟩ (k_X4_wouldBeHalf l D cI cR cS cL H.size o x v tl b r hSI hb28 (by omega)) (cwV 1 hts gL_board_X4_wouldBeHalf rfl rfl rfl (by decide +kernel) ⟨Nat.le_of_ble_eq_true rfl, Nat.le_of_ble_eq_true rfl⟩) (o_v (o_pB hK hN hP hD) (va_recv hK hP (ci := 4) (q0 := 0) rfl rfl)) rfl rfl hl.1 rfl (lv_room (Nat.le_of_ble_eq_true rfl)) dL_board_572 ⟨Nat.zero_le _, Nat.zero_le _⟩) hD hS hA (fun _ => rfl) (fun r1 _ H locs e1 hP hD hS => ?_)
  have e1 : r1 = nI (c_half v r) := e1
  subst e1
  have hP : va_P D vwCl (wO o cI cR cS (va_up x 2 (c_wtf v r (x 2))) v tl) H := hP
  have hD : va_D A (wO o cI cR cS (va_up x 2 (c_wtf v r (x 2))) v tl) := hD
  refine o_ti (show nI (c_half v r) = nI 0 from congrArg nI hF) ?_
  refine o_if_ne (tgt := 596) hx hb dL_board_575 (by decide) (Nat.le_of_ble_eq_true rfl) (fun z => absurd z (by decide)) (fun _ => ?_)
  refine lv_iload hx hb dL_board_578 (lv_at hl 4 rfl) ?_
  refine o_if_eq (tgt := 592) hx hb dL_board_580 (by decide) (Nat.le_of_ble_eq_true rfl) (fun z => absurd z (by decide)) (fun _ => ?_)
  refine lv_aload_n hx hb dL_board_583 rfl (lv_at hl 10 rfl) ?_
  refine lv_iload hx hb dL_board_584 (lv_at hl 6 rfl) ?_
  refine o_wiA (va_runV (As := [.int (nI r)]) (rest := []) ⟨hx, hb, hml, hown, hts⟩ (k_X4_wouldBeHalf l D cI cR cS cL H.size o (va_up x 2 (c_wtf v r (x 2))) v tl b r hSI hb28 (by omega)) (cwV 1 hts gL_board_X4_wouldBeHalf rfl rfl rfl (by decide +kernel) ⟨Nat.le_of_ble_eq_true rfl, Nat.le_of_ble_eq_true rfl⟩) (o_v (o_pB hK hN hP hD) (va_recv hK hP (ci := 4) (q0 := 0) rfl rfl)) rfl rfl hl.1 rfl (lv_room (Nat.le_of_ble_eq_true rfl)) dL_board_586 ⟨Nat.zero_le _, Nat.zero_le _⟩) hD hS hA (fun _ => rfl) (fun r1 _ H locs e1 hP hD hS => ?_)
  have e1 : r1 = nI (c_half v r) := e1
  subst e1
  have hP : va_P D vwCl (wO o cI cR cS (va_up (va_up x 2 (c_wtf v r (x 2))) 2 (c_wtf v r ((va_up x 2 (c_wtf v r (x 2))) 2))) v tl) H := hP
  have hD : va_D A (wO o cI cR cS (va_up (va_up x 2 (c_wtf v r (x 2))) 2 (c_wtf v r ((va_up x 2 (c_wtf v r (x 2))) 2))) v tl) := hD
  refine o_ti (show nI (c_half v r) = nI 0 from congrArg nI hF) ?_
  refine o_if_ne (tgt := 596) hx hb dL_board_589 (by decide) (Nat.le_of_ble_eq_true rfl) (fun z => absurd z (by decide)) (fun _ => ?_)
  refine o_const (k := 1) hx hb dL_board_592 (by decide) ?_
  refine lv_goto (tgt := 597) hx hb dL_board_593 (by decide) ?_
  refine lv_istore (lv' := [(6, .int (nI 1)), (5, .int (nI ((qa_ps v 7 r) + (v (5 + 3 * r) 7)))), (4, .int (nI ((qa_ps v 6 r) + (v (5 + 3 * r) 6)))), (3, .int (nI ((qa_ps v 1 r) + 1))), (10, .int (nI 0)), (9, .int (nI 1)), (8, .int (nI (v (5 + 3 * r) 3))), (7, .int (nI r)), (1, .int (nI (v 0 0))), (2, .int (nI ((v 0 0) / 2))), (0, .ref (o 0))]) hx hb dL_board_597 hl (by decide) rfl (fun ls hl => ?_)
  refine lv_iinc (v := nI (r + 1)) (lv' := [(7, .int (nI (r + 1))), (6, .int (nI 1)), (5, .int (nI ((qa_ps v 7 r) + (v (5 + 3 * r) 7)))), (4, .int (nI ((qa_ps v 6 r) + (v (5 + 3 * r) 6)))), (3, .int (nI ((qa_ps v 1 r) + 1))), (10, .int (nI 0)), (9, .int (nI 1)), (8, .int (nI (v (5 + 3 * r) 3))), (1, .int (nI (v 0 0))), (2, .int (nI ((v 0 0) / 2))), (0, .ref (o 0))]) hx hb dL_board_599 hl (k := 7) rfl (o_inc1 _) (by decide) rfl (fun ls hl => ?_)
  refine lv_goto (tgt := 267) hx hb dL_board_602 (by decide) ?_
  have hl := o_lvset hl 4 rfl (congrArg Value.int (congrArg nI (show ((qa_ps v 1 r) + 1) = (qa_ps v 1 (r + 1)) by show _ = qa_ps v 1 r + v (5 + 3 * r) 1; omega)))
  have hl := o_lvset hl 3 rfl (congrArg Value.int (congrArg nI (show ((qa_ps v 6 r) + (v (5 + 3 * r) 6)) = (qa_ps v 6 (r + 1)) by show _ = qa_ps v 6 r + v (5 + 3 * r) 6; omega)))
  have hl := o_lvset hl 2 rfl (congrArg Value.int (congrArg nI (show ((qa_ps v 7 r) + (v (5 + 3 * r) 7)) = (qa_ps v 7 (r + 1)) by show _ = qa_ps v 7 r + v (5 + 3 * r) 7; omega)))
  exact K H locs _ ls hP hD hS rfl (lv_sub hl [0, 1, 8, 9, 4, 3, 2, 10] rfl)
set_option maxHeartbeats 4000000 in
set_option maxRecDepth 100000 in
theorem ya_rA1c {p : Program} {l : Launch} {e : Env} {s : State} {m : MethodId} {args : Array Value} {below : List Frame} {meth : Method} {c : Code} {Q : State → Prop} {D : va_G} {cI cR cS cL : ClassId} {o : Nat → Nat} {v : Nat → Nat → Nat} {tl : va_W} {A : Nat → Prop} {b : Nat} {H : Heap} {locs : List Loc} {ls : Array Slot} {x : Nat → Nat → Nat} {r : Nat} (C : ya_B p s m args c D cI cR cS cL v A b) (hP : va_P D vwCl (wO o cI cR cS x v tl) H) (hD : va_D A (wO o cI cR cS x v tl)) (hS : va_S A s.heap H locs) (hr : r < 4) (hl : lv_has ls 11 [(7, .int (nI r)), (6, .int (nI 1)), (1, .int (nI (v 0 0))), (2, .int (nI ((v 0 0) / 2))), (3, .int (nI (qa_ps v 1 r))), (4, .int (nI (qa_ps v 6 r))), (5, .int (nI (qa_ps v 7 r))), (0, .ref (o 0))]) (K : ∀ (H : Heap) (locs : List Loc) (x' : Nat → Nat → Nat) (ls : Array Slot), va_P D vwCl (wO o cI cR cS x' v tl) H → va_D A (wO o cI cR cS x' v tl) → va_S A s.heap H locs → x' 0 = x 0 → lv_has ls 11 [(7, .int (nI (r + 1))), (6, .int (nI 1)), (1, .int (nI (v 0 0))), (2, .int (nI ((v 0 0) / 2))), (3, .int (nI (qa_ps v 1 (r + 1)))), (4, .int (nI (qa_ps v 6 (r + 1)))), (5, .int (nI (qa_ps v 7 (r + 1)))), (0, .ref (o 0))] → W p l e ({ frames := 4, cells := 0, slots := 0, locals := 88 } : Room) s m args below meth c H locs 0 0 Q (F0 m 267 ls [])) (hrd : ¬ v (5 + 3 * r) 1 = 0) (hhd : ¬ v (5 + 3 * r) 0 = 0) (hnn : ¬ v (5 + 3 * r) 3 = v 0 0) (hp : ¬ v 0 0 % 2 = 1) : W p l e ({ frames := 4, cells := 0, slots := 0, locals := 88 } : Room) s m args below meth c H locs 0 0 Q (F0 m 267 ls []) := by
  obtain ⟨hx, hb, hml, hown, hts, hK, hN, hA, hI, hb27⟩ := C
  have hSI := hI.1
  have hb28 : b < 2 ^ 28 := by omega
  have hn0 : v 0 0 < 2 ^ 29 := by have := hSI.1.1; omega
  have hIR := hSI.2 r hr
  unfold s_IR at hIR
  have hRR := hI.2.2.2.1 r hr
  have hrow := hRR.2
  have hst := hSI.1.2.2.1
  obtain ⟨hD0, hN1, hT2⟩ := qa_d1 hrd
  have hO := qa_o1 hrd
  have hno := (hRR.1 hrd).1
  have hH7 : c_rdr v r 7 = 1 := if_neg hhd
  have hev := ((hRR.1 hrd).2 hhd).1
  rw [if_pos ⟨hhd, hnn⟩] at hO
  have hF : c_half v r = 0 := qa_half1 (by rw [hO]; decide)
  clear hRR
  refine lv_iload hx hb dL_board_267 (lv_at hl 0 rfl) ?_
  refine o_const (k := 4) hx hb dL_board_269 (by decide) ?_
  refine o_icmp_ge (tgt := 605) hx hb dL_board_270 (by decide) (by omega) (Nat.le_of_ble_eq_true rfl) (fun z => absurd z (by omega)) (fun _ => ?_)
  refine lv_iload hx hb dL_board_273 (lv_at hl 1 rfl) ?_
  refine o_if_eq (tgt := 605) hx hb dL_board_275 (by decide) (Nat.le_of_ble_eq_true rfl) (fun z => absurd z (by decide)) (fun _ => ?_)
  refine lv_aload_n hx hb dL_board_278 rfl (lv_at hl 7 rfl) ?_
  refine lv_iload hx hb dL_board_279 (lv_at hl 0 rfl) ?_
  refine o_const (k := 1) hx hb dL_board_281 (by decide) ?_
  refine o_ri (va_runV (As := [.int (nI r), .int (nI 1)]) (rest := []) ⟨hx, hb, hml, hown, hts⟩ (k_X4_readerOf l D cI cR cS cL o x v tl b r 1 hSI hb28 (by omega) (by omega)) (cwV 2 hts gL_board_X4_readerOf rfl rfl rfl (by decide +kernel) ⟨Nat.le_of_ble_eq_true rfl, Nat.le_of_ble_eq_true rfl⟩) (o_v (o_pR hK hN hP) (va_recv hK hP (ci := 4) (q0 := 0) rfl rfl)) rfl rfl hl.1 rfl (lv_room (Nat.le_of_ble_eq_true rfl)) dL_board_282 ⟨Nat.zero_le _, Nat.zero_le _⟩) (fun r1 e1 => ?_)
  have e1 : r1 = nI (c_rdr v r 1) := e1
  subst e1
  refine o_ti (show nI (c_rdr v r 1) = nI (v (5 + 3 * r) 3) from congrArg nI hN1) ?_
  refine lv_istore (lv' := [(8, .int (nI (v (5 + 3 * r) 3))), (7, .int (nI r)), (6, .int (nI 1)), (1, .int (nI (v 0 0))), (2, .int (nI ((v 0 0) / 2))), (3, .int (nI (qa_ps v 1 r))), (4, .int (nI (qa_ps v 6 r))), (5, .int (nI (qa_ps v 7 r))), (0, .ref (o 0))]) hx hb dL_board_285 hl (by decide) rfl (fun ls hl => ?_)
  refine lv_aload_n hx hb dL_board_287 rfl (lv_at hl 8 rfl) ?_
  refine lv_iload hx hb dL_board_288 (lv_at hl 1 rfl) ?_
  refine o_bipush (k := 7) hx hb dL_board_290 (by decide) ?_
  refine o_ri (va_runV (As := [.int (nI r), .int (nI 7)]) (rest := []) ⟨hx, hb, hml, hown, hts⟩ (k_X4_readerOf l D cI cR cS cL o x v tl b r 7 hSI hb28 (by omega) (by omega)) (cwV 2 hts gL_board_X4_readerOf rfl rfl rfl (by decide +kernel) ⟨Nat.le_of_ble_eq_true rfl, Nat.le_of_ble_eq_true rfl⟩) (o_v (o_pR hK hN hP) (va_recv hK hP (ci := 4) (q0 := 0) rfl rfl)) rfl rfl hl.1 rfl (lv_room (Nat.le_of_ble_eq_true rfl)) dL_board_292 ⟨Nat.zero_le _, Nat.zero_le _⟩) (fun r1 e1 => ?_)
  have e1 : r1 = nI (c_rdr v r 7) := e1
  subst e1
  refine o_ti (show nI (c_rdr v r 7) = nI 1 from congrArg nI hH7) ?_
  refine o_const (k := 1) hx hb dL_board_295 (by decide) ?_
  refine o_icmp_ne (tgt := 303) hx hb dL_board_296 (by decide) (Nat.le_of_ble_eq_true rfl) (Nat.le_of_ble_eq_true rfl) (fun z => absurd z (by decide)) (fun _ => ?_)
  refine o_const (k := 1) hx hb dL_board_299 (by decide) ?_
  refine lv_goto (tgt := 304) hx hb dL_board_300 (by decide) ?_
  refine lv_istore (lv' := [(9, .int (nI 1)), (8, .int (nI (v (5 + 3 * r) 3))), (7, .int (nI r)), (6, .int (nI 1)), (1, .int (nI (v 0 0))), (2, .int (nI ((v 0 0) / 2))), (3, .int (nI (qa_ps v 1 r))), (4, .int (nI (qa_ps v 6 r))), (5, .int (nI (qa_ps v 7 r))), (0, .ref (o 0))]) hx hb dL_board_304 hl (by decide) rfl (fun ls hl => ?_)
  refine lv_aload_n hx hb dL_board_306 rfl (lv_at hl 9 rfl) ?_
  refine lv_iload hx hb dL_board_307 (lv_at hl 2 rfl) ?_
  refine o_ri (va_runV (As := [.int (nI r)]) (rest := []) ⟨hx, hb, hml, hown, hts⟩ (k_X4_ifRead l D cI cR cS cL o x v tl b r hSI hb28 (by omega)) (cwV 1 hts gL_board_X4_ifRead rfl rfl rfl (by decide +kernel) ⟨Nat.le_of_ble_eq_true rfl, Nat.le_of_ble_eq_true rfl⟩) (o_v (o_pR hK hN hP) (va_recv hK hP (ci := 4) (q0 := 0) rfl rfl)) rfl rfl hl.1 rfl (lv_room (Nat.le_of_ble_eq_true rfl)) dL_board_309 ⟨Nat.zero_le _, Nat.zero_le _⟩) (fun r1 e1 => ?_)
  have e1 : r1 = nI (s_out v r) := e1
  subst e1
  refine o_ti (show nI (s_out v r) = nI 0 from congrArg nI hO) ?_
  refine lv_istore (lv' := [(10, .int (nI 0)), (9, .int (nI 1)), (8, .int (nI (v (5 + 3 * r) 3))), (7, .int (nI r)), (6, .int (nI 1)), (1, .int (nI (v 0 0))), (2, .int (nI ((v 0 0) / 2))), (3, .int (nI (qa_ps v 1 r))), (4, .int (nI (qa_ps v 6 r))), (5, .int (nI (qa_ps v 7 r))), (0, .ref (o 0))]) hx hb dL_board_312 hl (by decide) rfl (fun ls hl => ?_)
  refine lv_iload_n hx hb dL_board_314 rfl (lv_at hl 7 rfl) ?_
  refine lv_aload_n hx hb dL_board_315 rfl (lv_at hl 10 rfl) ?_
  refine lv_iload hx hb dL_board_316 (lv_at hl 3 rfl) ?_
  refine o_const (k := 0) hx hb dL_board_318 (by decide) ?_
  refine o_ri (va_runV (As := [.int (nI r), .int (nI 0)]) (rest := [.int (nI (qa_ps v 1 r))]) ⟨hx, hb, hml, hown, hts⟩ (k_X4_readerOf l D cI cR cS cL o x v tl b r 0 hSI hb28 (by omega) (by omega)) (cwV 2 hts gL_board_X4_readerOf rfl rfl rfl (by decide +kernel) ⟨Nat.le_of_ble_eq_true rfl, Nat.le_of_ble_eq_true rfl⟩) (o_v (o_pR hK hN hP) (va_recv hK hP (ci := 4) (q0 := 0) rfl rfl)) rfl rfl hl.1 rfl (lv_room (Nat.le_of_ble_eq_true rfl)) dL_board_319 ⟨Nat.zero_le _, Nat.zero_le _⟩) (fun r1 e1 => ?_)
  have e1 : r1 = nI (c_rdr v r 0) := e1
  subst e1
  refine o_ti (show nI (c_rdr v r 0) = nI 1 from congrArg nI hD0) ?_
  refine o_const (k := 1) hx hb dL_board_322 (by decide) ?_
  refine o_icmp_ne (tgt := 330) hx hb dL_board_323 (by decide) (Nat.le_of_ble_eq_true rfl) (Nat.le_of_ble_eq_true rfl) (fun z => absurd z (by decide)) (fun _ => ?_)
  refine o_const (k := 1) hx hb dL_board_326 (by decide) ?_
  refine lv_goto (tgt := 331) hx hb dL_board_327 (by decide) ?_
  refine o_iadd (a := (qa_ps v 1 r)) (b := 1) (k := ((qa_ps v 1 r) + 1)) hx hb dL_board_331 rfl ?_
  refine lv_istore_n (lv' := [(3, .int (nI ((qa_ps v 1 r) + 1))), (10, .int (nI 0)), (9, .int (nI 1)), (8, .int (nI (v (5 + 3 * r) 3))), (7, .int (nI r)), (6, .int (nI 1)), (1, .int (nI (v 0 0))), (2, .int (nI ((v 0 0) / 2))), (4, .int (nI (qa_ps v 6 r))), (5, .int (nI (qa_ps v 7 r))), (0, .ref (o 0))]) hx hb dL_board_332 rfl hl (by decide) rfl (fun ls hl => ?_)
  refine lv_iload hx hb dL_board_333 (lv_at hl 8 rfl) ?_
  refine lv_aload_n hx hb dL_board_335 rfl (lv_at hl 10 rfl) ?_
  refine lv_iload hx hb dL_board_336 (lv_at hl 4 rfl) ?_
  refine o_const (k := 4) hx hb dL_board_338 (by decide) ?_
  refine o_ri (va_runV (As := [.int (nI r), .int (nI 4)]) (rest := [.int (nI (qa_ps v 6 r))]) ⟨hx, hb, hml, hown, hts⟩ (k_X4_readerOf l D cI cR cS cL o x v tl b r 4 hSI hb28 (by omega) (by omega)) (cwV 2 hts gL_board_X4_readerOf rfl rfl rfl (by decide +kernel) ⟨Nat.le_of_ble_eq_true rfl, Nat.le_of_ble_eq_true rfl⟩) (o_v (o_pR hK hN hP) (va_recv hK hP (ci := 4) (q0 := 0) rfl rfl)) rfl rfl hl.1 rfl (lv_room (Nat.le_of_ble_eq_true rfl)) dL_board_339 ⟨Nat.zero_le _, Nat.zero_le _⟩) (fun r1 e1 => ?_)
  have e1 : r1 = nI (c_rdr v r 4) := e1
  subst e1
  refine o_ti (show nI (c_rdr v r 4) = nI (v (5 + 3 * r) 6) from congrArg nI rfl) ?_
  refine o_iadd (a := (qa_ps v 6 r)) (b := (v (5 + 3 * r) 6)) (k := ((qa_ps v 6 r) + (v (5 + 3 * r) 6))) hx hb dL_board_342 rfl ?_
  refine lv_istore (lv' := [(4, .int (nI ((qa_ps v 6 r) + (v (5 + 3 * r) 6)))), (3, .int (nI ((qa_ps v 1 r) + 1))), (10, .int (nI 0)), (9, .int (nI 1)), (8, .int (nI (v (5 + 3 * r) 3))), (7, .int (nI r)), (6, .int (nI 1)), (1, .int (nI (v 0 0))), (2, .int (nI ((v 0 0) / 2))), (5, .int (nI (qa_ps v 7 r))), (0, .ref (o 0))]) hx hb dL_board_343 hl (by decide) rfl (fun ls hl => ?_)
  refine lv_iload hx hb dL_board_345 (lv_at hl 9 rfl) ?_
  refine lv_aload_n hx hb dL_board_347 rfl (lv_at hl 10 rfl) ?_
  refine lv_iload hx hb dL_board_348 (lv_at hl 5 rfl) ?_
  refine o_const (k := 5) hx hb dL_board_350 (by decide) ?_
  refine o_ri (va_runV (As := [.int (nI r), .int (nI 5)]) (rest := [.int (nI (qa_ps v 7 r))]) ⟨hx, hb, hml, hown, hts⟩ (k_X4_readerOf l D cI cR cS cL o x v tl b r 5 hSI hb28 (by omega) (by omega)) (cwV 2 hts gL_board_X4_readerOf rfl rfl rfl (by decide +kernel) ⟨Nat.le_of_ble_eq_true rfl, Nat.le_of_ble_eq_true rfl⟩) (o_v (o_pR hK hN hP) (va_recv hK hP (ci := 4) (q0 := 0) rfl rfl)) rfl rfl hl.1 rfl (lv_room (Nat.le_of_ble_eq_true rfl)) dL_board_351 ⟨Nat.zero_le _, Nat.zero_le _⟩) (fun r1 e1 => ?_)
  have e1 : r1 = nI (c_rdr v r 5) := e1
  subst e1
  refine o_ti (show nI (c_rdr v r 5) = nI (v (5 + 3 * r) 7) from congrArg nI rfl) ?_
  refine o_iadd (a := (qa_ps v 7 r)) (b := (v (5 + 3 * r) 7)) (k := ((qa_ps v 7 r) + (v (5 + 3 * r) 7))) hx hb dL_board_354 rfl ?_
  refine lv_istore (lv' := [(5, .int (nI ((qa_ps v 7 r) + (v (5 + 3 * r) 7)))), (4, .int (nI ((qa_ps v 6 r) + (v (5 + 3 * r) 6)))), (3, .int (nI ((qa_ps v 1 r) + 1))), (10, .int (nI 0)), (9, .int (nI 1)), (8, .int (nI (v (5 + 3 * r) 3))), (7, .int (nI r)), (6, .int (nI 1)), (1, .int (nI (v 0 0))), (2, .int (nI ((v 0 0) / 2))), (0, .ref (o 0))]) hx hb dL_board_355 hl (by decide) rfl (fun ls hl => ?_)
  refine lv_iload hx hb dL_board_357 (lv_at hl 5 rfl) ?_
  refine lv_iload_n hx hb dL_board_359 rfl (lv_at hl 8 rfl) ?_
  refine o_icmp_gt (tgt := 596) hx hb dL_board_360 (by decide) (by omega) (by omega) (fun z => absurd z (by omega)) (fun _ => ?_)
  refine lv_iload hx hb dL_board_363 (lv_at hl 5 rfl) ?_
  refine o_const (k := 4294967295) hx hb dL_board_365 (by decide) ?_
  refine o_icmp_eq (tgt := 381) hx hb dL_board_366 (by decide) (by omega) (Nat.le_of_ble_eq_true rfl) (fun z => absurd z (by omega)) (fun _ => ?_)
  refine lv_iload hx hb dL_board_369 (lv_at hl 4 rfl) ?_
  refine o_if_eq (tgt := 381) hx hb dL_board_371 (by decide) (Nat.le_of_ble_eq_true rfl) (fun z => absurd z (by decide)) (fun _ => ?_)
  refine lv_iload hx hb dL_board_374 (lv_at hl 5 rfl) ?_
  refine o_const (k := 2) hx hb dL_board_376 (by decide) ?_
  refine o_irem (a := (v (5 + 3 * r) 3)) (b := 2) (k := ((v (5 + 3 * r) 3) % 2)) hx hb dL_board_377 (by omega) (by decide) (Nat.le_of_ble_eq_true rfl) rfl ?_
  refine o_if_ne (tgt := 596) hx hb dL_board_378 (by decide) (by omega) (fun z => absurd z (by omega)) (fun _ => ?_)
  refine lv_iload hx hb dL_board_381 (lv_at hl 5 rfl) ?_
  refine o_if_lt (tgt := 390) hx hb dL_board_383 (by decide) (by omega) ?_
  refine o_const (k := 1) hx hb dL_board_386 (by decide) ?_
  refine lv_goto (tgt := 391) hx hb dL_board_387 (by decide) ?_
  refine lv_aload_n hx hb dL_board_391 rfl (lv_at hl 10 rfl) ?_
  refine lv_iload hx hb dL_board_392 (lv_at hl 6 rfl) ?_
  refine o_const (k := 0) hx hb dL_board_394 (by decide) ?_
  refine o_ri (va_runV (As := [.int (nI r), .int (nI 0)]) (rest := [.int (nI 1)]) ⟨hx, hb, hml, hown, hts⟩ (k_X4_readerOf l D cI cR cS cL o x v tl b r 0 hSI hb28 (by omega) (by omega)) (cwV 2 hts gL_board_X4_readerOf rfl rfl rfl (by decide +kernel) ⟨Nat.le_of_ble_eq_true rfl, Nat.le_of_ble_eq_true rfl⟩) (o_v (o_pR hK hN hP) (va_recv hK hP (ci := 4) (q0 := 0) rfl rfl)) rfl rfl hl.1 rfl (lv_room (Nat.le_of_ble_eq_true rfl)) dL_board_395 ⟨Nat.zero_le _, Nat.zero_le _⟩) (fun r1 e1 => ?_)
  have e1 : r1 = nI (c_rdr v r 0) := e1
  subst e1
  refine o_ti (show nI (c_rdr v r 0) = nI 1 from congrArg nI hD0) ?_
  refine o_const (k := 1) hx hb dL_board_398 (by decide) ?_
  refine o_icmp_ne (tgt := 406) hx hb dL_board_399 (by decide) (Nat.le_of_ble_eq_true rfl) (Nat.le_of_ble_eq_true rfl) (fun z => absurd z (by decide)) (fun _ => ?_)
  refine o_const (k := 1) hx hb dL_board_402 (by decide) ?_
  refine lv_goto (tgt := 407) hx hb dL_board_403 (by decide) ?_
  refine o_icmp_ne (tgt := 596) hx hb dL_board_407 (by decide) (Nat.le_of_ble_eq_true rfl) (Nat.le_of_ble_eq_true rfl) (fun z => absurd z (by decide)) (fun _ => ?_)
  refine lv_aload_n hx hb dL_board_410 rfl (lv_at hl 10 rfl) ?_
  refine lv_iload hx hb dL_board_411 (lv_at hl 6 rfl) ?_
  refine o_const (k := 2) hx hb dL_board_413 (by decide) ?_
  refine o_ri (va_runV (As := [.int (nI r), .int (nI 2)]) (rest := []) ⟨hx, hb, hml, hown, hts⟩ (k_X4_readerOf l D cI cR cS cL o x v tl b r 2 hSI hb28 (by omega) (by omega)) (cwV 2 hts gL_board_X4_readerOf rfl rfl rfl (by decide +kernel) ⟨Nat.le_of_ble_eq_true rfl, Nat.le_of_ble_eq_true rfl⟩) (o_v (o_pR hK hN hP) (va_recv hK hP (ci := 4) (q0 := 0) rfl rfl)) rfl rfl hl.1 rfl (lv_room (Nat.le_of_ble_eq_true rfl)) dL_board_414 ⟨Nat.zero_le _, Nat.zero_le _⟩) (fun r1 e1 => ?_)
  have e1 : r1 = nI (c_rdr v r 2) := e1
  subst e1
  refine o_ti (show nI (c_rdr v r 2) = nI (v (5 + 3 * r) 4) from congrArg nI hT2) ?_
  refine o_const (k := 5) hx hb dL_board_417 (by decide) ?_
  refine o_icmp_gt (tgt := 596) hx hb dL_board_418 (by decide) (by omega) (Nat.le_of_ble_eq_true rfl) (fun z => absurd z (by omega)) (fun _ => ?_)
  refine lv_aload_n hx hb dL_board_421 rfl (lv_at hl 10 rfl) ?_
  refine lv_iload hx hb dL_board_422 (lv_at hl 6 rfl) ?_
  refine o_const (k := 3) hx hb dL_board_424 (by decide) ?_
  refine o_ri (va_runV (As := [.int (nI r), .int (nI 3)]) (rest := []) ⟨hx, hb, hml, hown, hts⟩ (k_X4_readerOf l D cI cR cS cL o x v tl b r 3 hSI hb28 (by omega) (by omega)) (cwV 2 hts gL_board_X4_readerOf rfl rfl rfl (by decide +kernel) ⟨Nat.le_of_ble_eq_true rfl, Nat.le_of_ble_eq_true rfl⟩) (o_v (o_pR hK hN hP) (va_recv hK hP (ci := 4) (q0 := 0) rfl rfl)) rfl rfl hl.1 rfl (lv_room (Nat.le_of_ble_eq_true rfl)) dL_board_425 ⟨Nat.zero_le _, Nat.zero_le _⟩) (fun r1 e1 => ?_)
  have e1 : r1 = nI (c_rdr v r 3) := e1
  subst e1
  refine o_ti (show nI (c_rdr v r 3) = nI (v (5 + 3 * r) 5) from congrArg nI rfl) ?_
  refine lv_aload_n hx hb dL_board_428 rfl (lv_at hl 10 rfl) ?_
  refine lv_iload hx hb dL_board_429 (lv_at hl 6 rfl) ?_
  refine o_const (k := 4) hx hb dL_board_431 (by decide) ?_
  refine o_ri (va_runV (As := [.int (nI r), .int (nI 4)]) (rest := [.int (nI (v (5 + 3 * r) 5))]) ⟨hx, hb, hml, hown, hts⟩ (k_X4_readerOf l D cI cR cS cL o x v tl b r 4 hSI hb28 (by omega) (by omega)) (cwV 2 hts gL_board_X4_readerOf rfl rfl rfl (by decide +kernel) ⟨Nat.le_of_ble_eq_true rfl, Nat.le_of_ble_eq_true rfl⟩) (o_v (o_pR hK hN hP) (va_recv hK hP (ci := 4) (q0 := 0) rfl rfl)) rfl rfl hl.1 rfl (lv_room (Nat.le_of_ble_eq_true rfl)) dL_board_432 ⟨Nat.zero_le _, Nat.zero_le _⟩) (fun r1 e1 => ?_)
  have e1 : r1 = nI (c_rdr v r 4) := e1
  subst e1
  refine o_ti (show nI (c_rdr v r 4) = nI (v (5 + 3 * r) 6) from congrArg nI rfl) ?_
  refine o_icmp_gt (tgt := 596) hx hb dL_board_435 (by decide) (by omega) (by omega) (fun z => absurd z (by omega)) (fun _ => ?_)
  refine lv_aload_n hx hb dL_board_438 rfl (lv_at hl 10 rfl) ?_
  refine lv_iload hx hb dL_board_439 (lv_at hl 6 rfl) ?_
  refine o_const (k := 0) hx hb dL_board_441 (by decide) ?_
  refine o_ri (va_runV (As := [.int (nI r), .int (nI 0)]) (rest := []) ⟨hx, hb, hml, hown, hts⟩ (k_X4_readerOf l D cI cR cS cL o x v tl b r 0 hSI hb28 (by omega) (by omega)) (cwV 2 hts gL_board_X4_readerOf rfl rfl rfl (by decide +kernel) ⟨Nat.le_of_ble_eq_true rfl, Nat.le_of_ble_eq_true rfl⟩) (o_v (o_pR hK hN hP) (va_recv hK hP (ci := 4) (q0 := 0) rfl rfl)) rfl rfl hl.1 rfl (lv_room (Nat.le_of_ble_eq_true rfl)) dL_board_442 ⟨Nat.zero_le _, Nat.zero_le _⟩) (fun r1 e1 => ?_)
  have e1 : r1 = nI (c_rdr v r 0) := e1
  subst e1
  refine o_ti (show nI (c_rdr v r 0) = nI 1 from congrArg nI hD0) ?_
  refine o_const (k := 2) hx hb dL_board_445 (by decide) ?_
  refine o_icmp_ne (tgt := 453) hx hb dL_board_446 (by decide) (Nat.le_of_ble_eq_true rfl) (Nat.le_of_ble_eq_true rfl) (fun _ => ?_) (fun z => absurd z (by decide))
  refine o_const (k := 0) hx hb dL_board_453 (by decide) ?_
  refine lv_iload hx hb dL_board_454 (lv_at hl 4 rfl) ?_
  refine o_if_eq (tgt := 485) hx hb dL_board_456 (by decide) (Nat.le_of_ble_eq_true rfl) (fun z => absurd z (by decide)) (fun _ => ?_)
  refine lv_iload hx hb dL_board_459 (lv_at hl 5 rfl) ?_
  refine o_const (k := 4294967295) hx hb dL_board_461 (by decide) ?_
  refine o_icmp_ne (tgt := 485) hx hb dL_board_462 (by decide) (by omega) (Nat.le_of_ble_eq_true rfl) (fun _ => ?_) (fun z => absurd z (by omega))
  refine o_const (k := 0) hx hb dL_board_485 (by decide) ?_
  refine o_icmp_ne (tgt := 596) hx hb dL_board_486 (by decide) (Nat.le_of_ble_eq_true rfl) (Nat.le_of_ble_eq_true rfl) (fun z => absurd z (by decide)) (fun _ => ?_)
  refine lv_iload hx hb dL_board_489 (lv_at hl 3 rfl) ?_
  refine o_const (k := 4294967295) hx hb dL_board_491 (by decide) ?_
  refine o_icmp_ne (tgt := 499) hx hb dL_board_492 (by decide) (Nat.le_of_ble_eq_true rfl) (Nat.le_of_ble_eq_true rfl) (fun _ => ?_) (fun z => absurd z (by decide))
  refine o_const (k := 0) hx hb dL_board_499 (by decide) ?_
  refine lv_aload_n hx hb dL_board_500 rfl (lv_at hl 10 rfl) ?_
  refine lv_iload hx hb dL_board_501 (lv_at hl 6 rfl) ?_
  refine o_const (k := 0) hx hb dL_board_503 (by decide) ?_
  refine o_ri (va_runV (As := [.int (nI r), .int (nI 0)]) (rest := [.int (nI 0)]) ⟨hx, hb, hml, hown, hts⟩ (k_X4_readerOf l D cI cR cS cL o x v tl b r 0 hSI hb28 (by omega) (by omega)) (cwV 2 hts gL_board_X4_readerOf rfl rfl rfl (by decide +kernel) ⟨Nat.le_of_ble_eq_true rfl, Nat.le_of_ble_eq_true rfl⟩) (o_v (o_pR hK hN hP) (va_recv hK hP (ci := 4) (q0 := 0) rfl rfl)) rfl rfl hl.1 rfl (lv_room (Nat.le_of_ble_eq_true rfl)) dL_board_504 ⟨Nat.zero_le _, Nat.zero_le _⟩) (fun r1 e1 => ?_)
  have e1 : r1 = nI (c_rdr v r 0) := e1
  subst e1
  refine o_ti (show nI (c_rdr v r 0) = nI 1 from congrArg nI hD0) ?_
  refine o_const (k := 2) hx hb dL_board_507 (by decide) ?_
  refine o_icmp_ne (tgt := 515) hx hb dL_board_508 (by decide) (Nat.le_of_ble_eq_true rfl) (Nat.le_of_ble_eq_true rfl) (fun _ => ?_) (fun z => absurd z (by decide))
  refine o_const (k := 0) hx hb dL_board_515 (by decide) ?_
  refine o_icmp_ne (tgt := 596) hx hb dL_board_516 (by decide) (Nat.le_of_ble_eq_true rfl) (Nat.le_of_ble_eq_true rfl) (fun z => absurd z (by decide)) (fun _ => ?_)
  refine lv_iload hx hb dL_board_519 (lv_at hl 4 rfl) ?_
  refine o_if_ne (tgt := 530) hx hb dL_board_521 (by decide) (Nat.le_of_ble_eq_true rfl) (fun _ => ?_) (fun z => absurd z (by decide))
  refine lv_iload_n hx hb dL_board_530 rfl (lv_at hl 8 rfl) ?_
  refine o_const (k := 2) hx hb dL_board_531 (by decide) ?_
  refine o_irem (a := (v 0 0)) (b := 2) (k := ((v 0 0) % 2)) hx hb dL_board_532 (by omega) (by decide) (Nat.le_of_ble_eq_true rfl) rfl ?_
  refine o_const (k := 1) hx hb dL_board_533 (by decide) ?_
  refine o_icmp_eq (tgt := 563) hx hb dL_board_534 (by decide) (by omega) (Nat.le_of_ble_eq_true rfl) (fun z => absurd z (by omega)) (fun _ => ?_)
  refine lv_iload hx hb dL_board_537 (lv_at hl 5 rfl) ?_
  refine o_if_ge (tgt := 563) hx hb dL_board_539 (by decide) (by omega) ?_
  refine lv_iload hx hb dL_board_563 (lv_at hl 3 rfl) ?_
  refine o_const (k := 1) hx hb dL_board_565 (by decide) ?_
  refine o_icmp_eq (tgt := 578) hx hb dL_board_566 (by decide) (Nat.le_of_ble_eq_true rfl) (Nat.le_of_ble_eq_true rfl) (fun z => absurd z (by decide)) (fun _ => ?_)
  refine lv_aload_n hx hb dL_board_569 rfl (lv_at hl 10 rfl) ?_
  refine lv_iload hx hb dL_board_570 (lv_at hl 6 rfl) ?_
  refine o_wiA (va_runV (As := [.int (nI r)]) (rest := []) ⟨hx, hb, hml, hown, hts⟩ (k_X4_wouldBeHalf l D cI cR cS cL H.size o x v tl b r hSI hb28 (by omega)) (cwV 1 hts gL_board_X4_wouldBeHalf rfl rfl rfl (by decide +kernel) ⟨Nat.le_of_ble_eq_true rfl, Nat.le_of_ble_eq_true rfl⟩) (o_v (o_pB hK hN hP hD) (va_recv hK hP (ci := 4) (q0 := 0) rfl rfl)) rfl rfl hl.1 rfl (lv_room (Nat.le_of_ble_eq_true rfl)) dL_board_572 ⟨Nat.zero_le _, Nat.zero_le _⟩) hD hS hA (fun _ => rfl) (fun r1 _ H locs e1 hP hD hS => ?_)
  have e1 : r1 = nI (c_half v r) := e1
  subst e1
  have hP : va_P D vwCl (wO o cI cR cS (va_up x 2 (c_wtf v r (x 2))) v tl) H := hP
  have hD : va_D A (wO o cI cR cS (va_up x 2 (c_wtf v r (x 2))) v tl) := hD
  refine o_ti (show nI (c_half v r) = nI 0 from congrArg nI hF) ?_
  refine o_if_ne (tgt := 596) hx hb dL_board_575 (by decide) (Nat.le_of_ble_eq_true rfl) (fun z => absurd z (by decide)) (fun _ => ?_)
  refine lv_iload hx hb dL_board_578 (lv_at hl 4 rfl) ?_
  refine o_if_eq (tgt := 592) hx hb dL_board_580 (by decide) (Nat.le_of_ble_eq_true rfl) (fun z => absurd z (by decide)) (fun _ => ?_)
  refine lv_aload_n hx hb dL_board_583 rfl (lv_at hl 10 rfl) ?_
  refine lv_iload hx hb dL_board_584 (lv_at hl 6 rfl) ?_
  refine o_wiA (va_runV (As := [.int (nI r)]) (rest := []) ⟨hx, hb, hml, hown, hts⟩ (k_X4_wouldBeHalf l D cI cR cS cL H.size o (va_up x 2 (c_wtf v r (x 2))) v tl b r hSI hb28 (by omega)) (cwV 1 hts gL_board_X4_wouldBeHalf rfl rfl rfl (by decide +kernel) ⟨Nat.le_of_ble_eq_true rfl, Nat.le_of_ble_eq_true rfl⟩) (o_v (o_pB hK hN hP hD) (va_recv hK hP (ci := 4) (q0 := 0) rfl rfl)) rfl rfl hl.1 rfl (lv_room (Nat.le_of_ble_eq_true rfl)) dL_board_586 ⟨Nat.zero_le _, Nat.zero_le _⟩) hD hS hA (fun _ => rfl) (fun r1 _ H locs e1 hP hD hS => ?_)
  have e1 : r1 = nI (c_half v r) := e1
  subst e1
  have hP : va_P D vwCl (wO o cI cR cS (va_up (va_up x 2 (c_wtf v r (x 2))) 2 (c_wtf v r ((va_up x 2 (c_wtf v r (x 2))) 2))) v tl) H := hP
  have hD : va_D A (wO o cI cR cS (va_up (va_up x 2 (c_wtf v r (x 2))) 2 (c_wtf v r ((va_up x 2 (c_wtf v r (x 2))) 2))) v tl) := hD
  refine o_ti (show nI (c_half v r) = nI 0 from congrArg nI hF) ?_
  refine o_if_ne (tgt := 596) hx hb dL_board_589 (by decide) (Nat.le_of_ble_eq_true rfl) (fun z => absurd z (by decide)) (fun _ => ?_)
  refine o_const (k := 1) hx hb dL_board_592 (by decide) ?_
  refine lv_goto (tgt := 597) hx hb dL_board_593 (by decide) ?_
  refine lv_istore (lv' := [(6, .int (nI 1)), (5, .int (nI ((qa_ps v 7 r) + (v (5 + 3 * r) 7)))), (4, .int (nI ((qa_ps v 6 r) + (v (5 + 3 * r) 6)))), (3, .int (nI ((qa_ps v 1 r) + 1))), (10, .int (nI 0)), (9, .int (nI 1)), (8, .int (nI (v (5 + 3 * r) 3))), (7, .int (nI r)), (1, .int (nI (v 0 0))), (2, .int (nI ((v 0 0) / 2))), (0, .ref (o 0))]) hx hb dL_board_597 hl (by decide) rfl (fun ls hl => ?_)
  refine lv_iinc (v := nI (r + 1)) (lv' := [(7, .int (nI (r + 1))), (6, .int (nI 1)), (5, .int (nI ((qa_ps v 7 r) + (v (5 + 3 * r) 7)))), (4, .int (nI ((qa_ps v 6 r) + (v (5 + 3 * r) 6)))), (3, .int (nI ((qa_ps v 1 r) + 1))), (10, .int (nI 0)), (9, .int (nI 1)), (8, .int (nI (v (5 + 3 * r) 3))), (1, .int (nI (v 0 0))), (2, .int (nI ((v 0 0) / 2))), (0, .ref (o 0))]) hx hb dL_board_599 hl (k := 7) rfl (o_inc1 _) (by decide) rfl (fun ls hl => ?_)
  refine lv_goto (tgt := 267) hx hb dL_board_602 (by decide) ?_
  have hl := o_lvset hl 4 rfl (congrArg Value.int (congrArg nI (show ((qa_ps v 1 r) + 1) = (qa_ps v 1 (r + 1)) by show _ = qa_ps v 1 r + v (5 + 3 * r) 1; omega)))
  have hl := o_lvset hl 3 rfl (congrArg Value.int (congrArg nI (show ((qa_ps v 6 r) + (v (5 + 3 * r) 6)) = (qa_ps v 6 (r + 1)) by show _ = qa_ps v 6 r + v (5 + 3 * r) 6; omega)))
  have hl := o_lvset hl 2 rfl (congrArg Value.int (congrArg nI (show ((qa_ps v 7 r) + (v (5 + 3 * r) 7)) = (qa_ps v 7 (r + 1)) by show _ = qa_ps v 7 r + v (5 + 3 * r) 7; omega)))
  exact K H locs _ ls hP hD hS rfl (lv_sub hl [0, 1, 8, 9, 4, 3, 2, 10] rfl)
set_option maxHeartbeats 4000000 in
set_option maxRecDepth 100000 in
theorem ya_rA2a {p : Program} {l : Launch} {e : Env} {s : State} {m : MethodId} {args : Array Value} {below : List Frame} {meth : Method} {c : Code} {Q : State → Prop} {D : va_G} {cI cR cS cL : ClassId} {o : Nat → Nat} {v : Nat → Nat → Nat} {tl : va_W} {A : Nat → Prop} {b : Nat} {H : Heap} {locs : List Loc} {ls : Array Slot} {x : Nat → Nat → Nat} {r : Nat} (C : ya_B p s m args c D cI cR cS cL v A b) (hP : va_P D vwCl (wO o cI cR cS x v tl) H) (hD : va_D A (wO o cI cR cS x v tl)) (hS : va_S A s.heap H locs) (hr : r < 4) (hl : lv_has ls 11 [(7, .int (nI r)), (6, .int (nI 1)), (1, .int (nI (v 0 0))), (2, .int (nI ((v 0 0) / 2))), (3, .int (nI (qa_ps v 1 r))), (4, .int (nI (qa_ps v 6 r))), (5, .int (nI (qa_ps v 7 r))), (0, .ref (o 0))]) (K : ∀ (H : Heap) (locs : List Loc) (x' : Nat → Nat → Nat) (ls : Array Slot), va_P D vwCl (wO o cI cR cS x' v tl) H → va_D A (wO o cI cR cS x' v tl) → va_S A s.heap H locs → x' 0 = x 0 → lv_has ls 11 [(7, .int (nI (r + 1))), (6, .int (nI 1)), (1, .int (nI (v 0 0))), (2, .int (nI ((v 0 0) / 2))), (3, .int (nI (qa_ps v 1 (r + 1)))), (4, .int (nI (qa_ps v 6 (r + 1)))), (5, .int (nI (qa_ps v 7 (r + 1)))), (0, .ref (o 0))] → W p l e ({ frames := 4, cells := 0, slots := 0, locals := 88 } : Room) s m args below meth c H locs 0 0 Q (F0 m 267 ls [])) (hrd : ¬ v (5 + 3 * r) 1 = 0) (hhd : v (5 + 3 * r) 0 = 0) (hp : v 0 0 % 2 = 1) : W p l e ({ frames := 4, cells := 0, slots := 0, locals := 88 } : Room) s m args below meth c H locs 0 0 Q (F0 m 267 ls []) := by
  obtain ⟨hx, hb, hml, hown, hts, hK, hN, hA, hI, hb27⟩ := C
  have hSI := hI.1
  have hb28 : b < 2 ^ 28 := by omega
  have hn0 : v 0 0 < 2 ^ 29 := by have := hSI.1.1; omega
  have hIR := hSI.2 r hr
  unfold s_IR at hIR
  have hRR := hI.2.2.2.1 r hr
  have hrow := hRR.2
  have hst := hSI.1.2.2.1
  obtain ⟨hD0, hN1, hT2⟩ := qa_d1 hrd
  have hO := qa_o1 hrd
  have hno := (hRR.1 hrd).1
  have hH7 : c_rdr v r 7 = 0 := if_pos hhd
  rw [if_neg (fun z => z.1 hhd)] at hO
  clear hRR
  refine lv_iload hx hb dL_board_267 (lv_at hl 0 rfl) ?_
  refine o_const (k := 4) hx hb dL_board_269 (by decide) ?_
  refine o_icmp_ge (tgt := 605) hx hb dL_board_270 (by decide) (by omega) (Nat.le_of_ble_eq_true rfl) (fun z => absurd z (by omega)) (fun _ => ?_)
  refine lv_iload hx hb dL_board_273 (lv_at hl 1 rfl) ?_
  refine o_if_eq (tgt := 605) hx hb dL_board_275 (by decide) (Nat.le_of_ble_eq_true rfl) (fun z => absurd z (by decide)) (fun _ => ?_)
  refine lv_aload_n hx hb dL_board_278 rfl (lv_at hl 7 rfl) ?_
  refine lv_iload hx hb dL_board_279 (lv_at hl 0 rfl) ?_
  refine o_const (k := 1) hx hb dL_board_281 (by decide) ?_
  refine o_ri (va_runV (As := [.int (nI r), .int (nI 1)]) (rest := []) ⟨hx, hb, hml, hown, hts⟩ (k_X4_readerOf l D cI cR cS cL o x v tl b r 1 hSI hb28 (by omega) (by omega)) (cwV 2 hts gL_board_X4_readerOf rfl rfl rfl (by decide +kernel) ⟨Nat.le_of_ble_eq_true rfl, Nat.le_of_ble_eq_true rfl⟩) (o_v (o_pR hK hN hP) (va_recv hK hP (ci := 4) (q0 := 0) rfl rfl)) rfl rfl hl.1 rfl (lv_room (Nat.le_of_ble_eq_true rfl)) dL_board_282 ⟨Nat.zero_le _, Nat.zero_le _⟩) (fun r1 e1 => ?_)
  have e1 : r1 = nI (c_rdr v r 1) := e1
  subst e1
  refine o_ti (show nI (c_rdr v r 1) = nI (v (5 + 3 * r) 3) from congrArg nI hN1) ?_
  refine lv_istore (lv' := [(8, .int (nI (v (5 + 3 * r) 3))), (7, .int (nI r)), (6, .int (nI 1)), (1, .int (nI (v 0 0))), (2, .int (nI ((v 0 0) / 2))), (3, .int (nI (qa_ps v 1 r))), (4, .int (nI (qa_ps v 6 r))), (5, .int (nI (qa_ps v 7 r))), (0, .ref (o 0))]) hx hb dL_board_285 hl (by decide) rfl (fun ls hl => ?_)
  refine lv_aload_n hx hb dL_board_287 rfl (lv_at hl 8 rfl) ?_
  refine lv_iload hx hb dL_board_288 (lv_at hl 1 rfl) ?_
  refine o_bipush (k := 7) hx hb dL_board_290 (by decide) ?_
  refine o_ri (va_runV (As := [.int (nI r), .int (nI 7)]) (rest := []) ⟨hx, hb, hml, hown, hts⟩ (k_X4_readerOf l D cI cR cS cL o x v tl b r 7 hSI hb28 (by omega) (by omega)) (cwV 2 hts gL_board_X4_readerOf rfl rfl rfl (by decide +kernel) ⟨Nat.le_of_ble_eq_true rfl, Nat.le_of_ble_eq_true rfl⟩) (o_v (o_pR hK hN hP) (va_recv hK hP (ci := 4) (q0 := 0) rfl rfl)) rfl rfl hl.1 rfl (lv_room (Nat.le_of_ble_eq_true rfl)) dL_board_292 ⟨Nat.zero_le _, Nat.zero_le _⟩) (fun r1 e1 => ?_)
  have e1 : r1 = nI (c_rdr v r 7) := e1
  subst e1
  refine o_ti (show nI (c_rdr v r 7) = nI 0 from congrArg nI hH7) ?_
  refine o_const (k := 1) hx hb dL_board_295 (by decide) ?_
  refine o_icmp_ne (tgt := 303) hx hb dL_board_296 (by decide) (Nat.le_of_ble_eq_true rfl) (Nat.le_of_ble_eq_true rfl) (fun _ => ?_) (fun z => absurd z (by decide))
  refine o_const (k := 0) hx hb dL_board_303 (by decide) ?_
  refine lv_istore (lv' := [(9, .int (nI 0)), (8, .int (nI (v (5 + 3 * r) 3))), (7, .int (nI r)), (6, .int (nI 1)), (1, .int (nI (v 0 0))), (2, .int (nI ((v 0 0) / 2))), (3, .int (nI (qa_ps v 1 r))), (4, .int (nI (qa_ps v 6 r))), (5, .int (nI (qa_ps v 7 r))), (0, .ref (o 0))]) hx hb dL_board_304 hl (by decide) rfl (fun ls hl => ?_)
  refine lv_aload_n hx hb dL_board_306 rfl (lv_at hl 9 rfl) ?_
  refine lv_iload hx hb dL_board_307 (lv_at hl 2 rfl) ?_
  refine o_ri (va_runV (As := [.int (nI r)]) (rest := []) ⟨hx, hb, hml, hown, hts⟩ (k_X4_ifRead l D cI cR cS cL o x v tl b r hSI hb28 (by omega)) (cwV 1 hts gL_board_X4_ifRead rfl rfl rfl (by decide +kernel) ⟨Nat.le_of_ble_eq_true rfl, Nat.le_of_ble_eq_true rfl⟩) (o_v (o_pR hK hN hP) (va_recv hK hP (ci := 4) (q0 := 0) rfl rfl)) rfl rfl hl.1 rfl (lv_room (Nat.le_of_ble_eq_true rfl)) dL_board_309 ⟨Nat.zero_le _, Nat.zero_le _⟩) (fun r1 e1 => ?_)
  have e1 : r1 = nI (s_out v r) := e1
  subst e1
  refine o_ti (show nI (s_out v r) = nI 1 from congrArg nI hO) ?_
  refine lv_istore (lv' := [(10, .int (nI 1)), (9, .int (nI 0)), (8, .int (nI (v (5 + 3 * r) 3))), (7, .int (nI r)), (6, .int (nI 1)), (1, .int (nI (v 0 0))), (2, .int (nI ((v 0 0) / 2))), (3, .int (nI (qa_ps v 1 r))), (4, .int (nI (qa_ps v 6 r))), (5, .int (nI (qa_ps v 7 r))), (0, .ref (o 0))]) hx hb dL_board_312 hl (by decide) rfl (fun ls hl => ?_)
  refine lv_iload_n hx hb dL_board_314 rfl (lv_at hl 7 rfl) ?_
  refine lv_aload_n hx hb dL_board_315 rfl (lv_at hl 10 rfl) ?_
  refine lv_iload hx hb dL_board_316 (lv_at hl 3 rfl) ?_
  refine o_const (k := 0) hx hb dL_board_318 (by decide) ?_
  refine o_ri (va_runV (As := [.int (nI r), .int (nI 0)]) (rest := [.int (nI (qa_ps v 1 r))]) ⟨hx, hb, hml, hown, hts⟩ (k_X4_readerOf l D cI cR cS cL o x v tl b r 0 hSI hb28 (by omega) (by omega)) (cwV 2 hts gL_board_X4_readerOf rfl rfl rfl (by decide +kernel) ⟨Nat.le_of_ble_eq_true rfl, Nat.le_of_ble_eq_true rfl⟩) (o_v (o_pR hK hN hP) (va_recv hK hP (ci := 4) (q0 := 0) rfl rfl)) rfl rfl hl.1 rfl (lv_room (Nat.le_of_ble_eq_true rfl)) dL_board_319 ⟨Nat.zero_le _, Nat.zero_le _⟩) (fun r1 e1 => ?_)
  have e1 : r1 = nI (c_rdr v r 0) := e1
  subst e1
  refine o_ti (show nI (c_rdr v r 0) = nI 1 from congrArg nI hD0) ?_
  refine o_const (k := 1) hx hb dL_board_322 (by decide) ?_
  refine o_icmp_ne (tgt := 330) hx hb dL_board_323 (by decide) (Nat.le_of_ble_eq_true rfl) (Nat.le_of_ble_eq_true rfl) (fun z => absurd z (by decide)) (fun _ => ?_)
  refine o_const (k := 1) hx hb dL_board_326 (by decide) ?_
  refine lv_goto (tgt := 331) hx hb dL_board_327 (by decide) ?_
  refine o_iadd (a := (qa_ps v 1 r)) (b := 1) (k := ((qa_ps v 1 r) + 1)) hx hb dL_board_331 rfl ?_
  refine lv_istore_n (lv' := [(3, .int (nI ((qa_ps v 1 r) + 1))), (10, .int (nI 1)), (9, .int (nI 0)), (8, .int (nI (v (5 + 3 * r) 3))), (7, .int (nI r)), (6, .int (nI 1)), (1, .int (nI (v 0 0))), (2, .int (nI ((v 0 0) / 2))), (4, .int (nI (qa_ps v 6 r))), (5, .int (nI (qa_ps v 7 r))), (0, .ref (o 0))]) hx hb dL_board_332 rfl hl (by decide) rfl (fun ls hl => ?_)
  refine lv_iload hx hb dL_board_333 (lv_at hl 8 rfl) ?_
  refine lv_aload_n hx hb dL_board_335 rfl (lv_at hl 10 rfl) ?_
  refine lv_iload hx hb dL_board_336 (lv_at hl 4 rfl) ?_
  refine o_const (k := 4) hx hb dL_board_338 (by decide) ?_
  refine o_ri (va_runV (As := [.int (nI r), .int (nI 4)]) (rest := [.int (nI (qa_ps v 6 r))]) ⟨hx, hb, hml, hown, hts⟩ (k_X4_readerOf l D cI cR cS cL o x v tl b r 4 hSI hb28 (by omega) (by omega)) (cwV 2 hts gL_board_X4_readerOf rfl rfl rfl (by decide +kernel) ⟨Nat.le_of_ble_eq_true rfl, Nat.le_of_ble_eq_true rfl⟩) (o_v (o_pR hK hN hP) (va_recv hK hP (ci := 4) (q0 := 0) rfl rfl)) rfl rfl hl.1 rfl (lv_room (Nat.le_of_ble_eq_true rfl)) dL_board_339 ⟨Nat.zero_le _, Nat.zero_le _⟩) (fun r1 e1 => ?_)
  have e1 : r1 = nI (c_rdr v r 4) := e1
  subst e1
  refine o_ti (show nI (c_rdr v r 4) = nI (v (5 + 3 * r) 6) from congrArg nI rfl) ?_
  refine o_iadd (a := (qa_ps v 6 r)) (b := (v (5 + 3 * r) 6)) (k := ((qa_ps v 6 r) + (v (5 + 3 * r) 6))) hx hb dL_board_342 rfl ?_
  refine lv_istore (lv' := [(4, .int (nI ((qa_ps v 6 r) + (v (5 + 3 * r) 6)))), (3, .int (nI ((qa_ps v 1 r) + 1))), (10, .int (nI 1)), (9, .int (nI 0)), (8, .int (nI (v (5 + 3 * r) 3))), (7, .int (nI r)), (6, .int (nI 1)), (1, .int (nI (v 0 0))), (2, .int (nI ((v 0 0) / 2))), (5, .int (nI (qa_ps v 7 r))), (0, .ref (o 0))]) hx hb dL_board_343 hl (by decide) rfl (fun ls hl => ?_)
  refine lv_iload hx hb dL_board_345 (lv_at hl 9 rfl) ?_
  refine lv_aload_n hx hb dL_board_347 rfl (lv_at hl 10 rfl) ?_
  refine lv_iload hx hb dL_board_348 (lv_at hl 5 rfl) ?_
  refine o_const (k := 5) hx hb dL_board_350 (by decide) ?_
  refine o_ri (va_runV (As := [.int (nI r), .int (nI 5)]) (rest := [.int (nI (qa_ps v 7 r))]) ⟨hx, hb, hml, hown, hts⟩ (k_X4_readerOf l D cI cR cS cL o x v tl b r 5 hSI hb28 (by omega) (by omega)) (cwV 2 hts gL_board_X4_readerOf rfl rfl rfl (by decide +kernel) ⟨Nat.le_of_ble_eq_true rfl, Nat.le_of_ble_eq_true rfl⟩) (o_v (o_pR hK hN hP) (va_recv hK hP (ci := 4) (q0 := 0) rfl rfl)) rfl rfl hl.1 rfl (lv_room (Nat.le_of_ble_eq_true rfl)) dL_board_351 ⟨Nat.zero_le _, Nat.zero_le _⟩) (fun r1 e1 => ?_)
  have e1 : r1 = nI (c_rdr v r 5) := e1
  subst e1
  refine o_ti (show nI (c_rdr v r 5) = nI (v (5 + 3 * r) 7) from congrArg nI rfl) ?_
  refine o_iadd (a := (qa_ps v 7 r)) (b := (v (5 + 3 * r) 7)) (k := ((qa_ps v 7 r) + (v (5 + 3 * r) 7))) hx hb dL_board_354 rfl ?_
  refine lv_istore (lv' := [(5, .int (nI ((qa_ps v 7 r) + (v (5 + 3 * r) 7)))), (4, .int (nI ((qa_ps v 6 r) + (v (5 + 3 * r) 6)))), (3, .int (nI ((qa_ps v 1 r) + 1))), (10, .int (nI 1)), (9, .int (nI 0)), (8, .int (nI (v (5 + 3 * r) 3))), (7, .int (nI r)), (6, .int (nI 1)), (1, .int (nI (v 0 0))), (2, .int (nI ((v 0 0) / 2))), (0, .ref (o 0))]) hx hb dL_board_355 hl (by decide) rfl (fun ls hl => ?_)
  refine lv_iload hx hb dL_board_357 (lv_at hl 5 rfl) ?_
  refine lv_iload_n hx hb dL_board_359 rfl (lv_at hl 8 rfl) ?_
  refine o_icmp_gt (tgt := 596) hx hb dL_board_360 (by decide) (by omega) (by omega) (fun z => absurd z (by omega)) (fun _ => ?_)
  refine lv_iload hx hb dL_board_363 (lv_at hl 5 rfl) ?_
  refine o_const (k := 4294967295) hx hb dL_board_365 (by decide) ?_
  refine o_icmp_eq (tgt := 381) hx hb dL_board_366 (by decide) (by omega) (Nat.le_of_ble_eq_true rfl) (fun z => absurd z (by omega)) (fun _ => ?_)
  refine lv_iload hx hb dL_board_369 (lv_at hl 4 rfl) ?_
  refine o_if_eq (tgt := 381) hx hb dL_board_371 (by decide) (Nat.le_of_ble_eq_true rfl) (fun _ => ?_) (fun z => absurd z (by decide))
  refine lv_iload hx hb dL_board_381 (lv_at hl 5 rfl) ?_
  refine o_if_lt (tgt := 390) hx hb dL_board_383 (by decide) (by omega) ?_
  refine o_const (k := 1) hx hb dL_board_386 (by decide) ?_
  refine lv_goto (tgt := 391) hx hb dL_board_387 (by decide) ?_
  refine lv_aload_n hx hb dL_board_391 rfl (lv_at hl 10 rfl) ?_
  refine lv_iload hx hb dL_board_392 (lv_at hl 6 rfl) ?_
  refine o_const (k := 0) hx hb dL_board_394 (by decide) ?_
  refine o_ri (va_runV (As := [.int (nI r), .int (nI 0)]) (rest := [.int (nI 1)]) ⟨hx, hb, hml, hown, hts⟩ (k_X4_readerOf l D cI cR cS cL o x v tl b r 0 hSI hb28 (by omega) (by omega)) (cwV 2 hts gL_board_X4_readerOf rfl rfl rfl (by decide +kernel) ⟨Nat.le_of_ble_eq_true rfl, Nat.le_of_ble_eq_true rfl⟩) (o_v (o_pR hK hN hP) (va_recv hK hP (ci := 4) (q0 := 0) rfl rfl)) rfl rfl hl.1 rfl (lv_room (Nat.le_of_ble_eq_true rfl)) dL_board_395 ⟨Nat.zero_le _, Nat.zero_le _⟩) (fun r1 e1 => ?_)
  have e1 : r1 = nI (c_rdr v r 0) := e1
  subst e1
  refine o_ti (show nI (c_rdr v r 0) = nI 1 from congrArg nI hD0) ?_
  refine o_const (k := 1) hx hb dL_board_398 (by decide) ?_
  refine o_icmp_ne (tgt := 406) hx hb dL_board_399 (by decide) (Nat.le_of_ble_eq_true rfl) (Nat.le_of_ble_eq_true rfl) (fun z => absurd z (by decide)) (fun _ => ?_)
  refine o_const (k := 1) hx hb dL_board_402 (by decide) ?_
  refine lv_goto (tgt := 407) hx hb dL_board_403 (by decide) ?_
  refine o_icmp_ne (tgt := 596) hx hb dL_board_407 (by decide) (Nat.le_of_ble_eq_true rfl) (Nat.le_of_ble_eq_true rfl) (fun z => absurd z (by decide)) (fun _ => ?_)
  refine lv_aload_n hx hb dL_board_410 rfl (lv_at hl 10 rfl) ?_
  refine lv_iload hx hb dL_board_411 (lv_at hl 6 rfl) ?_
  refine o_const (k := 2) hx hb dL_board_413 (by decide) ?_
  refine o_ri (va_runV (As := [.int (nI r), .int (nI 2)]) (rest := []) ⟨hx, hb, hml, hown, hts⟩ (k_X4_readerOf l D cI cR cS cL o x v tl b r 2 hSI hb28 (by omega) (by omega)) (cwV 2 hts gL_board_X4_readerOf rfl rfl rfl (by decide +kernel) ⟨Nat.le_of_ble_eq_true rfl, Nat.le_of_ble_eq_true rfl⟩) (o_v (o_pR hK hN hP) (va_recv hK hP (ci := 4) (q0 := 0) rfl rfl)) rfl rfl hl.1 rfl (lv_room (Nat.le_of_ble_eq_true rfl)) dL_board_414 ⟨Nat.zero_le _, Nat.zero_le _⟩) (fun r1 e1 => ?_)
  have e1 : r1 = nI (c_rdr v r 2) := e1
  subst e1
  refine o_ti (show nI (c_rdr v r 2) = nI (v (5 + 3 * r) 4) from congrArg nI hT2) ?_
  refine o_const (k := 5) hx hb dL_board_417 (by decide) ?_
  refine o_icmp_gt (tgt := 596) hx hb dL_board_418 (by decide) (by omega) (Nat.le_of_ble_eq_true rfl) (fun z => absurd z (by omega)) (fun _ => ?_)
  refine lv_aload_n hx hb dL_board_421 rfl (lv_at hl 10 rfl) ?_
  refine lv_iload hx hb dL_board_422 (lv_at hl 6 rfl) ?_
  refine o_const (k := 3) hx hb dL_board_424 (by decide) ?_
  refine o_ri (va_runV (As := [.int (nI r), .int (nI 3)]) (rest := []) ⟨hx, hb, hml, hown, hts⟩ (k_X4_readerOf l D cI cR cS cL o x v tl b r 3 hSI hb28 (by omega) (by omega)) (cwV 2 hts gL_board_X4_readerOf rfl rfl rfl (by decide +kernel) ⟨Nat.le_of_ble_eq_true rfl, Nat.le_of_ble_eq_true rfl⟩) (o_v (o_pR hK hN hP) (va_recv hK hP (ci := 4) (q0 := 0) rfl rfl)) rfl rfl hl.1 rfl (lv_room (Nat.le_of_ble_eq_true rfl)) dL_board_425 ⟨Nat.zero_le _, Nat.zero_le _⟩) (fun r1 e1 => ?_)
  have e1 : r1 = nI (c_rdr v r 3) := e1
  subst e1
  refine o_ti (show nI (c_rdr v r 3) = nI (v (5 + 3 * r) 5) from congrArg nI rfl) ?_
  refine lv_aload_n hx hb dL_board_428 rfl (lv_at hl 10 rfl) ?_
  refine lv_iload hx hb dL_board_429 (lv_at hl 6 rfl) ?_
  refine o_const (k := 4) hx hb dL_board_431 (by decide) ?_
  refine o_ri (va_runV (As := [.int (nI r), .int (nI 4)]) (rest := [.int (nI (v (5 + 3 * r) 5))]) ⟨hx, hb, hml, hown, hts⟩ (k_X4_readerOf l D cI cR cS cL o x v tl b r 4 hSI hb28 (by omega) (by omega)) (cwV 2 hts gL_board_X4_readerOf rfl rfl rfl (by decide +kernel) ⟨Nat.le_of_ble_eq_true rfl, Nat.le_of_ble_eq_true rfl⟩) (o_v (o_pR hK hN hP) (va_recv hK hP (ci := 4) (q0 := 0) rfl rfl)) rfl rfl hl.1 rfl (lv_room (Nat.le_of_ble_eq_true rfl)) dL_board_432 ⟨Nat.zero_le _, Nat.zero_le _⟩) (fun r1 e1 => ?_)
  have e1 : r1 = nI (c_rdr v r 4) := e1
  subst e1
  refine o_ti (show nI (c_rdr v r 4) = nI (v (5 + 3 * r) 6) from congrArg nI rfl) ?_
  refine o_icmp_gt (tgt := 596) hx hb dL_board_435 (by decide) (by omega) (by omega) (fun z => absurd z (by omega)) (fun _ => ?_)
  refine lv_aload_n hx hb dL_board_438 rfl (lv_at hl 10 rfl) ?_
  refine lv_iload hx hb dL_board_439 (lv_at hl 6 rfl) ?_
  refine o_const (k := 0) hx hb dL_board_441 (by decide) ?_
  refine o_ri (va_runV (As := [.int (nI r), .int (nI 0)]) (rest := []) ⟨hx, hb, hml, hown, hts⟩ (k_X4_readerOf l D cI cR cS cL o x v tl b r 0 hSI hb28 (by omega) (by omega)) (cwV 2 hts gL_board_X4_readerOf rfl rfl rfl (by decide +kernel) ⟨Nat.le_of_ble_eq_true rfl, Nat.le_of_ble_eq_true rfl⟩) (o_v (o_pR hK hN hP) (va_recv hK hP (ci := 4) (q0 := 0) rfl rfl)) rfl rfl hl.1 rfl (lv_room (Nat.le_of_ble_eq_true rfl)) dL_board_442 ⟨Nat.zero_le _, Nat.zero_le _⟩) (fun r1 e1 => ?_)
  have e1 : r1 = nI (c_rdr v r 0) := e1
  subst e1
  refine o_ti (show nI (c_rdr v r 0) = nI 1 from congrArg nI hD0) ?_
  refine o_const (k := 2) hx hb dL_board_445 (by decide) ?_
  refine o_icmp_ne (tgt := 453) hx hb dL_board_446 (by decide) (Nat.le_of_ble_eq_true rfl) (Nat.le_of_ble_eq_true rfl) (fun _ => ?_) (fun z => absurd z (by decide))
  refine o_const (k := 0) hx hb dL_board_453 (by decide) ?_
  refine lv_iload hx hb dL_board_454 (lv_at hl 4 rfl) ?_
  refine o_if_eq (tgt := 485) hx hb dL_board_456 (by decide) (Nat.le_of_ble_eq_true rfl) (fun _ => ?_) (fun z => absurd z (by decide))
  refine o_const (k := 0) hx hb dL_board_485 (by decide) ?_
  refine o_icmp_ne (tgt := 596) hx hb dL_board_486 (by decide) (Nat.le_of_ble_eq_true rfl) (Nat.le_of_ble_eq_true rfl) (fun z => absurd z (by decide)) (fun _ => ?_)
  refine lv_iload hx hb dL_board_489 (lv_at hl 3 rfl) ?_
  refine o_const (k := 4294967295) hx hb dL_board_491 (by decide) ?_
  refine o_icmp_ne (tgt := 499) hx hb dL_board_492 (by decide) (Nat.le_of_ble_eq_true rfl) (Nat.le_of_ble_eq_true rfl) (fun _ => ?_) (fun z => absurd z (by decide))
  refine o_const (k := 0) hx hb dL_board_499 (by decide) ?_
  refine lv_aload_n hx hb dL_board_500 rfl (lv_at hl 10 rfl) ?_
  refine lv_iload hx hb dL_board_501 (lv_at hl 6 rfl) ?_
  refine o_const (k := 0) hx hb dL_board_503 (by decide) ?_
  refine o_ri (va_runV (As := [.int (nI r), .int (nI 0)]) (rest := [.int (nI 0)]) ⟨hx, hb, hml, hown, hts⟩ (k_X4_readerOf l D cI cR cS cL o x v tl b r 0 hSI hb28 (by omega) (by omega)) (cwV 2 hts gL_board_X4_readerOf rfl rfl rfl (by decide +kernel) ⟨Nat.le_of_ble_eq_true rfl, Nat.le_of_ble_eq_true rfl⟩) (o_v (o_pR hK hN hP) (va_recv hK hP (ci := 4) (q0 := 0) rfl rfl)) rfl rfl hl.1 rfl (lv_room (Nat.le_of_ble_eq_true rfl)) dL_board_504 ⟨Nat.zero_le _, Nat.zero_le _⟩) (fun r1 e1 => ?_)
  have e1 : r1 = nI (c_rdr v r 0) := e1
  subst e1
  refine o_ti (show nI (c_rdr v r 0) = nI 1 from congrArg nI hD0) ?_
  refine o_const (k := 2) hx hb dL_board_507 (by decide) ?_
  refine o_icmp_ne (tgt := 515) hx hb dL_board_508 (by decide) (Nat.le_of_ble_eq_true rfl) (Nat.le_of_ble_eq_true rfl) (fun _ => ?_) (fun z => absurd z (by decide))
  refine o_const (k := 0) hx hb dL_board_515 (by decide) ?_
  refine o_icmp_ne (tgt := 596) hx hb dL_board_516 (by decide) (Nat.le_of_ble_eq_true rfl) (Nat.le_of_ble_eq_true rfl) (fun z => absurd z (by decide)) (fun _ => ?_)
  refine lv_iload hx hb dL_board_519 (lv_at hl 4 rfl) ?_
  refine o_if_ne (tgt := 530) hx hb dL_board_521 (by decide) (Nat.le_of_ble_eq_true rfl) (fun z => absurd z (by decide)) (fun _ => ?_)
  refine lv_iload hx hb dL_board_524 (lv_at hl 3 rfl) ?_
  refine o_const (k := 1) hx hb dL_board_526 (by decide) ?_
  refine o_icmp_ne (tgt := 596) hx hb dL_board_527 (by decide) (Nat.le_of_ble_eq_true rfl) (Nat.le_of_ble_eq_true rfl) (fun z => absurd z (by decide)) (fun _ => ?_)
  refine lv_iload_n hx hb dL_board_530 rfl (lv_at hl 8 rfl) ?_
  refine o_const (k := 2) hx hb dL_board_531 (by decide) ?_
  refine o_irem (a := (v 0 0)) (b := 2) (k := ((v 0 0) % 2)) hx hb dL_board_532 (by omega) (by decide) (Nat.le_of_ble_eq_true rfl) rfl ?_
  refine o_const (k := 1) hx hb dL_board_533 (by decide) ?_
  refine o_icmp_eq (tgt := 563) hx hb dL_board_534 (by decide) (by omega) (Nat.le_of_ble_eq_true rfl) (fun _ => ?_) (fun z => absurd z (by omega))
  refine lv_iload hx hb dL_board_563 (lv_at hl 3 rfl) ?_
  refine o_const (k := 1) hx hb dL_board_565 (by decide) ?_
  refine o_icmp_eq (tgt := 578) hx hb dL_board_566 (by decide) (Nat.le_of_ble_eq_true rfl) (Nat.le_of_ble_eq_true rfl) (fun _ => ?_) (fun z => absurd z (by decide))
  refine lv_iload hx hb dL_board_578 (lv_at hl 4 rfl) ?_
  refine o_if_eq (tgt := 592) hx hb dL_board_580 (by decide) (Nat.le_of_ble_eq_true rfl) (fun _ => ?_) (fun z => absurd z (by decide))
  refine o_const (k := 1) hx hb dL_board_592 (by decide) ?_
  refine lv_goto (tgt := 597) hx hb dL_board_593 (by decide) ?_
  refine lv_istore (lv' := [(6, .int (nI 1)), (5, .int (nI ((qa_ps v 7 r) + (v (5 + 3 * r) 7)))), (4, .int (nI ((qa_ps v 6 r) + (v (5 + 3 * r) 6)))), (3, .int (nI ((qa_ps v 1 r) + 1))), (10, .int (nI 1)), (9, .int (nI 0)), (8, .int (nI (v (5 + 3 * r) 3))), (7, .int (nI r)), (1, .int (nI (v 0 0))), (2, .int (nI ((v 0 0) / 2))), (0, .ref (o 0))]) hx hb dL_board_597 hl (by decide) rfl (fun ls hl => ?_)
  refine lv_iinc (v := nI (r + 1)) (lv' := [(7, .int (nI (r + 1))), (6, .int (nI 1)), (5, .int (nI ((qa_ps v 7 r) + (v (5 + 3 * r) 7)))), (4, .int (nI ((qa_ps v 6 r) + (v (5 + 3 * r) 6)))), (3, .int (nI ((qa_ps v 1 r) + 1))), (10, .int (nI 1)), (9, .int (nI 0)), (8, .int (nI (v (5 + 3 * r) 3))), (1, .int (nI (v 0 0))), (2, .int (nI ((v 0 0) / 2))), (0, .ref (o 0))]) hx hb dL_board_599 hl (k := 7) rfl (o_inc1 _) (by decide) rfl (fun ls hl => ?_)
  refine lv_goto (tgt := 267) hx hb dL_board_602 (by decide) ?_
  have hl := o_lvset hl 4 rfl (congrArg Value.int (congrArg nI (show ((qa_ps v 1 r) + 1) = (qa_ps v 1 (r + 1)) by show _ = qa_ps v 1 r + v (5 + 3 * r) 1; omega)))
  have hl := o_lvset hl 3 rfl (congrArg Value.int (congrArg nI (show ((qa_ps v 6 r) + (v (5 + 3 * r) 6)) = (qa_ps v 6 (r + 1)) by show _ = qa_ps v 6 r + v (5 + 3 * r) 6; omega)))
  have hl := o_lvset hl 2 rfl (congrArg Value.int (congrArg nI (show ((qa_ps v 7 r) + (v (5 + 3 * r) 7)) = (qa_ps v 7 (r + 1)) by show _ = qa_ps v 7 r + v (5 + 3 * r) 7; omega)))
  exact K H locs _ ls hP hD hS rfl (lv_sub hl [0, 1, 8, 9, 4, 3, 2, 10] rfl)
set_option maxHeartbeats 4000000 in
set_option maxRecDepth 100000 in
theorem ya_rA2b {p : Program} {l : Launch} {e : Env} {s : State} {m : MethodId} {args : Array Value} {below : List Frame} {meth : Method} {c : Code} {Q : State → Prop} {D : va_G} {cI cR cS cL : ClassId} {o : Nat → Nat} {v : Nat → Nat → Nat} {tl : va_W} {A : Nat → Prop} {b : Nat} {H : Heap} {locs : List Loc} {ls : Array Slot} {x : Nat → Nat → Nat} {r : Nat} (C : ya_B p s m args c D cI cR cS cL v A b) (hP : va_P D vwCl (wO o cI cR cS x v tl) H) (hD : va_D A (wO o cI cR cS x v tl)) (hS : va_S A s.heap H locs) (hr : r < 4) (hl : lv_has ls 11 [(7, .int (nI r)), (6, .int (nI 1)), (1, .int (nI (v 0 0))), (2, .int (nI ((v 0 0) / 2))), (3, .int (nI (qa_ps v 1 r))), (4, .int (nI (qa_ps v 6 r))), (5, .int (nI (qa_ps v 7 r))), (0, .ref (o 0))]) (K : ∀ (H : Heap) (locs : List Loc) (x' : Nat → Nat → Nat) (ls : Array Slot), va_P D vwCl (wO o cI cR cS x' v tl) H → va_D A (wO o cI cR cS x' v tl) → va_S A s.heap H locs → x' 0 = x 0 → lv_has ls 11 [(7, .int (nI (r + 1))), (6, .int (nI 1)), (1, .int (nI (v 0 0))), (2, .int (nI ((v 0 0) / 2))), (3, .int (nI (qa_ps v 1 (r + 1)))), (4, .int (nI (qa_ps v 6 (r + 1)))), (5, .int (nI (qa_ps v 7 (r + 1)))), (0, .ref (o 0))] → W p l e ({ frames := 4, cells := 0, slots := 0, locals := 88 } : Room) s m args below meth c H locs 0 0 Q (F0 m 267 ls [])) (hrd : ¬ v (5 + 3 * r) 1 = 0) (hhd : v (5 + 3 * r) 0 = 0) (hp : ¬ v 0 0 % 2 = 1) : W p l e ({ frames := 4, cells := 0, slots := 0, locals := 88 } : Room) s m args below meth c H locs 0 0 Q (F0 m 267 ls []) := by
  obtain ⟨hx, hb, hml, hown, hts, hK, hN, hA, hI, hb27⟩ := C
  have hSI := hI.1
  have hb28 : b < 2 ^ 28 := by omega
  have hn0 : v 0 0 < 2 ^ 29 := by have := hSI.1.1; omega
  have hIR := hSI.2 r hr
  unfold s_IR at hIR
  have hRR := hI.2.2.2.1 r hr
  have hrow := hRR.2
  have hst := hSI.1.2.2.1
  obtain ⟨hD0, hN1, hT2⟩ := qa_d1 hrd
  have hO := qa_o1 hrd
  have hno := (hRR.1 hrd).1
  have hH7 : c_rdr v r 7 = 0 := if_pos hhd
  rw [if_neg (fun z => z.1 hhd)] at hO
  clear hRR
  refine lv_iload hx hb dL_board_267 (lv_at hl 0 rfl) ?_
  refine o_const (k := 4) hx hb dL_board_269 (by decide) ?_
  refine o_icmp_ge (tgt := 605) hx hb dL_board_270 (by decide) (by omega) (Nat.le_of_ble_eq_true rfl) (fun z => absurd z (by omega)) (fun _ => ?_)
  refine lv_iload hx hb dL_board_273 (lv_at hl 1 rfl) ?_
  refine o_if_eq (tgt := 605) hx hb dL_board_275 (by decide) (Nat.le_of_ble_eq_true rfl) (fun z => absurd z (by decide)) (fun _ => ?_)
  refine lv_aload_n hx hb dL_board_278 rfl (lv_at hl 7 rfl) ?_
  refine lv_iload hx hb dL_board_279 (lv_at hl 0 rfl) ?_
  refine o_const (k := 1) hx hb dL_board_281 (by decide) ?_
  refine o_ri (va_runV (As := [.int (nI r), .int (nI 1)]) (rest := []) ⟨hx, hb, hml, hown, hts⟩ (k_X4_readerOf l D cI cR cS cL o x v tl b r 1 hSI hb28 (by omega) (by omega)) (cwV 2 hts gL_board_X4_readerOf rfl rfl rfl (by decide +kernel) ⟨Nat.le_of_ble_eq_true rfl, Nat.le_of_ble_eq_true rfl⟩) (o_v (o_pR hK hN hP) (va_recv hK hP (ci := 4) (q0 := 0) rfl rfl)) rfl rfl hl.1 rfl (lv_room (Nat.le_of_ble_eq_true rfl)) dL_board_282 ⟨Nat.zero_le _, Nat.zero_le _⟩) (fun r1 e1 => ?_)
  have e1 : r1 = nI (c_rdr v r 1) := e1
  subst e1
  refine o_ti (show nI (c_rdr v r 1) = nI (v (5 + 3 * r) 3) from congrArg nI hN1) ?_
  refine lv_istore (lv' := [(8, .int (nI (v (5 + 3 * r) 3))), (7, .int (nI r)), (6, .int (nI 1)), (1, .int (nI (v 0 0))), (2, .int (nI ((v 0 0) / 2))), (3, .int (nI (qa_ps v 1 r))), (4, .int (nI (qa_ps v 6 r))), (5, .int (nI (qa_ps v 7 r))), (0, .ref (o 0))]) hx hb dL_board_285 hl (by decide) rfl (fun ls hl => ?_)
  refine lv_aload_n hx hb dL_board_287 rfl (lv_at hl 8 rfl) ?_
  refine lv_iload hx hb dL_board_288 (lv_at hl 1 rfl) ?_
  refine o_bipush (k := 7) hx hb dL_board_290 (by decide) ?_
  refine o_ri (va_runV (As := [.int (nI r), .int (nI 7)]) (rest := []) ⟨hx, hb, hml, hown, hts⟩ (k_X4_readerOf l D cI cR cS cL o x v tl b r 7 hSI hb28 (by omega) (by omega)) (cwV 2 hts gL_board_X4_readerOf rfl rfl rfl (by decide +kernel) ⟨Nat.le_of_ble_eq_true rfl, Nat.le_of_ble_eq_true rfl⟩) (o_v (o_pR hK hN hP) (va_recv hK hP (ci := 4) (q0 := 0) rfl rfl)) rfl rfl hl.1 rfl (lv_room (Nat.le_of_ble_eq_true rfl)) dL_board_292 ⟨Nat.zero_le _, Nat.zero_le _⟩) (fun r1 e1 => ?_)
  have e1 : r1 = nI (c_rdr v r 7) := e1
  subst e1
  refine o_ti (show nI (c_rdr v r 7) = nI 0 from congrArg nI hH7) ?_
  refine o_const (k := 1) hx hb dL_board_295 (by decide) ?_
  refine o_icmp_ne (tgt := 303) hx hb dL_board_296 (by decide) (Nat.le_of_ble_eq_true rfl) (Nat.le_of_ble_eq_true rfl) (fun _ => ?_) (fun z => absurd z (by decide))
  refine o_const (k := 0) hx hb dL_board_303 (by decide) ?_
  refine lv_istore (lv' := [(9, .int (nI 0)), (8, .int (nI (v (5 + 3 * r) 3))), (7, .int (nI r)), (6, .int (nI 1)), (1, .int (nI (v 0 0))), (2, .int (nI ((v 0 0) / 2))), (3, .int (nI (qa_ps v 1 r))), (4, .int (nI (qa_ps v 6 r))), (5, .int (nI (qa_ps v 7 r))), (0, .ref (o 0))]) hx hb dL_board_304 hl (by decide) rfl (fun ls hl => ?_)
  refine lv_aload_n hx hb dL_board_306 rfl (lv_at hl 9 rfl) ?_
  refine lv_iload hx hb dL_board_307 (lv_at hl 2 rfl) ?_
  refine o_ri (va_runV (As := [.int (nI r)]) (rest := []) ⟨hx, hb, hml, hown, hts⟩ (k_X4_ifRead l D cI cR cS cL o x v tl b r hSI hb28 (by omega)) (cwV 1 hts gL_board_X4_ifRead rfl rfl rfl (by decide +kernel) ⟨Nat.le_of_ble_eq_true rfl, Nat.le_of_ble_eq_true rfl⟩) (o_v (o_pR hK hN hP) (va_recv hK hP (ci := 4) (q0 := 0) rfl rfl)) rfl rfl hl.1 rfl (lv_room (Nat.le_of_ble_eq_true rfl)) dL_board_309 ⟨Nat.zero_le _, Nat.zero_le _⟩) (fun r1 e1 => ?_)
  have e1 : r1 = nI (s_out v r) := e1
  subst e1
  refine o_ti (show nI (s_out v r) = nI 1 from congrArg nI hO) ?_
  refine lv_istore (lv' := [(10, .int (nI 1)), (9, .int (nI 0)), (8, .int (nI (v (5 + 3 * r) 3))), (7, .int (nI r)), (6, .int (nI 1)), (1, .int (nI (v 0 0))), (2, .int (nI ((v 0 0) / 2))), (3, .int (nI (qa_ps v 1 r))), (4, .int (nI (qa_ps v 6 r))), (5, .int (nI (qa_ps v 7 r))), (0, .ref (o 0))]) hx hb dL_board_312 hl (by decide) rfl (fun ls hl => ?_)
  refine lv_iload_n hx hb dL_board_314 rfl (lv_at hl 7 rfl) ?_
  refine lv_aload_n hx hb dL_board_315 rfl (lv_at hl 10 rfl) ?_
  refine lv_iload hx hb dL_board_316 (lv_at hl 3 rfl) ?_
  refine o_const (k := 0) hx hb dL_board_318 (by decide) ?_
  refine o_ri (va_runV (As := [.int (nI r), .int (nI 0)]) (rest := [.int (nI (qa_ps v 1 r))]) ⟨hx, hb, hml, hown, hts⟩ (k_X4_readerOf l D cI cR cS cL o x v tl b r 0 hSI hb28 (by omega) (by omega)) (cwV 2 hts gL_board_X4_readerOf rfl rfl rfl (by decide +kernel) ⟨Nat.le_of_ble_eq_true rfl, Nat.le_of_ble_eq_true rfl⟩) (o_v (o_pR hK hN hP) (va_recv hK hP (ci := 4) (q0 := 0) rfl rfl)) rfl rfl hl.1 rfl (lv_room (Nat.le_of_ble_eq_true rfl)) dL_board_319 ⟨Nat.zero_le _, Nat.zero_le _⟩) (fun r1 e1 => ?_)
  have e1 : r1 = nI (c_rdr v r 0) := e1
  subst e1
  refine o_ti (show nI (c_rdr v r 0) = nI 1 from congrArg nI hD0) ?_
  refine o_const (k := 1) hx hb dL_board_322 (by decide) ?_
  refine o_icmp_ne (tgt := 330) hx hb dL_board_323 (by decide) (Nat.le_of_ble_eq_true rfl) (Nat.le_of_ble_eq_true rfl) (fun z => absurd z (by decide)) (fun _ => ?_)
  refine o_const (k := 1) hx hb dL_board_326 (by decide) ?_
  refine lv_goto (tgt := 331) hx hb dL_board_327 (by decide) ?_
  refine o_iadd (a := (qa_ps v 1 r)) (b := 1) (k := ((qa_ps v 1 r) + 1)) hx hb dL_board_331 rfl ?_
  refine lv_istore_n (lv' := [(3, .int (nI ((qa_ps v 1 r) + 1))), (10, .int (nI 1)), (9, .int (nI 0)), (8, .int (nI (v (5 + 3 * r) 3))), (7, .int (nI r)), (6, .int (nI 1)), (1, .int (nI (v 0 0))), (2, .int (nI ((v 0 0) / 2))), (4, .int (nI (qa_ps v 6 r))), (5, .int (nI (qa_ps v 7 r))), (0, .ref (o 0))]) hx hb dL_board_332 rfl hl (by decide) rfl (fun ls hl => ?_)
  refine lv_iload hx hb dL_board_333 (lv_at hl 8 rfl) ?_
  refine lv_aload_n hx hb dL_board_335 rfl (lv_at hl 10 rfl) ?_
  refine lv_iload hx hb dL_board_336 (lv_at hl 4 rfl) ?_
  refine o_const (k := 4) hx hb dL_board_338 (by decide) ?_
  refine o_ri (va_runV (As := [.int (nI r), .int (nI 4)]) (rest := [.int (nI (qa_ps v 6 r))]) ⟨hx, hb, hml, hown, hts⟩ (k_X4_readerOf l D cI cR cS cL o x v tl b r 4 hSI hb28 (by omega) (by omega)) (cwV 2 hts gL_board_X4_readerOf rfl rfl rfl (by decide +kernel) ⟨Nat.le_of_ble_eq_true rfl, Nat.le_of_ble_eq_true rfl⟩) (o_v (o_pR hK hN hP) (va_recv hK hP (ci := 4) (q0 := 0) rfl rfl)) rfl rfl hl.1 rfl (lv_room (Nat.le_of_ble_eq_true rfl)) dL_board_339 ⟨Nat.zero_le _, Nat.zero_le _⟩) (fun r1 e1 => ?_)
  have e1 : r1 = nI (c_rdr v r 4) := e1
  subst e1
  refine o_ti (show nI (c_rdr v r 4) = nI (v (5 + 3 * r) 6) from congrArg nI rfl) ?_
  refine o_iadd (a := (qa_ps v 6 r)) (b := (v (5 + 3 * r) 6)) (k := ((qa_ps v 6 r) + (v (5 + 3 * r) 6))) hx hb dL_board_342 rfl ?_
  refine lv_istore (lv' := [(4, .int (nI ((qa_ps v 6 r) + (v (5 + 3 * r) 6)))), (3, .int (nI ((qa_ps v 1 r) + 1))), (10, .int (nI 1)), (9, .int (nI 0)), (8, .int (nI (v (5 + 3 * r) 3))), (7, .int (nI r)), (6, .int (nI 1)), (1, .int (nI (v 0 0))), (2, .int (nI ((v 0 0) / 2))), (5, .int (nI (qa_ps v 7 r))), (0, .ref (o 0))]) hx hb dL_board_343 hl (by decide) rfl (fun ls hl => ?_)
  refine lv_iload hx hb dL_board_345 (lv_at hl 9 rfl) ?_
  refine lv_aload_n hx hb dL_board_347 rfl (lv_at hl 10 rfl) ?_
  refine lv_iload hx hb dL_board_348 (lv_at hl 5 rfl) ?_
  refine o_const (k := 5) hx hb dL_board_350 (by decide) ?_
  refine o_ri (va_runV (As := [.int (nI r), .int (nI 5)]) (rest := [.int (nI (qa_ps v 7 r))]) ⟨hx, hb, hml, hown, hts⟩ (k_X4_readerOf l D cI cR cS cL o x v tl b r 5 hSI hb28 (by omega) (by omega)) (cwV 2 hts gL_board_X4_readerOf rfl rfl rfl (by decide +kernel) ⟨Nat.le_of_ble_eq_true rfl, Nat.le_of_ble_eq_true rfl⟩) (o_v (o_pR hK hN hP) (va_recv hK hP (ci := 4) (q0 := 0) rfl rfl)) rfl rfl hl.1 rfl (lv_room (Nat.le_of_ble_eq_true rfl)) dL_board_351 ⟨Nat.zero_le _, Nat.zero_le _⟩) (fun r1 e1 => ?_)
  have e1 : r1 = nI (c_rdr v r 5) := e1
  subst e1
  refine o_ti (show nI (c_rdr v r 5) = nI (v (5 + 3 * r) 7) from congrArg nI rfl) ?_
  refine o_iadd (a := (qa_ps v 7 r)) (b := (v (5 + 3 * r) 7)) (k := ((qa_ps v 7 r) + (v (5 + 3 * r) 7))) hx hb dL_board_354 rfl ?_
  refine lv_istore (lv' := [(5, .int (nI ((qa_ps v 7 r) + (v (5 + 3 * r) 7)))), (4, .int (nI ((qa_ps v 6 r) + (v (5 + 3 * r) 6)))), (3, .int (nI ((qa_ps v 1 r) + 1))), (10, .int (nI 1)), (9, .int (nI 0)), (8, .int (nI (v (5 + 3 * r) 3))), (7, .int (nI r)), (6, .int (nI 1)), (1, .int (nI (v 0 0))), (2, .int (nI ((v 0 0) / 2))), (0, .ref (o 0))]) hx hb dL_board_355 hl (by decide) rfl (fun ls hl => ?_)
  refine lv_iload hx hb dL_board_357 (lv_at hl 5 rfl) ?_
  refine lv_iload_n hx hb dL_board_359 rfl (lv_at hl 8 rfl) ?_
  refine o_icmp_gt (tgt := 596) hx hb dL_board_360 (by decide) (by omega) (by omega) (fun z => absurd z (by omega)) (fun _ => ?_)
  refine lv_iload hx hb dL_board_363 (lv_at hl 5 rfl) ?_
  refine o_const (k := 4294967295) hx hb dL_board_365 (by decide) ?_
  refine o_icmp_eq (tgt := 381) hx hb dL_board_366 (by decide) (by omega) (Nat.le_of_ble_eq_true rfl) (fun z => absurd z (by omega)) (fun _ => ?_)
  refine lv_iload hx hb dL_board_369 (lv_at hl 4 rfl) ?_
  refine o_if_eq (tgt := 381) hx hb dL_board_371 (by decide) (Nat.le_of_ble_eq_true rfl) (fun _ => ?_) (fun z => absurd z (by decide))
  refine lv_iload hx hb dL_board_381 (lv_at hl 5 rfl) ?_
  refine o_if_lt (tgt := 390) hx hb dL_board_383 (by decide) (by omega) ?_
  refine o_const (k := 1) hx hb dL_board_386 (by decide) ?_
  refine lv_goto (tgt := 391) hx hb dL_board_387 (by decide) ?_
  refine lv_aload_n hx hb dL_board_391 rfl (lv_at hl 10 rfl) ?_
  refine lv_iload hx hb dL_board_392 (lv_at hl 6 rfl) ?_
  refine o_const (k := 0) hx hb dL_board_394 (by decide) ?_
  refine o_ri (va_runV (As := [.int (nI r), .int (nI 0)]) (rest := [.int (nI 1)]) ⟨hx, hb, hml, hown, hts⟩ (k_X4_readerOf l D cI cR cS cL o x v tl b r 0 hSI hb28 (by omega) (by omega)) (cwV 2 hts gL_board_X4_readerOf rfl rfl rfl (by decide +kernel) ⟨Nat.le_of_ble_eq_true rfl, Nat.le_of_ble_eq_true rfl⟩) (o_v (o_pR hK hN hP) (va_recv hK hP (ci := 4) (q0 := 0) rfl rfl)) rfl rfl hl.1 rfl (lv_room (Nat.le_of_ble_eq_true rfl)) dL_board_395 ⟨Nat.zero_le _, Nat.zero_le _⟩) (fun r1 e1 => ?_)
  have e1 : r1 = nI (c_rdr v r 0) := e1
  subst e1
  refine o_ti (show nI (c_rdr v r 0) = nI 1 from congrArg nI hD0) ?_
  refine o_const (k := 1) hx hb dL_board_398 (by decide) ?_
  refine o_icmp_ne (tgt := 406) hx hb dL_board_399 (by decide) (Nat.le_of_ble_eq_true rfl) (Nat.le_of_ble_eq_true rfl) (fun z => absurd z (by decide)) (fun _ => ?_)
  refine o_const (k := 1) hx hb dL_board_402 (by decide) ?_
  refine lv_goto (tgt := 407) hx hb dL_board_403 (by decide) ?_
  refine o_icmp_ne (tgt := 596) hx hb dL_board_407 (by decide) (Nat.le_of_ble_eq_true rfl) (Nat.le_of_ble_eq_true rfl) (fun z => absurd z (by decide)) (fun _ => ?_)
  refine lv_aload_n hx hb dL_board_410 rfl (lv_at hl 10 rfl) ?_
  refine lv_iload hx hb dL_board_411 (lv_at hl 6 rfl) ?_
  refine o_const (k := 2) hx hb dL_board_413 (by decide) ?_
  refine o_ri (va_runV (As := [.int (nI r), .int (nI 2)]) (rest := []) ⟨hx, hb, hml, hown, hts⟩ (k_X4_readerOf l D cI cR cS cL o x v tl b r 2 hSI hb28 (by omega) (by omega)) (cwV 2 hts gL_board_X4_readerOf rfl rfl rfl (by decide +kernel) ⟨Nat.le_of_ble_eq_true rfl, Nat.le_of_ble_eq_true rfl⟩) (o_v (o_pR hK hN hP) (va_recv hK hP (ci := 4) (q0 := 0) rfl rfl)) rfl rfl hl.1 rfl (lv_room (Nat.le_of_ble_eq_true rfl)) dL_board_414 ⟨Nat.zero_le _, Nat.zero_le _⟩) (fun r1 e1 => ?_)
  have e1 : r1 = nI (c_rdr v r 2) := e1
  subst e1
  refine o_ti (show nI (c_rdr v r 2) = nI (v (5 + 3 * r) 4) from congrArg nI hT2) ?_
  refine o_const (k := 5) hx hb dL_board_417 (by decide) ?_
  refine o_icmp_gt (tgt := 596) hx hb dL_board_418 (by decide) (by omega) (Nat.le_of_ble_eq_true rfl) (fun z => absurd z (by omega)) (fun _ => ?_)
  refine lv_aload_n hx hb dL_board_421 rfl (lv_at hl 10 rfl) ?_
  refine lv_iload hx hb dL_board_422 (lv_at hl 6 rfl) ?_
  refine o_const (k := 3) hx hb dL_board_424 (by decide) ?_
  refine o_ri (va_runV (As := [.int (nI r), .int (nI 3)]) (rest := []) ⟨hx, hb, hml, hown, hts⟩ (k_X4_readerOf l D cI cR cS cL o x v tl b r 3 hSI hb28 (by omega) (by omega)) (cwV 2 hts gL_board_X4_readerOf rfl rfl rfl (by decide +kernel) ⟨Nat.le_of_ble_eq_true rfl, Nat.le_of_ble_eq_true rfl⟩) (o_v (o_pR hK hN hP) (va_recv hK hP (ci := 4) (q0 := 0) rfl rfl)) rfl rfl hl.1 rfl (lv_room (Nat.le_of_ble_eq_true rfl)) dL_board_425 ⟨Nat.zero_le _, Nat.zero_le _⟩) (fun r1 e1 => ?_)
  have e1 : r1 = nI (c_rdr v r 3) := e1
  subst e1
  refine o_ti (show nI (c_rdr v r 3) = nI (v (5 + 3 * r) 5) from congrArg nI rfl) ?_
  refine lv_aload_n hx hb dL_board_428 rfl (lv_at hl 10 rfl) ?_
  refine lv_iload hx hb dL_board_429 (lv_at hl 6 rfl) ?_
  refine o_const (k := 4) hx hb dL_board_431 (by decide) ?_
  refine o_ri (va_runV (As := [.int (nI r), .int (nI 4)]) (rest := [.int (nI (v (5 + 3 * r) 5))]) ⟨hx, hb, hml, hown, hts⟩ (k_X4_readerOf l D cI cR cS cL o x v tl b r 4 hSI hb28 (by omega) (by omega)) (cwV 2 hts gL_board_X4_readerOf rfl rfl rfl (by decide +kernel) ⟨Nat.le_of_ble_eq_true rfl, Nat.le_of_ble_eq_true rfl⟩) (o_v (o_pR hK hN hP) (va_recv hK hP (ci := 4) (q0 := 0) rfl rfl)) rfl rfl hl.1 rfl (lv_room (Nat.le_of_ble_eq_true rfl)) dL_board_432 ⟨Nat.zero_le _, Nat.zero_le _⟩) (fun r1 e1 => ?_)
  have e1 : r1 = nI (c_rdr v r 4) := e1
  subst e1
  refine o_ti (show nI (c_rdr v r 4) = nI (v (5 + 3 * r) 6) from congrArg nI rfl) ?_
  refine o_icmp_gt (tgt := 596) hx hb dL_board_435 (by decide) (by omega) (by omega) (fun z => absurd z (by omega)) (fun _ => ?_)
  refine lv_aload_n hx hb dL_board_438 rfl (lv_at hl 10 rfl) ?_
  refine lv_iload hx hb dL_board_439 (lv_at hl 6 rfl) ?_
  refine o_const (k := 0) hx hb dL_board_441 (by decide) ?_
  refine o_ri (va_runV (As := [.int (nI r), .int (nI 0)]) (rest := []) ⟨hx, hb, hml, hown, hts⟩ (k_X4_readerOf l D cI cR cS cL o x v tl b r 0 hSI hb28 (by omega) (by omega)) (cwV 2 hts gL_board_X4_readerOf rfl rfl rfl (by decide +kernel) ⟨Nat.le_of_ble_eq_true rfl, Nat.le_of_ble_eq_true rfl⟩) (o_v (o_pR hK hN hP) (va_recv hK hP (ci := 4) (q0 := 0) rfl rfl)) rfl rfl hl.1 rfl (lv_room (Nat.le_of_ble_eq_true rfl)) dL_board_442 ⟨Nat.zero_le _, Nat.zero_le _⟩) (fun r1 e1 => ?_)
  have e1 : r1 = nI (c_rdr v r 0) := e1
  subst e1
  refine o_ti (show nI (c_rdr v r 0) = nI 1 from congrArg nI hD0) ?_
  refine o_const (k := 2) hx hb dL_board_445 (by decide) ?_
  refine o_icmp_ne (tgt := 453) hx hb dL_board_446 (by decide) (Nat.le_of_ble_eq_true rfl) (Nat.le_of_ble_eq_true rfl) (fun _ => ?_) (fun z => absurd z (by decide))
  refine o_const (k := 0) hx hb dL_board_453 (by decide) ?_
  refine lv_iload hx hb dL_board_454 (lv_at hl 4 rfl) ?_
  refine o_if_eq (tgt := 485) hx hb dL_board_456 (by decide) (Nat.le_of_ble_eq_true rfl) (fun _ => ?_) (fun z => absurd z (by decide))
  refine o_const (k := 0) hx hb dL_board_485 (by decide) ?_
  refine o_icmp_ne (tgt := 596) hx hb dL_board_486 (by decide) (Nat.le_of_ble_eq_true rfl) (Nat.le_of_ble_eq_true rfl) (fun z => absurd z (by decide)) (fun _ => ?_)
  refine lv_iload hx hb dL_board_489 (lv_at hl 3 rfl) ?_
  refine o_const (k := 4294967295) hx hb dL_board_491 (by decide) ?_
  refine o_icmp_ne (tgt := 499) hx hb dL_board_492 (by decide) (Nat.le_of_ble_eq_true rfl) (Nat.le_of_ble_eq_true rfl) (fun _ => ?_) (fun z => absurd z (by decide))
  refine o_const (k := 0) hx hb dL_board_499 (by decide) ?_
  refine lv_aload_n hx hb dL_board_500 rfl (lv_at hl 10 rfl) ?_
  refine lv_iload hx hb dL_board_501 (lv_at hl 6 rfl) ?_
  refine o_const (k := 0) hx hb dL_board_503 (by decide) ?_
  refine o_ri (va_runV (As := [.int (nI r), .int (nI 0)]) (rest := [.int (nI 0)]) ⟨hx, hb, hml, hown, hts⟩ (k_X4_readerOf l D cI cR cS cL o x v tl b r 0 hSI hb28 (by omega) (by omega)) (cwV 2 hts gL_board_X4_readerOf rfl rfl rfl (by decide +kernel) ⟨Nat.le_of_ble_eq_true rfl, Nat.le_of_ble_eq_true rfl⟩) (o_v (o_pR hK hN hP) (va_recv hK hP (ci := 4) (q0 := 0) rfl rfl)) rfl rfl hl.1 rfl (lv_room (Nat.le_of_ble_eq_true rfl)) dL_board_504 ⟨Nat.zero_le _, Nat.zero_le _⟩) (fun r1 e1 => ?_)
  have e1 : r1 = nI (c_rdr v r 0) := e1
  subst e1
  refine o_ti (show nI (c_rdr v r 0) = nI 1 from congrArg nI hD0) ?_
  refine o_const (k := 2) hx hb dL_board_507 (by decide) ?_
  refine o_icmp_ne (tgt := 515) hx hb dL_board_508 (by decide) (Nat.le_of_ble_eq_true rfl) (Nat.le_of_ble_eq_true rfl) (fun _ => ?_) (fun z => absurd z (by decide))
  refine o_const (k := 0) hx hb dL_board_515 (by decide) ?_
  refine o_icmp_ne (tgt := 596) hx hb dL_board_516 (by decide) (Nat.le_of_ble_eq_true rfl) (Nat.le_of_ble_eq_true rfl) (fun z => absurd z (by decide)) (fun _ => ?_)
  refine lv_iload hx hb dL_board_519 (lv_at hl 4 rfl) ?_
  refine o_if_ne (tgt := 530) hx hb dL_board_521 (by decide) (Nat.le_of_ble_eq_true rfl) (fun z => absurd z (by decide)) (fun _ => ?_)
  refine lv_iload hx hb dL_board_524 (lv_at hl 3 rfl) ?_
  refine o_const (k := 1) hx hb dL_board_526 (by decide) ?_
  refine o_icmp_ne (tgt := 596) hx hb dL_board_527 (by decide) (Nat.le_of_ble_eq_true rfl) (Nat.le_of_ble_eq_true rfl) (fun z => absurd z (by decide)) (fun _ => ?_)
  refine lv_iload_n hx hb dL_board_530 rfl (lv_at hl 8 rfl) ?_
  refine o_const (k := 2) hx hb dL_board_531 (by decide) ?_
  refine o_irem (a := (v 0 0)) (b := 2) (k := ((v 0 0) % 2)) hx hb dL_board_532 (by omega) (by decide) (Nat.le_of_ble_eq_true rfl) rfl ?_
  refine o_const (k := 1) hx hb dL_board_533 (by decide) ?_
  refine o_icmp_eq (tgt := 563) hx hb dL_board_534 (by decide) (by omega) (Nat.le_of_ble_eq_true rfl) (fun z => absurd z (by omega)) (fun _ => ?_)
  refine lv_iload hx hb dL_board_537 (lv_at hl 5 rfl) ?_
  refine o_if_ge (tgt := 563) hx hb dL_board_539 (by decide) (by omega) ?_
  refine lv_iload hx hb dL_board_563 (lv_at hl 3 rfl) ?_
  refine o_const (k := 1) hx hb dL_board_565 (by decide) ?_
  refine o_icmp_eq (tgt := 578) hx hb dL_board_566 (by decide) (Nat.le_of_ble_eq_true rfl) (Nat.le_of_ble_eq_true rfl) (fun _ => ?_) (fun z => absurd z (by decide))
  refine lv_iload hx hb dL_board_578 (lv_at hl 4 rfl) ?_
  refine o_if_eq (tgt := 592) hx hb dL_board_580 (by decide) (Nat.le_of_ble_eq_true rfl) (fun _ => ?_) (fun z => absurd z (by decide))
  refine o_const (k := 1) hx hb dL_board_592 (by decide) ?_
  refine lv_goto (tgt := 597) hx hb dL_board_593 (by decide) ?_
  refine lv_istore (lv' := [(6, .int (nI 1)), (5, .int (nI ((qa_ps v 7 r) + (v (5 + 3 * r) 7)))), (4, .int (nI ((qa_ps v 6 r) + (v (5 + 3 * r) 6)))), (3, .int (nI ((qa_ps v 1 r) + 1))), (10, .int (nI 1)), (9, .int (nI 0)), (8, .int (nI (v (5 + 3 * r) 3))), (7, .int (nI r)), (1, .int (nI (v 0 0))), (2, .int (nI ((v 0 0) / 2))), (0, .ref (o 0))]) hx hb dL_board_597 hl (by decide) rfl (fun ls hl => ?_)
  refine lv_iinc (v := nI (r + 1)) (lv' := [(7, .int (nI (r + 1))), (6, .int (nI 1)), (5, .int (nI ((qa_ps v 7 r) + (v (5 + 3 * r) 7)))), (4, .int (nI ((qa_ps v 6 r) + (v (5 + 3 * r) 6)))), (3, .int (nI ((qa_ps v 1 r) + 1))), (10, .int (nI 1)), (9, .int (nI 0)), (8, .int (nI (v (5 + 3 * r) 3))), (1, .int (nI (v 0 0))), (2, .int (nI ((v 0 0) / 2))), (0, .ref (o 0))]) hx hb dL_board_599 hl (k := 7) rfl (o_inc1 _) (by decide) rfl (fun ls hl => ?_)
  refine lv_goto (tgt := 267) hx hb dL_board_602 (by decide) ?_
  have hl := o_lvset hl 4 rfl (congrArg Value.int (congrArg nI (show ((qa_ps v 1 r) + 1) = (qa_ps v 1 (r + 1)) by show _ = qa_ps v 1 r + v (5 + 3 * r) 1; omega)))
  have hl := o_lvset hl 3 rfl (congrArg Value.int (congrArg nI (show ((qa_ps v 6 r) + (v (5 + 3 * r) 6)) = (qa_ps v 6 (r + 1)) by show _ = qa_ps v 6 r + v (5 + 3 * r) 6; omega)))
  have hl := o_lvset hl 2 rfl (congrArg Value.int (congrArg nI (show ((qa_ps v 7 r) + (v (5 + 3 * r) 7)) = (qa_ps v 7 (r + 1)) by show _ = qa_ps v 7 r + v (5 + 3 * r) 7; omega)))
  exact K H locs _ ls hP hD hS rfl (lv_sub hl [0, 1, 8, 9, 4, 3, 2, 10] rfl)
