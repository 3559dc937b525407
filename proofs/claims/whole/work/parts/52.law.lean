set_option maxHeartbeats 4000000 in
set_option maxRecDepth 100000 in
theorem z_begin {p : Program} {l : Launch} {e : Env} {s : State} {m : MethodId} {args : Array Value} {below : List Frame} {meth : Method} {c : Code} {Q : State → Prop} {D : va_G} {cI cR cS cL : ClassId} {sb L : Nat} {xs : Nat → Int32} {q o : Nat → Nat} {a i B cells slots : Nat} {H : Heap} {locs : List Loc} {ls : Array Slot} {x v mv : Nat → Nat → Nat} {V : Nat → Nat → Nat → Nat} {g : Nat → Int64} (C : z_C p l s m args c D cI cR cS cL sb L xs) (h : z_S s D q o cI cR cS cL a g x v mv V B H locs) (hl : lv_has ls 9 (z_L i sb a o q)) (hi : i + 3 ≤ L) (hB : B < 2 ^ 27) (hc : cells + 1 ≤ 601024) (hsl : slots + 6 ≤ 7293034) (K : z_N p l e s m args below meth c Q D cI cR cS cL sb q o a i (B + 60) (cells + 1) (slots + 6)) : W p l e room_1 s m args below meth c H locs cells slots Q (F0 m 408 ls []) := by
  obtain ⟨hx, hb, hml, hown, hts, hK, hfl, hX, hG⟩ := C
  obtain ⟨hP, hD, hS, G⟩ := h
  obtain ⟨hR, hSI, hI, -, -⟩ := id G
  obtain ⟨⟨gx0, gx1, gx2⟩, ⟨gx3, gx4, gx5⟩, hx1, hm3, hVI⟩ := g_x G
  have hN := hG.1
  have hA : ∀ q : Nat, s.heap.size ≤ q → z_A s q := fun _ h => h
  have hB28 : B < 2 ^ 28 := by omega
  have hs6 : mv 0 0 ≤ 6 := by omega
  have h60 : mv 0 1 ≤ 60 := by omega
  obtain ⟨y1, hy1, ey1⟩ := o_of (xs (i + 1))
  by_cases hc1 : y1 < 4
  · skip
    by_cases hm1 : m_ofr (mv 1) y1 = 0
    · skip
      obtain ⟨ha, hr, G1⟩ := g_begin G hB28 hc1 hm1
      have ec : mc_begin (mv 1) y1 = 0 := by unfold mc_begin; rw [if_pos hc1, if_pos hm1]
      refine lv_aload_n hx hb dL_law_408 rfl (lv_at hl 2 rfl) ?_
      refine lv_aload_n hx hb dL_law_409 rfl (lv_at hl 1 rfl) ?_
      refine lv_iload hx hb dL_law_410 (lv_at hl 0 rfl) ?_
      refine o_const (k := 1) hx hb dL_law_412 (by decide) ?_
      refine o_iadd (k := i + 1) hx hb dL_law_413 rfl ?_
      refine z_ld (y := y1) hx hb hX hS (show i + 1 < L by omega) ey1 dL_law_414 ?_
      refine lv_aload_n hx hb dL_law_415 rfl (lv_at hl 4 rfl) ?_
      refine o_xiT (wM q cI mv) (vx_runSX (As := [.ref (o 0), .int (nI y1), .ref a]) (rest := []) ⟨hx, hb, hml, hown, hts⟩ (l_begin_0 l D cI cR cS cL H.size o x v V B y1 a g (by first | assumption | omega) (by first | assumption | omega) (by first | assumption | omega) (by first | assumption | omega) (by first | assumption | omega) (by first | assumption | omega)) (vx_cwSW 3 hts gL_law_L_begin rfl rfl rfl (by decide +kernel) ⟨Nat.le_of_ble_eq_true rfl, Nat.le_of_ble_eq_true rfl⟩) (o_pF (W := [ol cL a 1 g] ++ (wO o cI cR cS x v (wV o cI cR V))) hK (hG.kept hS) (o_PT (pre := (wM q cI mv)) (ws := [ol cL a 1 g] ++ (wO o cI cR cS x v (wV o cI cR V))) hP) (o_DT (pre := (wM q cI mv)) (ws := [ol cL a 1 g] ++ (wO o cI cR cS x v (wV o cI cR V))) hD) (va_free hD hS hA _ (o_getT (wM q cI mv) ([ol cL a 1 g] ++ (wO o cI cR cS x v (wV o cI cR V)))))) rfl rfl hl.1 rfl (lv_room (Nat.le_of_ble_eq_true rfl)) dL_law_416 ⟨show cells + 0 ≤ 601024 by omega, show slots + 0 ≤ 7293034 by omega⟩) hP hD hS hA (fun _ => rfl) (fun r1 u H locs e1 hP8 hD8 hS => ?_)
      obtain ⟨er1, hu⟩ := e1
      have er1 : r1 = nI 0 := er1
      subst er1
      have hu : u 0 = (nI (if s_wf v y1 then 0 else 1)).toInt64 := hu
      have hP := hP8
      have hD := hD8
      have hP : va_P D vwCl (z_W q o cI cR cS cL a u (va_up x 0 (c_sv (x 0))) (s_opn v y1) mv (c_put V ((x 0 3 + x 0 4) % 6) v)) H := hP
      have hD : va_D (z_A s) (z_W q o cI cR cS cL a u (va_up x 0 (c_sv (x 0))) (s_opn v y1) mv (c_put V ((x 0 3 + x 0 4) % 6) v)) := hD
      refine lv_istore (lv' := [(5, .int (nI 0)), (4, .int (nI i)), (0, .ref sb), (1, .ref (o 0)), (2, .ref (q 0)), (3, .ref a)]) hx hb dL_law_419 hl (by decide) rfl (fun ls hl => ?_)
      refine lv_aload_n hx hb dL_law_421 rfl (lv_at hl 4 rfl) ?_
      refine lv_aload_n hx hb dL_law_422 rfl (lv_at hl 2 rfl) ?_
      refine lv_iload hx hb dL_law_423 (lv_at hl 1 rfl) ?_
      refine o_const (k := 1) hx hb dL_law_425 (by decide) ?_
      refine o_iadd (k := i + 1) hx hb dL_law_426 rfl ?_
      refine z_ld (y := y1) hx hb hX hS (show i + 1 < L by omega) ey1 dL_law_427 ?_
      refine o_wi (va_runV (As := [.int (nI y1)]) (rest := []) ⟨hx, hb, hml, hown, hts⟩ (k_X5_begin l D cI cR cS cL H.size q mv B y1 (by first | assumption | omega) (by first | assumption | omega) (by first | assumption | omega) (by first | assumption | omega)) (cwV 1 hts gL_law_X5_begin rfl rfl rfl (by decide +kernel) ⟨Nat.le_of_ble_eq_true rfl, Nat.le_of_ble_eq_true rfl⟩) (o_v (o_pB hK hN (hP.sub (ws' := (wM q cI mv)) [0, 1, 2, 3, 4] rfl) (hD.sub (ws' := (wM q cI mv)) [0, 1, 2, 3, 4] (by decide +kernel) rfl)) (va_recv hK hP (ci := 5) (q0 := 0) rfl rfl)) rfl rfl hl.1 rfl (lv_room (Nat.le_of_ble_eq_true rfl)) dL_law_428 ⟨show cells + 0 + 0 ≤ 601024 by omega, show slots + 0 + 0 ≤ 7293034 by omega⟩) hP hD hS hA [0, 1, 2, 3, 4] (by decide +kernel) rfl (fun _ => rfl) (fun r2 _ H locs e2 hP hD hS => ?_)
      have hP : va_P D vwCl (z_W q o cI cR cS cL a u (va_up x 0 (c_sv (x 0))) (s_opn v y1) (m_act mv (mc_begin (mv 1) y1) (m_begins (mv 1) y1)) (c_put V ((x 0 3 + x 0 4) % 6) v)) H := hP
      have hD : va_D (z_A s) (z_W q o cI cR cS cL a u (va_up x 0 (c_sv (x 0))) (s_opn v y1) (m_act mv (mc_begin (mv 1) y1) (m_begins (mv 1) y1)) (c_put V ((x 0 3 + x 0 4) % 6) v)) := hD
      rw [ec] at hP hD
      have e2 : r2 = nI (if (mc_begin (mv 1) y1) = 0 then m_beginsr (mv 1) y1 else 0) := e2
      have er : (if (mc_begin (mv 1) y1) = 0 then m_beginsr (mv 1) y1 else 0) = (if s_wf v y1 then 0 else 1) := by rw [ec, if_pos rfl]; exact hr.symm
      rw [er] at e2
      subst e2
      refine lv_istore (lv' := [(6, .int (nI (if s_wf v y1 then 0 else 1))), (5, .int (nI 0)), (4, .int (nI i)), (0, .ref sb), (1, .ref (o 0)), (2, .ref (q 0)), (3, .ref a)]) hx hb dL_law_431 hl (by decide) rfl (fun ls hl => ?_)
      refine lv_aload_n hx hb dL_law_433 rfl (lv_at hl 5 rfl) ?_
      refine o_ri (va_runV (As := []) (rest := []) ⟨hx, hb, hml, hown, hts⟩ (k_X5_thrown l D cI cR cS cL q (m_act mv 0 (m_begins (mv 1) y1))) (cwV 0 hts gL_law_X5_thrown rfl rfl rfl (by decide +kernel) ⟨Nat.le_of_ble_eq_true rfl, Nat.le_of_ble_eq_true rfl⟩) (o_v (o_pR hK hN (hP.sub (ws' := (wM q cI (m_act mv 0 (m_begins (mv 1) y1)))) [0, 1, 2, 3, 4] rfl)) (va_recv hK hP (ci := 5) (q0 := 0) rfl rfl)) rfl rfl hl.1 rfl (lv_room (Nat.le_of_ble_eq_true rfl)) dL_law_434 ⟨show cells + 0 + 0 ≤ 601024 by omega, show slots + 0 + 0 ≤ 7293034 by omega⟩) (fun r3 e3 => ?_)
      have e3 : r3 = nI 0 := e3.trans (congrArg nI (rfl : _ = 0))
      subst e3
      refine lv_iload hx hb dL_law_437 (lv_at hl 1 rfl) ?_
      refine o_icmp_eq (tgt := 444) hx hb dL_law_439 (by decide) (Nat.le_of_ble_eq_true rfl) (Nat.le_of_ble_eq_true rfl) (fun _ => ?_) (fun z => absurd rfl z)
      refine lv_iload hx hb dL_law_444 (lv_at hl 1 rfl) ?_
      refine o_if_ne (a := 0) (tgt := 461) hx hb dL_law_446 (by decide) (Nat.le_of_ble_eq_true rfl) (fun z => absurd rfl z) (fun _ => ?_)
      refine lv_aload_n hx hb dL_law_449 rfl (lv_at hl 6 rfl) ?_
      refine o_const (k := 0) hx hb dL_law_450 (by decide) ?_
      refine va_lald hx hb hK hP 5 3 rfl rfl (vp_in_nI (by decide) (by decide)) dL_law_451 ?_
      refine o_tl (congrArg u (nI_clamp (show 0 < 2 ^ 31 by decide))) ?_
      refine lv_iload hx hb dL_law_452 (lv_at hl 0 rfl) ?_
      refine lv_i2l (v := (nI (if s_wf v y1 then 0 else 1)).toInt64) hx hb dL_law_454 rfl ?_
      refine W.lcmp hx hb dL_law_455 ?_
      refine o_ti (z_cmp hu) ?_
      refine o_if_eq (a := 0) (tgt := 461) hx hb dL_law_456 (by decide) (Nat.le_of_ble_eq_true rfl) (fun _ => ?_) (fun z => absurd rfl z)
      refine lv_goto (tgt := 1310) hx hb dL_law_461 (by decide) ?_
      refine W.widen (k := cells + 1) (n := slots + 6) (by omega) (by omega) ?_
      exact K _ _ _ _ _ _ _ _ ⟨hP, hD, hS, g_up G1 (by omega)⟩ (z_drop hl)
    · skip
      have hbad : ¬ s_mb v y1 := fun z => hm1 ((p_mb hR hI hc1).1.mp z)
      have ec : mc_begin (mv 1) y1 = 2 := by unfold mc_begin; rw [if_pos hc1, if_neg hm1]
      refine lv_aload_n hx hb dL_law_408 rfl (lv_at hl 2 rfl) ?_
      refine lv_aload_n hx hb dL_law_409 rfl (lv_at hl 1 rfl) ?_
      refine lv_iload hx hb dL_law_410 (lv_at hl 0 rfl) ?_
      refine o_const (k := 1) hx hb dL_law_412 (by decide) ?_
      refine o_iadd (k := i + 1) hx hb dL_law_413 rfl ?_
      refine z_ld (y := y1) hx hb hX hS (show i + 1 < L by omega) ey1 dL_law_414 ?_
      refine lv_aload_n hx hb dL_law_415 rfl (lv_at hl 4 rfl) ?_
      refine o_xiT (wM q cI mv) (vx_runSX (As := [.ref (o 0), .int (nI y1), .ref a]) (rest := []) ⟨hx, hb, hml, hown, hts⟩ (l_begin_2 l D cI cR cS cL hfl H.size o x v (wV o cI cR V) B y1 a g (by first | assumption | omega) (by first | assumption | omega) (by first | assumption | omega) (by first | assumption | omega)) (vx_cwSW 3 hts gL_law_L_begin rfl rfl rfl (by decide +kernel) ⟨Nat.le_of_ble_eq_true rfl, Nat.le_of_ble_eq_true rfl⟩) (o_pF (W := [ol cL a 1 g] ++ (wO o cI cR cS x v (wV o cI cR V))) hK (hG.kept hS) (o_PT (pre := (wM q cI mv)) (ws := [ol cL a 1 g] ++ (wO o cI cR cS x v (wV o cI cR V))) hP) (o_DT (pre := (wM q cI mv)) (ws := [ol cL a 1 g] ++ (wO o cI cR cS x v (wV o cI cR V))) hD) (va_free hD hS hA _ (o_getT (wM q cI mv) ([ol cL a 1 g] ++ (wO o cI cR cS x v (wV o cI cR V)))))) rfl rfl hl.1 rfl (lv_room (Nat.le_of_ble_eq_true rfl)) dL_law_416 ⟨show cells + 1 ≤ 601024 by omega, show slots + 6 ≤ 7293034 by omega⟩) hP hD hS hA (fun _ => rfl) (fun r1 u H locs e1 hP8 hD8 hS => ?_)
      obtain ⟨er1, hu⟩ := e1
      have er1 : r1 = nI 2 := er1
      subst er1
      subst hu
      have hP := hP8
      have hD := hD8
      have hP : va_P D vwCl (z_W q o cI cR cS cL a u x v mv V) H := hP
      have hD : va_D (z_A s) (z_W q o cI cR cS cL a u x v mv V) := hD
      refine lv_istore (lv' := [(5, .int (nI 2)), (4, .int (nI i)), (0, .ref sb), (1, .ref (o 0)), (2, .ref (q 0)), (3, .ref a)]) hx hb dL_law_419 hl (by decide) rfl (fun ls hl => ?_)
      refine lv_aload_n hx hb dL_law_421 rfl (lv_at hl 4 rfl) ?_
      refine lv_aload_n hx hb dL_law_422 rfl (lv_at hl 2 rfl) ?_
      refine lv_iload hx hb dL_law_423 (lv_at hl 1 rfl) ?_
      refine o_const (k := 1) hx hb dL_law_425 (by decide) ?_
      refine o_iadd (k := i + 1) hx hb dL_law_426 rfl ?_
      refine z_ld (y := y1) hx hb hX hS (show i + 1 < L by omega) ey1 dL_law_427 ?_
      refine o_wi (va_runV (As := [.int (nI y1)]) (rest := []) ⟨hx, hb, hml, hown, hts⟩ (k_X5_begin l D cI cR cS cL H.size q mv B y1 (by first | assumption | omega) (by first | assumption | omega) (by first | assumption | omega) (by first | assumption | omega)) (cwV 1 hts gL_law_X5_begin rfl rfl rfl (by decide +kernel) ⟨Nat.le_of_ble_eq_true rfl, Nat.le_of_ble_eq_true rfl⟩) (o_v (o_pB hK hN (hP.sub (ws' := (wM q cI mv)) [0, 1, 2, 3, 4] rfl) (hD.sub (ws' := (wM q cI mv)) [0, 1, 2, 3, 4] (by decide +kernel) rfl)) (va_recv hK hP (ci := 5) (q0 := 0) rfl rfl)) rfl rfl hl.1 rfl (lv_room (Nat.le_of_ble_eq_true rfl)) dL_law_428 ⟨show cells + 1 + 0 ≤ 601024 by omega, show slots + 6 + 0 ≤ 7293034 by omega⟩) hP hD hS hA [0, 1, 2, 3, 4] (by decide +kernel) rfl (fun _ => rfl) (fun r2 _ H locs e2 hP hD hS => ?_)
      have hP : va_P D vwCl (z_W q o cI cR cS cL a u x v (m_act mv (mc_begin (mv 1) y1) (m_begins (mv 1) y1)) V) H := hP
      have hD : va_D (z_A s) (z_W q o cI cR cS cL a u x v (m_act mv (mc_begin (mv 1) y1) (m_begins (mv 1) y1)) V) := hD
      rw [ec] at hP hD
      refine lv_istore (lv' := [(6, .int r2), (5, .int (nI 2)), (4, .int (nI i)), (0, .ref sb), (1, .ref (o 0)), (2, .ref (q 0)), (3, .ref a)]) hx hb dL_law_431 hl (by decide) rfl (fun ls hl => ?_)
      refine lv_aload_n hx hb dL_law_433 rfl (lv_at hl 5 rfl) ?_
      refine o_ri (va_runV (As := []) (rest := []) ⟨hx, hb, hml, hown, hts⟩ (k_X5_thrown l D cI cR cS cL q (m_act mv 2 (m_begins (mv 1) y1))) (cwV 0 hts gL_law_X5_thrown rfl rfl rfl (by decide +kernel) ⟨Nat.le_of_ble_eq_true rfl, Nat.le_of_ble_eq_true rfl⟩) (o_v (o_pR hK hN (hP.sub (ws' := (wM q cI (m_act mv 2 (m_begins (mv 1) y1)))) [0, 1, 2, 3, 4] rfl)) (va_recv hK hP (ci := 5) (q0 := 0) rfl rfl)) rfl rfl hl.1 rfl (lv_room (Nat.le_of_ble_eq_true rfl)) dL_law_434 ⟨show cells + 1 + 0 ≤ 601024 by omega, show slots + 6 + 0 ≤ 7293034 by omega⟩) (fun r3 e3 => ?_)
      have e3 : r3 = nI 2 := e3.trans (congrArg nI (rfl : _ = 2))
      subst e3
      refine lv_iload hx hb dL_law_437 (lv_at hl 1 rfl) ?_
      refine o_icmp_eq (tgt := 444) hx hb dL_law_439 (by decide) (Nat.le_of_ble_eq_true rfl) (Nat.le_of_ble_eq_true rfl) (fun _ => ?_) (fun z => absurd rfl z)
      refine lv_iload hx hb dL_law_444 (lv_at hl 1 rfl) ?_
      refine o_if_ne (a := 2) (tgt := 461) hx hb dL_law_446 (by decide) (Nat.le_of_ble_eq_true rfl) (fun _ => ?_) (fun z => absurd z (by decide))
      refine lv_goto (tgt := 1310) hx hb dL_law_461 (by decide) ?_
      refine W.widen (k := cells + 1) (n := slots + 6) (by omega) (by omega) ?_
      exact K _ _ _ _ _ _ _ _ ⟨hP, hD, hS, g_actf G (by omega) (by decide)⟩ (z_drop hl)
  · skip
    have ec : mc_begin (mv 1) y1 = 1 := by unfold mc_begin; rw [if_neg hc1]
    refine lv_aload_n hx hb dL_law_408 rfl (lv_at hl 2 rfl) ?_
    refine lv_aload_n hx hb dL_law_409 rfl (lv_at hl 1 rfl) ?_
    refine lv_iload hx hb dL_law_410 (lv_at hl 0 rfl) ?_
    refine o_const (k := 1) hx hb dL_law_412 (by decide) ?_
    refine o_iadd (k := i + 1) hx hb dL_law_413 rfl ?_
    refine z_ld (y := y1) hx hb hX hS (show i + 1 < L by omega) ey1 dL_law_414 ?_
    refine lv_aload_n hx hb dL_law_415 rfl (lv_at hl 4 rfl) ?_
    refine o_xiT (wM q cI mv) (vx_runSX (As := [.ref (o 0), .int (nI y1), .ref a]) (rest := []) ⟨hx, hb, hml, hown, hts⟩ (l_begin_1 l D cI cR cS cL hfl H.size o x v (wV o cI cR V) B y1 a g (by first | assumption | omega) (by first | assumption | omega)) (vx_cwSW 3 hts gL_law_L_begin rfl rfl rfl (by decide +kernel) ⟨Nat.le_of_ble_eq_true rfl, Nat.le_of_ble_eq_true rfl⟩) (o_pF (W := [ol cL a 1 g] ++ (wO o cI cR cS x v (wV o cI cR V))) hK (hG.kept hS) (o_PT (pre := (wM q cI mv)) (ws := [ol cL a 1 g] ++ (wO o cI cR cS x v (wV o cI cR V))) hP) (o_DT (pre := (wM q cI mv)) (ws := [ol cL a 1 g] ++ (wO o cI cR cS x v (wV o cI cR V))) hD) (va_free hD hS hA _ (o_getT (wM q cI mv) ([ol cL a 1 g] ++ (wO o cI cR cS x v (wV o cI cR V)))))) rfl rfl hl.1 rfl (lv_room (Nat.le_of_ble_eq_true rfl)) dL_law_416 ⟨show cells + 1 ≤ 601024 by omega, show slots + 6 ≤ 7293034 by omega⟩) hP hD hS hA (fun _ => rfl) (fun r1 u H locs e1 hP8 hD8 hS => ?_)
    obtain ⟨er1, hu⟩ := e1
    have er1 : r1 = nI 1 := er1
    subst er1
    subst hu
    have hP := hP8
    have hD := hD8
    have hP : va_P D vwCl (z_W q o cI cR cS cL a u x v mv V) H := hP
    have hD : va_D (z_A s) (z_W q o cI cR cS cL a u x v mv V) := hD
    refine lv_istore (lv' := [(5, .int (nI 1)), (4, .int (nI i)), (0, .ref sb), (1, .ref (o 0)), (2, .ref (q 0)), (3, .ref a)]) hx hb dL_law_419 hl (by decide) rfl (fun ls hl => ?_)
    refine lv_aload_n hx hb dL_law_421 rfl (lv_at hl 4 rfl) ?_
    refine lv_aload_n hx hb dL_law_422 rfl (lv_at hl 2 rfl) ?_
    refine lv_iload hx hb dL_law_423 (lv_at hl 1 rfl) ?_
    refine o_const (k := 1) hx hb dL_law_425 (by decide) ?_
    refine o_iadd (k := i + 1) hx hb dL_law_426 rfl ?_
    refine z_ld (y := y1) hx hb hX hS (show i + 1 < L by omega) ey1 dL_law_427 ?_
    refine o_wi (va_runV (As := [.int (nI y1)]) (rest := []) ⟨hx, hb, hml, hown, hts⟩ (k_X5_begin l D cI cR cS cL H.size q mv B y1 (by first | assumption | omega) (by first | assumption | omega) (by first | assumption | omega) (by first | assumption | omega)) (cwV 1 hts gL_law_X5_begin rfl rfl rfl (by decide +kernel) ⟨Nat.le_of_ble_eq_true rfl, Nat.le_of_ble_eq_true rfl⟩) (o_v (o_pB hK hN (hP.sub (ws' := (wM q cI mv)) [0, 1, 2, 3, 4] rfl) (hD.sub (ws' := (wM q cI mv)) [0, 1, 2, 3, 4] (by decide +kernel) rfl)) (va_recv hK hP (ci := 5) (q0 := 0) rfl rfl)) rfl rfl hl.1 rfl (lv_room (Nat.le_of_ble_eq_true rfl)) dL_law_428 ⟨show cells + 1 + 0 ≤ 601024 by omega, show slots + 6 + 0 ≤ 7293034 by omega⟩) hP hD hS hA [0, 1, 2, 3, 4] (by decide +kernel) rfl (fun _ => rfl) (fun r2 _ H locs e2 hP hD hS => ?_)
    have hP : va_P D vwCl (z_W q o cI cR cS cL a u x v (m_act mv (mc_begin (mv 1) y1) (m_begins (mv 1) y1)) V) H := hP
    have hD : va_D (z_A s) (z_W q o cI cR cS cL a u x v (m_act mv (mc_begin (mv 1) y1) (m_begins (mv 1) y1)) V) := hD
    rw [ec] at hP hD
    refine lv_istore (lv' := [(6, .int r2), (5, .int (nI 1)), (4, .int (nI i)), (0, .ref sb), (1, .ref (o 0)), (2, .ref (q 0)), (3, .ref a)]) hx hb dL_law_431 hl (by decide) rfl (fun ls hl => ?_)
    refine lv_aload_n hx hb dL_law_433 rfl (lv_at hl 5 rfl) ?_
    refine o_ri (va_runV (As := []) (rest := []) ⟨hx, hb, hml, hown, hts⟩ (k_X5_thrown l D cI cR cS cL q (m_act mv 1 (m_begins (mv 1) y1))) (cwV 0 hts gL_law_X5_thrown rfl rfl rfl (by decide +kernel) ⟨Nat.le_of_ble_eq_true rfl, Nat.le_of_ble_eq_true rfl⟩) (o_v (o_pR hK hN (hP.sub (ws' := (wM q cI (m_act mv 1 (m_begins (mv 1) y1)))) [0, 1, 2, 3, 4] rfl)) (va_recv hK hP (ci := 5) (q0 := 0) rfl rfl)) rfl rfl hl.1 rfl (lv_room (Nat.le_of_ble_eq_true rfl)) dL_law_434 ⟨show cells + 1 + 0 ≤ 601024 by omega, show slots + 6 + 0 ≤ 7293034 by omega⟩) (fun r3 e3 => ?_)
    have e3 : r3 = nI 1 := e3.trans (congrArg nI (rfl : _ = 1))
    subst e3
    refine lv_iload hx hb dL_law_437 (lv_at hl 1 rfl) ?_
    refine o_icmp_eq (tgt := 444) hx hb dL_law_439 (by decide) (Nat.le_of_ble_eq_true rfl) (Nat.le_of_ble_eq_true rfl) (fun _ => ?_) (fun z => absurd rfl z)
    refine lv_iload hx hb dL_law_444 (lv_at hl 1 rfl) ?_
    refine o_if_ne (a := 1) (tgt := 461) hx hb dL_law_446 (by decide) (Nat.le_of_ble_eq_true rfl) (fun _ => ?_) (fun z => absurd z (by decide))
    refine lv_goto (tgt := 1310) hx hb dL_law_461 (by decide) ?_
    refine W.widen (k := cells + 1) (n := slots + 6) (by omega) (by omega) ?_
    exact K _ _ _ _ _ _ _ _ ⟨hP, hD, hS, g_actf G (by omega) (by decide)⟩ (z_drop hl)
set_option maxHeartbeats 4000000 in
set_option maxRecDepth 100000 in
theorem z_look {p : Program} {l : Launch} {e : Env} {s : State} {m : MethodId} {args : Array Value} {below : List Frame} {meth : Method} {c : Code} {Q : State → Prop} {D : va_G} {cI cR cS cL : ClassId} {sb L : Nat} {xs : Nat → Int32} {q o : Nat → Nat} {a i B cells slots : Nat} {H : Heap} {locs : List Loc} {ls : Array Slot} {x v mv : Nat → Nat → Nat} {V : Nat → Nat → Nat → Nat} {g : Nat → Int64} (C : z_C p l s m args c D cI cR cS cL sb L xs) (h : z_S s D q o cI cR cS cL a g x v mv V B H locs) (hl : lv_has ls 9 (z_L i sb a o q)) (hi : i + 3 ≤ L) (hB : B < 2 ^ 27) (hc : cells + 1 ≤ 601024) (hsl : slots + 6 ≤ 7293034) (K : z_N p l e s m args below meth c Q D cI cR cS cL sb q o a i (B + 60) (cells + 1) (slots + 6)) : W p l e room_1 s m args below meth c H locs cells slots Q (F0 m 464 ls []) := by
  obtain ⟨hx, hb, hml, hown, hts, hK, hfl, hX, hG⟩ := C
  obtain ⟨hP, hD, hS, G⟩ := h
  obtain ⟨hR, hSI, hI, -, -⟩ := id G
  obtain ⟨⟨gx0, gx1, gx2⟩, ⟨gx3, gx4, gx5⟩, hx1, hm3, hVI⟩ := g_x G
  have hN := hG.1
  have hA : ∀ q : Nat, s.heap.size ≤ q → z_A s q := fun _ h => h
  have hB28 : B < 2 ^ 28 := by omega
  have hs6 : mv 0 0 ≤ 6 := by omega
  have h60 : mv 0 1 ≤ 60 := by omega
  obtain ⟨y1, hy1, ey1⟩ := o_of (xs (i + 1))
  by_cases hc1 : y1 < 4
  · skip
    by_cases hm1 : m_ofr (mv 1) y1 = 1
    · skip
      obtain ⟨ha, hr, G1⟩ := g_look G hB28 hc1 hm1
      have ec : mc_look (mv 1) y1 = 0 := by unfold mc_look; rw [if_pos hc1, if_pos hm1]
      refine lv_aload_n hx hb dL_law_464 rfl (lv_at hl 2 rfl) ?_
      refine lv_aload_n hx hb dL_law_465 rfl (lv_at hl 1 rfl) ?_
      refine lv_iload hx hb dL_law_466 (lv_at hl 0 rfl) ?_
      refine o_const (k := 1) hx hb dL_law_468 (by decide) ?_
      refine o_iadd (k := i + 1) hx hb dL_law_469 rfl ?_
      refine z_ld (y := y1) hx hb hX hS (show i + 1 < L by omega) ey1 dL_law_470 ?_
      refine lv_aload_n hx hb dL_law_471 rfl (lv_at hl 4 rfl) ?_
      refine o_xiT (wM q cI mv) (vx_runSX (As := [.ref (o 0), .int (nI y1), .ref a]) (rest := []) ⟨hx, hb, hml, hown, hts⟩ (l_look_0 l D cI cR cS cL H.size o x v V B y1 a g (by first | assumption | omega) (by first | assumption | omega) (by first | assumption | omega) (by first | assumption | omega) (by first | assumption | omega) (by first | assumption | omega)) (vx_cwSW 3 hts gL_law_L_look rfl rfl rfl (by decide +kernel) ⟨Nat.le_of_ble_eq_true rfl, Nat.le_of_ble_eq_true rfl⟩) (o_pF (W := [ol cL a 1 g] ++ (wO o cI cR cS x v (wV o cI cR V))) hK (hG.kept hS) (o_PT (pre := (wM q cI mv)) (ws := [ol cL a 1 g] ++ (wO o cI cR cS x v (wV o cI cR V))) hP) (o_DT (pre := (wM q cI mv)) (ws := [ol cL a 1 g] ++ (wO o cI cR cS x v (wV o cI cR V))) hD) (va_free hD hS hA _ (o_getT (wM q cI mv) ([ol cL a 1 g] ++ (wO o cI cR cS x v (wV o cI cR V)))))) rfl rfl hl.1 rfl (lv_room (Nat.le_of_ble_eq_true rfl)) dL_law_472 ⟨show cells + 0 ≤ 601024 by omega, show slots + 0 ≤ 7293034 by omega⟩) hP hD hS hA (fun _ => rfl) (fun r1 u H locs e1 hP8 hD8 hS => ?_)
      obtain ⟨er1, hu⟩ := e1
      have er1 : r1 = nI 0 := er1
      subst er1
      have hu : u 0 = (nI (s_glr v y1)).toInt64 := hu
      have hP := hP8
      have hD := hD8
      have hP : va_P D vwCl (z_W q o cI cR cS cL a u (va_up x 0 (c_sv (x 0))) (s_gl v y1) mv (c_put V ((x 0 3 + x 0 4) % 6) v)) H := hP
      have hD : va_D (z_A s) (z_W q o cI cR cS cL a u (va_up x 0 (c_sv (x 0))) (s_gl v y1) mv (c_put V ((x 0 3 + x 0 4) % 6) v)) := hD
      refine lv_istore (lv' := [(5, .int (nI 0)), (4, .int (nI i)), (0, .ref sb), (1, .ref (o 0)), (2, .ref (q 0)), (3, .ref a)]) hx hb dL_law_475 hl (by decide) rfl (fun ls hl => ?_)
      refine lv_aload_n hx hb dL_law_477 rfl (lv_at hl 4 rfl) ?_
      refine lv_aload_n hx hb dL_law_478 rfl (lv_at hl 2 rfl) ?_
      refine lv_iload hx hb dL_law_479 (lv_at hl 1 rfl) ?_
      refine o_const (k := 1) hx hb dL_law_481 (by decide) ?_
      refine o_iadd (k := i + 1) hx hb dL_law_482 rfl ?_
      refine z_ld (y := y1) hx hb hX hS (show i + 1 < L by omega) ey1 dL_law_483 ?_
      refine o_wi (va_runV (As := [.int (nI y1)]) (rest := []) ⟨hx, hb, hml, hown, hts⟩ (k_X5_look l D cI cR cS cL H.size q mv B y1 (by first | assumption | omega) (by first | assumption | omega) (by first | assumption | omega) (by first | assumption | omega)) (cwV 1 hts gL_law_X5_look rfl rfl rfl (by decide +kernel) ⟨Nat.le_of_ble_eq_true rfl, Nat.le_of_ble_eq_true rfl⟩) (o_v (o_pB hK hN (hP.sub (ws' := (wM q cI mv)) [0, 1, 2, 3, 4] rfl) (hD.sub (ws' := (wM q cI mv)) [0, 1, 2, 3, 4] (by decide +kernel) rfl)) (va_recv hK hP (ci := 5) (q0 := 0) rfl rfl)) rfl rfl hl.1 rfl (lv_room (Nat.le_of_ble_eq_true rfl)) dL_law_484 ⟨show cells + 0 + 0 ≤ 601024 by omega, show slots + 0 + 0 ≤ 7293034 by omega⟩) hP hD hS hA [0, 1, 2, 3, 4] (by decide +kernel) rfl (fun _ => rfl) (fun r2 _ H locs e2 hP hD hS => ?_)
      have hP : va_P D vwCl (z_W q o cI cR cS cL a u (va_up x 0 (c_sv (x 0))) (s_gl v y1) (m_act mv (mc_look (mv 1) y1) (m_looks (mv 1) y1)) (c_put V ((x 0 3 + x 0 4) % 6) v)) H := hP
      have hD : va_D (z_A s) (z_W q o cI cR cS cL a u (va_up x 0 (c_sv (x 0))) (s_gl v y1) (m_act mv (mc_look (mv 1) y1) (m_looks (mv 1) y1)) (c_put V ((x 0 3 + x 0 4) % 6) v)) := hD
      rw [ec] at hP hD
      have e2 : r2 = nI (if (mc_look (mv 1) y1) = 0 then m_looksr (mv 1) y1 else 0) := e2
      have er : (if (mc_look (mv 1) y1) = 0 then m_looksr (mv 1) y1 else 0) = (s_glr v y1) := by rw [ec, if_pos rfl]; exact hr.symm
      rw [er] at e2
      subst e2
      refine lv_istore (lv' := [(6, .int (nI (s_glr v y1))), (5, .int (nI 0)), (4, .int (nI i)), (0, .ref sb), (1, .ref (o 0)), (2, .ref (q 0)), (3, .ref a)]) hx hb dL_law_487 hl (by decide) rfl (fun ls hl => ?_)
      refine lv_aload_n hx hb dL_law_489 rfl (lv_at hl 5 rfl) ?_
      refine o_ri (va_runV (As := []) (rest := []) ⟨hx, hb, hml, hown, hts⟩ (k_X5_thrown l D cI cR cS cL q (m_act mv 0 (m_looks (mv 1) y1))) (cwV 0 hts gL_law_X5_thrown rfl rfl rfl (by decide +kernel) ⟨Nat.le_of_ble_eq_true rfl, Nat.le_of_ble_eq_true rfl⟩) (o_v (o_pR hK hN (hP.sub (ws' := (wM q cI (m_act mv 0 (m_looks (mv 1) y1)))) [0, 1, 2, 3, 4] rfl)) (va_recv hK hP (ci := 5) (q0 := 0) rfl rfl)) rfl rfl hl.1 rfl (lv_room (Nat.le_of_ble_eq_true rfl)) dL_law_490 ⟨show cells + 0 + 0 ≤ 601024 by omega, show slots + 0 + 0 ≤ 7293034 by omega⟩) (fun r3 e3 => ?_)
      have e3 : r3 = nI 0 := e3.trans (congrArg nI (rfl : _ = 0))
      subst e3
      refine lv_iload hx hb dL_law_493 (lv_at hl 1 rfl) ?_
      refine o_icmp_eq (tgt := 500) hx hb dL_law_495 (by decide) (Nat.le_of_ble_eq_true rfl) (Nat.le_of_ble_eq_true rfl) (fun _ => ?_) (fun z => absurd rfl z)
      refine lv_iload hx hb dL_law_500 (lv_at hl 1 rfl) ?_
      refine o_if_ne (a := 0) (tgt := 517) hx hb dL_law_502 (by decide) (Nat.le_of_ble_eq_true rfl) (fun z => absurd rfl z) (fun _ => ?_)
      refine lv_aload_n hx hb dL_law_505 rfl (lv_at hl 6 rfl) ?_
      refine o_const (k := 0) hx hb dL_law_506 (by decide) ?_
      refine va_lald hx hb hK hP 5 3 rfl rfl (vp_in_nI (by decide) (by decide)) dL_law_507 ?_
      refine o_tl (congrArg u (nI_clamp (show 0 < 2 ^ 31 by decide))) ?_
      refine lv_iload hx hb dL_law_508 (lv_at hl 0 rfl) ?_
      refine lv_i2l (v := (nI (s_glr v y1)).toInt64) hx hb dL_law_510 rfl ?_
      refine W.lcmp hx hb dL_law_511 ?_
      refine o_ti (z_cmp hu) ?_
      refine o_if_eq (a := 0) (tgt := 517) hx hb dL_law_512 (by decide) (Nat.le_of_ble_eq_true rfl) (fun _ => ?_) (fun z => absurd rfl z)
      refine lv_goto (tgt := 1310) hx hb dL_law_517 (by decide) ?_
      refine W.widen (k := cells + 1) (n := slots + 6) (by omega) (by omega) ?_
      exact K _ _ _ _ _ _ _ _ ⟨hP, hD, hS, g_up G1 (by omega)⟩ (z_drop hl)
    · skip
      have hbad : v (5 + 3 * y1) 1 = 0 := Classical.byContradiction fun z => hm1 ((p_mb hR hI hc1).2.mp z)
      have ec : mc_look (mv 1) y1 = 2 := by unfold mc_look; rw [if_pos hc1, if_neg hm1]
      refine lv_aload_n hx hb dL_law_464 rfl (lv_at hl 2 rfl) ?_
      refine lv_aload_n hx hb dL_law_465 rfl (lv_at hl 1 rfl) ?_
      refine lv_iload hx hb dL_law_466 (lv_at hl 0 rfl) ?_
      refine o_const (k := 1) hx hb dL_law_468 (by decide) ?_
      refine o_iadd (k := i + 1) hx hb dL_law_469 rfl ?_
      refine z_ld (y := y1) hx hb hX hS (show i + 1 < L by omega) ey1 dL_law_470 ?_
      refine lv_aload_n hx hb dL_law_471 rfl (lv_at hl 4 rfl) ?_
      refine o_xiT (wM q cI mv) (vx_runSX (As := [.ref (o 0), .int (nI y1), .ref a]) (rest := []) ⟨hx, hb, hml, hown, hts⟩ (l_look_2 l D cI cR cS cL hfl H.size o x v (wV o cI cR V) B y1 a g (by first | assumption | omega) (by first | assumption | omega) (by first | assumption | omega) (by first | assumption | omega)) (vx_cwSW 3 hts gL_law_L_look rfl rfl rfl (by decide +kernel) ⟨Nat.le_of_ble_eq_true rfl, Nat.le_of_ble_eq_true rfl⟩) (o_pF (W := [ol cL a 1 g] ++ (wO o cI cR cS x v (wV o cI cR V))) hK (hG.kept hS) (o_PT (pre := (wM q cI mv)) (ws := [ol cL a 1 g] ++ (wO o cI cR cS x v (wV o cI cR V))) hP) (o_DT (pre := (wM q cI mv)) (ws := [ol cL a 1 g] ++ (wO o cI cR cS x v (wV o cI cR V))) hD) (va_free hD hS hA _ (o_getT (wM q cI mv) ([ol cL a 1 g] ++ (wO o cI cR cS x v (wV o cI cR V)))))) rfl rfl hl.1 rfl (lv_room (Nat.le_of_ble_eq_true rfl)) dL_law_472 ⟨show cells + 1 ≤ 601024 by omega, show slots + 6 ≤ 7293034 by omega⟩) hP hD hS hA (fun _ => rfl) (fun r1 u H locs e1 hP8 hD8 hS => ?_)
      obtain ⟨er1, hu⟩ := e1
      have er1 : r1 = nI 2 := er1
      subst er1
      subst hu
      have hP := hP8
      have hD := hD8
      have hP : va_P D vwCl (z_W q o cI cR cS cL a u x v mv V) H := hP
      have hD : va_D (z_A s) (z_W q o cI cR cS cL a u x v mv V) := hD
      refine lv_istore (lv' := [(5, .int (nI 2)), (4, .int (nI i)), (0, .ref sb), (1, .ref (o 0)), (2, .ref (q 0)), (3, .ref a)]) hx hb dL_law_475 hl (by decide) rfl (fun ls hl => ?_)
      refine lv_aload_n hx hb dL_law_477 rfl (lv_at hl 4 rfl) ?_
      refine lv_aload_n hx hb dL_law_478 rfl (lv_at hl 2 rfl) ?_
      refine lv_iload hx hb dL_law_479 (lv_at hl 1 rfl) ?_
      refine o_const (k := 1) hx hb dL_law_481 (by decide) ?_
      refine o_iadd (k := i + 1) hx hb dL_law_482 rfl ?_
      refine z_ld (y := y1) hx hb hX hS (show i + 1 < L by omega) ey1 dL_law_483 ?_
      refine o_wi (va_runV (As := [.int (nI y1)]) (rest := []) ⟨hx, hb, hml, hown, hts⟩ (k_X5_look l D cI cR cS cL H.size q mv B y1 (by first | assumption | omega) (by first | assumption | omega) (by first | assumption | omega) (by first | assumption | omega)) (cwV 1 hts gL_law_X5_look rfl rfl rfl (by decide +kernel) ⟨Nat.le_of_ble_eq_true rfl, Nat.le_of_ble_eq_true rfl⟩) (o_v (o_pB hK hN (hP.sub (ws' := (wM q cI mv)) [0, 1, 2, 3, 4] rfl) (hD.sub (ws' := (wM q cI mv)) [0, 1, 2, 3, 4] (by decide +kernel) rfl)) (va_recv hK hP (ci := 5) (q0 := 0) rfl rfl)) rfl rfl hl.1 rfl (lv_room (Nat.le_of_ble_eq_true rfl)) dL_law_484 ⟨show cells + 1 + 0 ≤ 601024 by omega, show slots + 6 + 0 ≤ 7293034 by omega⟩) hP hD hS hA [0, 1, 2, 3, 4] (by decide +kernel) rfl (fun _ => rfl) (fun r2 _ H locs e2 hP hD hS => ?_)
      have hP : va_P D vwCl (z_W q o cI cR cS cL a u x v (m_act mv (mc_look (mv 1) y1) (m_looks (mv 1) y1)) V) H := hP
      have hD : va_D (z_A s) (z_W q o cI cR cS cL a u x v (m_act mv (mc_look (mv 1) y1) (m_looks (mv 1) y1)) V) := hD
      rw [ec] at hP hD
      refine lv_istore (lv' := [(6, .int r2), (5, .int (nI 2)), (4, .int (nI i)), (0, .ref sb), (1, .ref (o 0)), (2, .ref (q 0)), (3, .ref a)]) hx hb dL_law_487 hl (by decide) rfl (fun ls hl => ?_)
      refine lv_aload_n hx hb dL_law_489 rfl (lv_at hl 5 rfl) ?_
      refine o_ri (va_runV (As := []) (rest := []) ⟨hx, hb, hml, hown, hts⟩ (k_X5_thrown l D cI cR cS cL q (m_act mv 2 (m_looks (mv 1) y1))) (cwV 0 hts gL_law_X5_thrown rfl rfl rfl (by decide +kernel) ⟨Nat.le_of_ble_eq_true rfl, Nat.le_of_ble_eq_true rfl⟩) (o_v (o_pR hK hN (hP.sub (ws' := (wM q cI (m_act mv 2 (m_looks (mv 1) y1)))) [0, 1, 2, 3, 4] rfl)) (va_recv hK hP (ci := 5) (q0 := 0) rfl rfl)) rfl rfl hl.1 rfl (lv_room (Nat.le_of_ble_eq_true rfl)) dL_law_490 ⟨show cells + 1 + 0 ≤ 601024 by omega, show slots + 6 + 0 ≤ 7293034 by omega⟩) (fun r3 e3 => ?_)
      have e3 : r3 = nI 2 := e3.trans (congrArg nI (rfl : _ = 2))
      subst e3
      refine lv_iload hx hb dL_law_493 (lv_at hl 1 rfl) ?_
      refine o_icmp_eq (tgt := 500) hx hb dL_law_495 (by decide) (Nat.le_of_ble_eq_true rfl) (Nat.le_of_ble_eq_true rfl) (fun _ => ?_) (fun z => absurd rfl z)
      refine lv_iload hx hb dL_law_500 (lv_at hl 1 rfl) ?_
      refine o_if_ne (a := 2) (tgt := 517) hx hb dL_law_502 (by decide) (Nat.le_of_ble_eq_true rfl) (fun _ => ?_) (fun z => absurd z (by decide))
      refine lv_goto (tgt := 1310) hx hb dL_law_517 (by decide) ?_
      refine W.widen (k := cells + 1) (n := slots + 6) (by omega) (by omega) ?_
      exact K _ _ _ _ _ _ _ _ ⟨hP, hD, hS, g_actf G (by omega) (by decide)⟩ (z_drop hl)
  · skip
    have ec : mc_look (mv 1) y1 = 1 := by unfold mc_look; rw [if_neg hc1]
    refine lv_aload_n hx hb dL_law_464 rfl (lv_at hl 2 rfl) ?_
    refine lv_aload_n hx hb dL_law_465 rfl (lv_at hl 1 rfl) ?_
    refine lv_iload hx hb dL_law_466 (lv_at hl 0 rfl) ?_
    refine o_const (k := 1) hx hb dL_law_468 (by decide) ?_
    refine o_iadd (k := i + 1) hx hb dL_law_469 rfl ?_
    refine z_ld (y := y1) hx hb hX hS (show i + 1 < L by omega) ey1 dL_law_470 ?_
    refine lv_aload_n hx hb dL_law_471 rfl (lv_at hl 4 rfl) ?_
    refine o_xiT (wM q cI mv) (vx_runSX (As := [.ref (o 0), .int (nI y1), .ref a]) (rest := []) ⟨hx, hb, hml, hown, hts⟩ (l_look_1 l D cI cR cS cL hfl H.size o x v (wV o cI cR V) B y1 a g (by first | assumption | omega) (by first | assumption | omega)) (vx_cwSW 3 hts gL_law_L_look rfl rfl rfl (by decide +kernel) ⟨Nat.le_of_ble_eq_true rfl, Nat.le_of_ble_eq_true rfl⟩) (o_pF (W := [ol cL a 1 g] ++ (wO o cI cR cS x v (wV o cI cR V))) hK (hG.kept hS) (o_PT (pre := (wM q cI mv)) (ws := [ol cL a 1 g] ++ (wO o cI cR cS x v (wV o cI cR V))) hP) (o_DT (pre := (wM q cI mv)) (ws := [ol cL a 1 g] ++ (wO o cI cR cS x v (wV o cI cR V))) hD) (va_free hD hS hA _ (o_getT (wM q cI mv) ([ol cL a 1 g] ++ (wO o cI cR cS x v (wV o cI cR V)))))) rfl rfl hl.1 rfl (lv_room (Nat.le_of_ble_eq_true rfl)) dL_law_472 ⟨show cells + 1 ≤ 601024 by omega, show slots + 6 ≤ 7293034 by omega⟩) hP hD hS hA (fun _ => rfl) (fun r1 u H locs e1 hP8 hD8 hS => ?_)
    obtain ⟨er1, hu⟩ := e1
    have er1 : r1 = nI 1 := er1
    subst er1
    subst hu
    have hP := hP8
    have hD := hD8
    have hP : va_P D vwCl (z_W q o cI cR cS cL a u x v mv V) H := hP
    have hD : va_D (z_A s) (z_W q o cI cR cS cL a u x v mv V) := hD
    refine lv_istore (lv' := [(5, .int (nI 1)), (4, .int (nI i)), (0, .ref sb), (1, .ref (o 0)), (2, .ref (q 0)), (3, .ref a)]) hx hb dL_law_475 hl (by decide) rfl (fun ls hl => ?_)
    refine lv_aload_n hx hb dL_law_477 rfl (lv_at hl 4 rfl) ?_
    refine lv_aload_n hx hb dL_law_478 rfl (lv_at hl 2 rfl) ?_
    refine lv_iload hx hb dL_law_479 (lv_at hl 1 rfl) ?_
    refine o_const (k := 1) hx hb dL_law_481 (by decide) ?_
    refine o_iadd (k := i + 1) hx hb dL_law_482 rfl ?_
    refine z_ld (y := y1) hx hb hX hS (show i + 1 < L by omega) ey1 dL_law_483 ?_
    refine o_wi (va_runV (As := [.int (nI y1)]) (rest := []) ⟨hx, hb, hml, hown, hts⟩ (k_X5_look l D cI cR cS cL H.size q mv B y1 (by first | assumption | omega) (by first | assumption | omega) (by first | assumption | omega) (by first | assumption | omega)) (cwV 1 hts gL_law_X5_look rfl rfl rfl (by decide +kernel) ⟨Nat.le_of_ble_eq_true rfl, Nat.le_of_ble_eq_true rfl⟩) (o_v (o_pB hK hN (hP.sub (ws' := (wM q cI mv)) [0, 1, 2, 3, 4] rfl) (hD.sub (ws' := (wM q cI mv)) [0, 1, 2, 3, 4] (by decide +kernel) rfl)) (va_recv hK hP (ci := 5) (q0 := 0) rfl rfl)) rfl rfl hl.1 rfl (lv_room (Nat.le_of_ble_eq_true rfl)) dL_law_484 ⟨show cells + 1 + 0 ≤ 601024 by omega, show slots + 6 + 0 ≤ 7293034 by omega⟩) hP hD hS hA [0, 1, 2, 3, 4] (by decide +kernel) rfl (fun _ => rfl) (fun r2 _ H locs e2 hP hD hS => ?_)
    have hP : va_P D vwCl (z_W q o cI cR cS cL a u x v (m_act mv (mc_look (mv 1) y1) (m_looks (mv 1) y1)) V) H := hP
    have hD : va_D (z_A s) (z_W q o cI cR cS cL a u x v (m_act mv (mc_look (mv 1) y1) (m_looks (mv 1) y1)) V) := hD
    rw [ec] at hP hD
    refine lv_istore (lv' := [(6, .int r2), (5, .int (nI 1)), (4, .int (nI i)), (0, .ref sb), (1, .ref (o 0)), (2, .ref (q 0)), (3, .ref a)]) hx hb dL_law_487 hl (by decide) rfl (fun ls hl => ?_)
    refine lv_aload_n hx hb dL_law_489 rfl (lv_at hl 5 rfl) ?_
    refine o_ri (va_runV (As := []) (rest := []) ⟨hx, hb, hml, hown, hts⟩ (k_X5_thrown l D cI cR cS cL q (m_act mv 1 (m_looks (mv 1) y1))) (cwV 0 hts gL_law_X5_thrown rfl rfl rfl (by decide +kernel) ⟨Nat.le_of_ble_eq_true rfl, Nat.le_of_ble_eq_true rfl⟩) (o_v (o_pR hK hN (hP.sub (ws' := (wM q cI (m_act mv 1 (m_looks (mv 1) y1)))) [0, 1, 2, 3, 4] rfl)) (va_recv hK hP (ci := 5) (q0 := 0) rfl rfl)) rfl rfl hl.1 rfl (lv_room (Nat.le_of_ble_eq_true rfl)) dL_law_490 ⟨show cells + 1 + 0 ≤ 601024 by omega, show slots + 6 + 0 ≤ 7293034 by omega⟩) (fun r3 e3 => ?_)
    have e3 : r3 = nI 1 := e3.trans (congrArg nI (rfl : _ = 1))
    subst e3
    refine lv_iload hx hb dL_law_493 (lv_at hl 1 rfl) ?_
    refine o_icmp_eq (tgt := 500) hx hb dL_law_495 (by decide) (Nat.le_of_ble_eq_true rfl) (Nat.le_of_ble_eq_true rfl) (fun _ => ?_) (fun z => absurd rfl z)
    refine lv_iload hx hb dL_law_500 (lv_at hl 1 rfl) ?_
    refine o_if_ne (a := 1) (tgt := 517) hx hb dL_law_502 (by decide) (Nat.le_of_ble_eq_true rfl) (fun _ => ?_) (fun z => absurd z (by decide))
    refine lv_goto (tgt := 1310) hx hb dL_law_517 (by decide) ?_
    refine W.widen (k := cells + 1) (n := slots + 6) (by omega) (by omega) ?_
    exact K _ _ _ _ _ _ _ _ ⟨hP, hD, hS, g_actf G (by omega) (by decide)⟩ (z_drop hl)
set_option maxHeartbeats 4000000 in
set_option maxRecDepth 100000 in
theorem z_set {p : Program} {l : Launch} {e : Env} {s : State} {m : MethodId} {args : Array Value} {below : List Frame} {meth : Method} {c : Code} {Q : State → Prop} {D : va_G} {cI cR cS cL : ClassId} {sb L : Nat} {xs : Nat → Int32} {q o : Nat → Nat} {a i B cells slots : Nat} {H : Heap} {locs : List Loc} {ls : Array Slot} {x v mv : Nat → Nat → Nat} {V : Nat → Nat → Nat → Nat} {g : Nat → Int64} (C : z_C p l s m args c D cI cR cS cL sb L xs) (h : z_S s D q o cI cR cS cL a g x v mv V B H locs) (hl : lv_has ls 9 (z_L i sb a o q)) (hi : i + 3 ≤ L) (hB : B < 2 ^ 27) (hc : cells + 1 ≤ 601024) (hsl : slots + 6 ≤ 7293034) (K : z_N p l e s m args below meth c Q D cI cR cS cL sb q o a i (B + 60) (cells + 1) (slots + 6)) : W p l e room_1 s m args below meth c H locs cells slots Q (F0 m 520 ls []) := by
  obtain ⟨hx, hb, hml, hown, hts, hK, hfl, hX, hG⟩ := C
  obtain ⟨hP, hD, hS, G⟩ := h
  obtain ⟨hR, hSI, hI, -, -⟩ := id G
  obtain ⟨⟨gx0, gx1, gx2⟩, ⟨gx3, gx4, gx5⟩, hx1, hm3, hVI⟩ := g_x G
  have hN := hG.1
  have hA : ∀ q : Nat, s.heap.size ≤ q → z_A s q := fun _ h => h
  have hB28 : B < 2 ^ 28 := by omega
  have hs6 : mv 0 0 ≤ 6 := by omega
  have h60 : mv 0 1 ≤ 60 := by omega
  obtain ⟨y1, hy1, ey1⟩ := o_of (xs (i + 1))
  by_cases hc1 : 1 ≤ y1 ∧ y1 ≤ 20
  · skip
    obtain ⟨hc2, hc3⟩ := id hc1
    obtain ⟨hr, G1⟩ := g_set G hc2 hc3
    have ec : mc_set y1 = 0 := by unfold mc_set; rw [if_pos hc1]
    refine lv_aload_n hx hb dL_law_520 rfl (lv_at hl 2 rfl) ?_
    refine lv_aload_n hx hb dL_law_521 rfl (lv_at hl 1 rfl) ?_
    refine lv_iload hx hb dL_law_522 (lv_at hl 0 rfl) ?_
    refine o_const (k := 1) hx hb dL_law_524 (by decide) ?_
    refine o_iadd (k := i + 1) hx hb dL_law_525 rfl ?_
    refine z_ld (y := y1) hx hb hX hS (show i + 1 < L by omega) ey1 dL_law_526 ?_
    refine lv_aload_n hx hb dL_law_527 rfl (lv_at hl 4 rfl) ?_
    refine o_xiT (wM q cI mv) (vx_runSX (As := [.ref (o 0), .int (nI y1), .ref a]) (rest := []) ⟨hx, hb, hml, hown, hts⟩ (l_set_0 l D cI cR cS cL H.size o x v V B y1 a g (by first | assumption | omega) (by first | assumption | omega) (by first | assumption | omega) (by first | assumption | omega) (by first | assumption | omega) (by first | assumption | omega)) (vx_cwSW 3 hts gL_law_L_set rfl rfl rfl (by decide +kernel) ⟨Nat.le_of_ble_eq_true rfl, Nat.le_of_ble_eq_true rfl⟩) (o_pF (W := [ol cL a 1 g] ++ (wO o cI cR cS x v (wV o cI cR V))) hK (hG.kept hS) (o_PT (pre := (wM q cI mv)) (ws := [ol cL a 1 g] ++ (wO o cI cR cS x v (wV o cI cR V))) hP) (o_DT (pre := (wM q cI mv)) (ws := [ol cL a 1 g] ++ (wO o cI cR cS x v (wV o cI cR V))) hD) (va_free hD hS hA _ (o_getT (wM q cI mv) ([ol cL a 1 g] ++ (wO o cI cR cS x v (wV o cI cR V)))))) rfl rfl hl.1 rfl (lv_room (Nat.le_of_ble_eq_true rfl)) dL_law_528 ⟨show cells + 0 ≤ 601024 by omega, show slots + 0 ≤ 7293034 by omega⟩) hP hD hS hA (fun _ => rfl) (fun r1 u H locs e1 hP8 hD8 hS => ?_)
    obtain ⟨er1, hu⟩ := e1
    have er1 : r1 = nI 0 := er1
    subst er1
    have hu : u 0 = (nI (v 0 2)).toInt64 := hu
    have hP := hP8
    have hD := hD8
    have hP : va_P D vwCl (z_W q o cI cR cS cL a u (va_up x 0 (c_sv (x 0))) (va_up v 0 (va_up (v 0) 2 y1)) mv (c_put V ((x 0 3 + x 0 4) % 6) v)) H := hP
    have hD : va_D (z_A s) (z_W q o cI cR cS cL a u (va_up x 0 (c_sv (x 0))) (va_up v 0 (va_up (v 0) 2 y1)) mv (c_put V ((x 0 3 + x 0 4) % 6) v)) := hD
    refine lv_istore (lv' := [(5, .int (nI 0)), (4, .int (nI i)), (0, .ref sb), (1, .ref (o 0)), (2, .ref (q 0)), (3, .ref a)]) hx hb dL_law_531 hl (by decide) rfl (fun ls hl => ?_)
    refine lv_aload_n hx hb dL_law_533 rfl (lv_at hl 4 rfl) ?_
    refine lv_aload_n hx hb dL_law_534 rfl (lv_at hl 2 rfl) ?_
    refine lv_iload hx hb dL_law_535 (lv_at hl 1 rfl) ?_
    refine o_const (k := 1) hx hb dL_law_537 (by decide) ?_
    refine o_iadd (k := i + 1) hx hb dL_law_538 rfl ?_
    refine z_ld (y := y1) hx hb hX hS (show i + 1 < L by omega) ey1 dL_law_539 ?_
    refine o_wi (va_runV (As := [.int (nI y1)]) (rest := []) ⟨hx, hb, hml, hown, hts⟩ (k_X5_set l D cI cR cS cL H.size q mv B y1 (by first | assumption | omega) (by first | assumption | omega) (by first | assumption | omega) (by first | assumption | omega)) (cwV 1 hts gL_law_X5_set rfl rfl rfl (by decide +kernel) ⟨Nat.le_of_ble_eq_true rfl, Nat.le_of_ble_eq_true rfl⟩) (o_v (o_pB hK hN (hP.sub (ws' := (wM q cI mv)) [0, 1, 2, 3, 4] rfl) (hD.sub (ws' := (wM q cI mv)) [0, 1, 2, 3, 4] (by decide +kernel) rfl)) (va_recv hK hP (ci := 5) (q0 := 0) rfl rfl)) rfl rfl hl.1 rfl (lv_room (Nat.le_of_ble_eq_true rfl)) dL_law_540 ⟨show cells + 0 + 0 ≤ 601024 by omega, show slots + 0 + 0 ≤ 7293034 by omega⟩) hP hD hS hA [0, 1, 2, 3, 4] (by decide +kernel) rfl (fun _ => rfl) (fun r2 _ H locs e2 hP hD hS => ?_)
    have hP : va_P D vwCl (z_W q o cI cR cS cL a u (va_up x 0 (c_sv (x 0))) (va_up v 0 (va_up (v 0) 2 y1)) (m_act mv (mc_set y1) (va_up (mv 1) 1 y1)) (c_put V ((x 0 3 + x 0 4) % 6) v)) H := hP
    have hD : va_D (z_A s) (z_W q o cI cR cS cL a u (va_up x 0 (c_sv (x 0))) (va_up v 0 (va_up (v 0) 2 y1)) (m_act mv (mc_set y1) (va_up (mv 1) 1 y1)) (c_put V ((x 0 3 + x 0 4) % 6) v)) := hD
    rw [ec] at hP hD
    have e2 : r2 = nI (if (mc_set y1) = 0 then mv 1 1 else 0) := e2
    have er : (if (mc_set y1) = 0 then mv 1 1 else 0) = (v 0 2) := by rw [ec, if_pos rfl]; exact hr.symm
    rw [er] at e2
    subst e2
    refine lv_istore (lv' := [(6, .int (nI (v 0 2))), (5, .int (nI 0)), (4, .int (nI i)), (0, .ref sb), (1, .ref (o 0)), (2, .ref (q 0)), (3, .ref a)]) hx hb dL_law_543 hl (by decide) rfl (fun ls hl => ?_)
    refine lv_aload_n hx hb dL_law_545 rfl (lv_at hl 5 rfl) ?_
    refine o_ri (va_runV (As := []) (rest := []) ⟨hx, hb, hml, hown, hts⟩ (k_X5_thrown l D cI cR cS cL q (m_act mv 0 (va_up (mv 1) 1 y1))) (cwV 0 hts gL_law_X5_thrown rfl rfl rfl (by decide +kernel) ⟨Nat.le_of_ble_eq_true rfl, Nat.le_of_ble_eq_true rfl⟩) (o_v (o_pR hK hN (hP.sub (ws' := (wM q cI (m_act mv 0 (va_up (mv 1) 1 y1)))) [0, 1, 2, 3, 4] rfl)) (va_recv hK hP (ci := 5) (q0 := 0) rfl rfl)) rfl rfl hl.1 rfl (lv_room (Nat.le_of_ble_eq_true rfl)) dL_law_546 ⟨show cells + 0 + 0 ≤ 601024 by omega, show slots + 0 + 0 ≤ 7293034 by omega⟩) (fun r3 e3 => ?_)
    have e3 : r3 = nI 0 := e3.trans (congrArg nI (rfl : _ = 0))
    subst e3
    refine lv_iload hx hb dL_law_549 (lv_at hl 1 rfl) ?_
    refine o_icmp_eq (tgt := 556) hx hb dL_law_551 (by decide) (Nat.le_of_ble_eq_true rfl) (Nat.le_of_ble_eq_true rfl) (fun _ => ?_) (fun z => absurd rfl z)
    refine lv_iload hx hb dL_law_556 (lv_at hl 1 rfl) ?_
    refine o_if_ne (a := 0) (tgt := 573) hx hb dL_law_558 (by decide) (Nat.le_of_ble_eq_true rfl) (fun z => absurd rfl z) (fun _ => ?_)
    refine lv_aload_n hx hb dL_law_561 rfl (lv_at hl 6 rfl) ?_
    refine o_const (k := 0) hx hb dL_law_562 (by decide) ?_
    refine va_lald hx hb hK hP 5 3 rfl rfl (vp_in_nI (by decide) (by decide)) dL_law_563 ?_
    refine o_tl (congrArg u (nI_clamp (show 0 < 2 ^ 31 by decide))) ?_
    refine lv_iload hx hb dL_law_564 (lv_at hl 0 rfl) ?_
    refine lv_i2l (v := (nI (v 0 2)).toInt64) hx hb dL_law_566 rfl ?_
    refine W.lcmp hx hb dL_law_567 ?_
    refine o_ti (z_cmp hu) ?_
    refine o_if_eq (a := 0) (tgt := 573) hx hb dL_law_568 (by decide) (Nat.le_of_ble_eq_true rfl) (fun _ => ?_) (fun z => absurd rfl z)
    refine lv_goto (tgt := 1310) hx hb dL_law_573 (by decide) ?_
    refine W.widen (k := cells + 1) (n := slots + 6) (by omega) (by omega) ?_
    exact K _ _ _ _ _ _ _ _ ⟨hP, hD, hS, g_up G1 (by omega)⟩ (z_drop hl)
  · skip
    have ec : mc_set y1 = 1 := by unfold mc_set; rw [if_neg hc1]
    refine lv_aload_n hx hb dL_law_520 rfl (lv_at hl 2 rfl) ?_
    refine lv_aload_n hx hb dL_law_521 rfl (lv_at hl 1 rfl) ?_
    refine lv_iload hx hb dL_law_522 (lv_at hl 0 rfl) ?_
    refine o_const (k := 1) hx hb dL_law_524 (by decide) ?_
    refine o_iadd (k := i + 1) hx hb dL_law_525 rfl ?_
    refine z_ld (y := y1) hx hb hX hS (show i + 1 < L by omega) ey1 dL_law_526 ?_
    refine lv_aload_n hx hb dL_law_527 rfl (lv_at hl 4 rfl) ?_
    refine o_xiT (wM q cI mv) (vx_runSX (As := [.ref (o 0), .int (nI y1), .ref a]) (rest := []) ⟨hx, hb, hml, hown, hts⟩ (l_set_1 l D cI cR cS cL hfl H.size o x v (wV o cI cR V) B y1 a g (by first | assumption | omega) (by first | assumption | omega)) (vx_cwSW 3 hts gL_law_L_set rfl rfl rfl (by decide +kernel) ⟨Nat.le_of_ble_eq_true rfl, Nat.le_of_ble_eq_true rfl⟩) (o_pF (W := [ol cL a 1 g] ++ (wO o cI cR cS x v (wV o cI cR V))) hK (hG.kept hS) (o_PT (pre := (wM q cI mv)) (ws := [ol cL a 1 g] ++ (wO o cI cR cS x v (wV o cI cR V))) hP) (o_DT (pre := (wM q cI mv)) (ws := [ol cL a 1 g] ++ (wO o cI cR cS x v (wV o cI cR V))) hD) (va_free hD hS hA _ (o_getT (wM q cI mv) ([ol cL a 1 g] ++ (wO o cI cR cS x v (wV o cI cR V)))))) rfl rfl hl.1 rfl (lv_room (Nat.le_of_ble_eq_true rfl)) dL_law_528 ⟨show cells + 1 ≤ 601024 by omega, show slots + 6 ≤ 7293034 by omega⟩) hP hD hS hA (fun _ => rfl) (fun r1 u H locs e1 hP8 hD8 hS => ?_)
    obtain ⟨er1, hu⟩ := e1
    have er1 : r1 = nI 1 := er1
    subst er1
    subst hu
    have hP := hP8
    have hD := hD8
    have hP : va_P D vwCl (z_W q o cI cR cS cL a u x v mv V) H := hP
    have hD : va_D (z_A s) (z_W q o cI cR cS cL a u x v mv V) := hD
    refine lv_istore (lv' := [(5, .int (nI 1)), (4, .int (nI i)), (0, .ref sb), (1, .ref (o 0)), (2, .ref (q 0)), (3, .ref a)]) hx hb dL_law_531 hl (by decide) rfl (fun ls hl => ?_)
    refine lv_aload_n hx hb dL_law_533 rfl (lv_at hl 4 rfl) ?_
    refine lv_aload_n hx hb dL_law_534 rfl (lv_at hl 2 rfl) ?_
    refine lv_iload hx hb dL_law_535 (lv_at hl 1 rfl) ?_
    refine o_const (k := 1) hx hb dL_law_537 (by decide) ?_
    refine o_iadd (k := i + 1) hx hb dL_law_538 rfl ?_
    refine z_ld (y := y1) hx hb hX hS (show i + 1 < L by omega) ey1 dL_law_539 ?_
    refine o_wi (va_runV (As := [.int (nI y1)]) (rest := []) ⟨hx, hb, hml, hown, hts⟩ (k_X5_set l D cI cR cS cL H.size q mv B y1 (by first | assumption | omega) (by first | assumption | omega) (by first | assumption | omega) (by first | assumption | omega)) (cwV 1 hts gL_law_X5_set rfl rfl rfl (by decide +kernel) ⟨Nat.le_of_ble_eq_true rfl, Nat.le_of_ble_eq_true rfl⟩) (o_v (o_pB hK hN (hP.sub (ws' := (wM q cI mv)) [0, 1, 2, 3, 4] rfl) (hD.sub (ws' := (wM q cI mv)) [0, 1, 2, 3, 4] (by decide +kernel) rfl)) (va_recv hK hP (ci := 5) (q0 := 0) rfl rfl)) rfl rfl hl.1 rfl (lv_room (Nat.le_of_ble_eq_true rfl)) dL_law_540 ⟨show cells + 1 + 0 ≤ 601024 by omega, show slots + 6 + 0 ≤ 7293034 by omega⟩) hP hD hS hA [0, 1, 2, 3, 4] (by decide +kernel) rfl (fun _ => rfl) (fun r2 _ H locs e2 hP hD hS => ?_)
    have hP : va_P D vwCl (z_W q o cI cR cS cL a u x v (m_act mv (mc_set y1) (va_up (mv 1) 1 y1)) V) H := hP
    have hD : va_D (z_A s) (z_W q o cI cR cS cL a u x v (m_act mv (mc_set y1) (va_up (mv 1) 1 y1)) V) := hD
    rw [ec] at hP hD
    refine lv_istore (lv' := [(6, .int r2), (5, .int (nI 1)), (4, .int (nI i)), (0, .ref sb), (1, .ref (o 0)), (2, .ref (q 0)), (3, .ref a)]) hx hb dL_law_543 hl (by decide) rfl (fun ls hl => ?_)
    refine lv_aload_n hx hb dL_law_545 rfl (lv_at hl 5 rfl) ?_
    refine o_ri (va_runV (As := []) (rest := []) ⟨hx, hb, hml, hown, hts⟩ (k_X5_thrown l D cI cR cS cL q (m_act mv 1 (va_up (mv 1) 1 y1))) (cwV 0 hts gL_law_X5_thrown rfl rfl rfl (by decide +kernel) ⟨Nat.le_of_ble_eq_true rfl, Nat.le_of_ble_eq_true rfl⟩) (o_v (o_pR hK hN (hP.sub (ws' := (wM q cI (m_act mv 1 (va_up (mv 1) 1 y1)))) [0, 1, 2, 3, 4] rfl)) (va_recv hK hP (ci := 5) (q0 := 0) rfl rfl)) rfl rfl hl.1 rfl (lv_room (Nat.le_of_ble_eq_true rfl)) dL_law_546 ⟨show cells + 1 + 0 ≤ 601024 by omega, show slots + 6 + 0 ≤ 7293034 by omega⟩) (fun r3 e3 => ?_)
    have e3 : r3 = nI 1 := e3.trans (congrArg nI (rfl : _ = 1))
    subst e3
    refine lv_iload hx hb dL_law_549 (lv_at hl 1 rfl) ?_
    refine o_icmp_eq (tgt := 556) hx hb dL_law_551 (by decide) (Nat.le_of_ble_eq_true rfl) (Nat.le_of_ble_eq_true rfl) (fun _ => ?_) (fun z => absurd rfl z)
    refine lv_iload hx hb dL_law_556 (lv_at hl 1 rfl) ?_
    refine o_if_ne (a := 1) (tgt := 573) hx hb dL_law_558 (by decide) (Nat.le_of_ble_eq_true rfl) (fun _ => ?_) (fun z => absurd z (by decide))
    refine lv_goto (tgt := 1310) hx hb dL_law_573 (by decide) ?_
    refine W.widen (k := cells + 1) (n := slots + 6) (by omega) (by omega) ?_
    exact K _ _ _ _ _ _ _ _ ⟨hP, hD, hS, g_actf G (by omega) (by decide)⟩ (z_drop hl)
set_option maxHeartbeats 4000000 in
set_option maxRecDepth 100000 in
theorem z_append {p : Program} {l : Launch} {e : Env} {s : State} {m : MethodId} {args : Array Value} {below : List Frame} {meth : Method} {c : Code} {Q : State → Prop} {D : va_G} {cI cR cS cL : ClassId} {sb L : Nat} {xs : Nat → Int32} {q o : Nat → Nat} {a i B cells slots : Nat} {H : Heap} {locs : List Loc} {ls : Array Slot} {x v mv : Nat → Nat → Nat} {V : Nat → Nat → Nat → Nat} {g : Nat → Int64} (C : z_C p l s m args c D cI cR cS cL sb L xs) (h : z_S s D q o cI cR cS cL a g x v mv V B H locs) (hl : lv_has ls 9 (z_L i sb a o q)) (hi : i + 3 ≤ L) (hB : B < 2 ^ 27) (hc : cells + 1 ≤ 601024) (hsl : slots + 6 ≤ 7293034) (K : z_N p l e s m args below meth c Q D cI cR cS cL sb q o a i (B + 60) (cells + 1) (slots + 6)) : W p l e room_1 s m args below meth c H locs cells slots Q (F0 m 576 ls []) := by
  obtain ⟨hx, hb, hml, hown, hts, hK, hfl, hX, hG⟩ := C
  obtain ⟨hP, hD, hS, G⟩ := h
  obtain ⟨hR, hSI, hI, -, -⟩ := id G
  obtain ⟨⟨gx0, gx1, gx2⟩, ⟨gx3, gx4, gx5⟩, hx1, hm3, hVI⟩ := g_x G
  have hN := hG.1
  have hA : ∀ q : Nat, s.heap.size ≤ q → z_A s q := fun _ h => h
  have hB28 : B < 2 ^ 28 := by omega
  have hs6 : mv 0 0 ≤ 6 := by omega
  have h60 : mv 0 1 ≤ 60 := by omega
  obtain ⟨y1, hy1, ey1⟩ := o_of (xs (i + 1))
  by_cases hc1 : 33 ≤ y1 ∧ y1 ≤ 126
  · skip
    by_cases hm1 : mv 0 1 = 60
    · skip
      have hbad : ¬ x 0 0 < 60 := by omega
      have ec : mc_app (mv 0 1) y1 = 2 := by unfold mc_app; rw [if_pos hc1, if_pos hm1]
      refine lv_aload_n hx hb dL_law_576 rfl (lv_at hl 2 rfl) ?_
      refine lv_aload_n hx hb dL_law_577 rfl (lv_at hl 1 rfl) ?_
      refine lv_iload hx hb dL_law_578 (lv_at hl 0 rfl) ?_
      refine o_const (k := 1) hx hb dL_law_580 (by decide) ?_
      refine o_iadd (k := i + 1) hx hb dL_law_581 rfl ?_
      refine z_ld (y := y1) hx hb hX hS (show i + 1 < L by omega) ey1 dL_law_582 ?_
      refine lv_aload_n hx hb dL_law_583 rfl (lv_at hl 4 rfl) ?_
      refine o_xiT (wM q cI mv) (vx_runSX (As := [.ref (o 0), .int (nI y1), .ref a]) (rest := []) ⟨hx, hb, hml, hown, hts⟩ (l_append_2 l D cI cR cS cL hfl H.size o x v (wV o cI cR V) B y1 a g (by first | assumption | omega) (by first | assumption | omega) (by first | assumption | omega)) (vx_cwSW 3 hts gL_law_L_append rfl rfl rfl (by decide +kernel) ⟨Nat.le_of_ble_eq_true rfl, Nat.le_of_ble_eq_true rfl⟩) (o_pF (W := [ol cL a 1 g] ++ (wO o cI cR cS x v (wV o cI cR V))) hK (hG.kept hS) (o_PT (pre := (wM q cI mv)) (ws := [ol cL a 1 g] ++ (wO o cI cR cS x v (wV o cI cR V))) hP) (o_DT (pre := (wM q cI mv)) (ws := [ol cL a 1 g] ++ (wO o cI cR cS x v (wV o cI cR V))) hD) (va_free hD hS hA _ (o_getT (wM q cI mv) ([ol cL a 1 g] ++ (wO o cI cR cS x v (wV o cI cR V)))))) rfl rfl hl.1 rfl (lv_room (Nat.le_of_ble_eq_true rfl)) dL_law_584 ⟨show cells + 1 ≤ 601024 by omega, show slots + 6 ≤ 7293034 by omega⟩) hP hD hS hA (fun _ => rfl) (fun r1 u H locs e1 hP8 hD8 hS => ?_)
      obtain ⟨er1, hu⟩ := e1
      have er1 : r1 = nI 2 := er1
      subst er1
      subst hu
      have hP := hP8
      have hD := hD8
      have hP : va_P D vwCl (z_W q o cI cR cS cL a u x v mv V) H := hP
      have hD : va_D (z_A s) (z_W q o cI cR cS cL a u x v mv V) := hD
      refine lv_istore (lv' := [(5, .int (nI 2)), (4, .int (nI i)), (0, .ref sb), (1, .ref (o 0)), (2, .ref (q 0)), (3, .ref a)]) hx hb dL_law_587 hl (by decide) rfl (fun ls hl => ?_)
      refine lv_aload_n hx hb dL_law_589 rfl (lv_at hl 4 rfl) ?_
      refine lv_aload_n hx hb dL_law_590 rfl (lv_at hl 2 rfl) ?_
      refine lv_iload hx hb dL_law_591 (lv_at hl 1 rfl) ?_
      refine o_const (k := 1) hx hb dL_law_593 (by decide) ?_
      refine o_iadd (k := i + 1) hx hb dL_law_594 rfl ?_
      refine z_ld (y := y1) hx hb hX hS (show i + 1 < L by omega) ey1 dL_law_595 ?_
      refine o_wi (va_runV (As := [.int (nI y1)]) (rest := []) ⟨hx, hb, hml, hown, hts⟩ (k_X5_append l D cI cR cS cL H.size q mv y1 (by first | assumption | omega) (by first | assumption | omega)) (cwV 1 hts gL_law_X5_append rfl rfl rfl (by decide +kernel) ⟨Nat.le_of_ble_eq_true rfl, Nat.le_of_ble_eq_true rfl⟩) (o_v (o_pB hK hN (hP.sub (ws' := (wM q cI mv)) [0, 1, 2, 3, 4] rfl) (hD.sub (ws' := (wM q cI mv)) [0, 1, 2, 3, 4] (by decide +kernel) rfl)) (va_recv hK hP (ci := 5) (q0 := 0) rfl rfl)) rfl rfl hl.1 rfl (lv_room (Nat.le_of_ble_eq_true rfl)) dL_law_596 ⟨show cells + 1 + 0 ≤ 601024 by omega, show slots + 6 + 0 ≤ 7293034 by omega⟩) hP hD hS hA [0, 1, 2, 3, 4] (by decide +kernel) rfl (fun _ => rfl) (fun r2 _ H locs e2 hP hD hS => ?_)
      have hP : va_P D vwCl (z_W q o cI cR cS cL a u x v (m_app mv y1) V) H := hP
      have hD : va_D (z_A s) (z_W q o cI cR cS cL a u x v (m_app mv y1) V) := hD
      refine lv_istore (lv' := [(6, .int r2), (5, .int (nI 2)), (4, .int (nI i)), (0, .ref sb), (1, .ref (o 0)), (2, .ref (q 0)), (3, .ref a)]) hx hb dL_law_599 hl (by decide) rfl (fun ls hl => ?_)
      refine lv_aload_n hx hb dL_law_601 rfl (lv_at hl 5 rfl) ?_
      refine o_ri (va_runV (As := []) (rest := []) ⟨hx, hb, hml, hown, hts⟩ (k_X5_thrown l D cI cR cS cL q (m_app mv y1)) (cwV 0 hts gL_law_X5_thrown rfl rfl rfl (by decide +kernel) ⟨Nat.le_of_ble_eq_true rfl, Nat.le_of_ble_eq_true rfl⟩) (o_v (o_pR hK hN (hP.sub (ws' := (wM q cI (m_app mv y1))) [0, 1, 2, 3, 4] rfl)) (va_recv hK hP (ci := 5) (q0 := 0) rfl rfl)) rfl rfl hl.1 rfl (lv_room (Nat.le_of_ble_eq_true rfl)) dL_law_602 ⟨show cells + 1 + 0 ≤ 601024 by omega, show slots + 6 + 0 ≤ 7293034 by omega⟩) (fun r3 e3 => ?_)
      have e3 : r3 = nI 2 := e3.trans (congrArg nI (z_app2.trans ec))
      subst e3
      refine lv_iload hx hb dL_law_605 (lv_at hl 1 rfl) ?_
      refine o_icmp_eq (tgt := 612) hx hb dL_law_607 (by decide) (Nat.le_of_ble_eq_true rfl) (Nat.le_of_ble_eq_true rfl) (fun _ => ?_) (fun z => absurd rfl z)
      refine lv_iload hx hb dL_law_612 (lv_at hl 1 rfl) ?_
      refine o_if_ne (a := 2) (tgt := 629) hx hb dL_law_614 (by decide) (Nat.le_of_ble_eq_true rfl) (fun _ => ?_) (fun z => absurd z (by decide))
      refine lv_goto (tgt := 1310) hx hb dL_law_629 (by decide) ?_
      refine W.widen (k := cells + 1) (n := slots + 6) (by omega) (by omega) ?_
      exact K _ _ _ _ _ _ _ _ ⟨hP, hD, hS, g_appf G (by omega) (by rw [ec]; decide)⟩ (z_drop hl)
    · skip
      have hq0 : x 0 0 < 60 := by omega
      have ec : mc_app (mv 0 1) y1 = 0 := by unfold mc_app; rw [if_pos hc1, if_neg hm1]
      refine lv_aload_n hx hb dL_law_576 rfl (lv_at hl 2 rfl) ?_
      refine lv_aload_n hx hb dL_law_577 rfl (lv_at hl 1 rfl) ?_
      refine lv_iload hx hb dL_law_578 (lv_at hl 0 rfl) ?_
      refine o_const (k := 1) hx hb dL_law_580 (by decide) ?_
      refine o_iadd (k := i + 1) hx hb dL_law_581 rfl ?_
      refine z_ld (y := y1) hx hb hX hS (show i + 1 < L by omega) ey1 dL_law_582 ?_
      refine lv_aload_n hx hb dL_law_583 rfl (lv_at hl 4 rfl) ?_
      refine o_xiT (wM q cI mv) (vx_runSX (As := [.ref (o 0), .int (nI y1), .ref a]) (rest := []) ⟨hx, hb, hml, hown, hts⟩ (l_append_0 l D cI cR cS cL H.size o x v (wV o cI cR V) B y1 a g (by first | assumption | omega) (by first | assumption | omega) (by first | assumption | omega)) (vx_cwSW 3 hts gL_law_L_append rfl rfl rfl (by decide +kernel) ⟨Nat.le_of_ble_eq_true rfl, Nat.le_of_ble_eq_true rfl⟩) (o_pF (W := [ol cL a 1 g] ++ (wO o cI cR cS x v (wV o cI cR V))) hK (hG.kept hS) (o_PT (pre := (wM q cI mv)) (ws := [ol cL a 1 g] ++ (wO o cI cR cS x v (wV o cI cR V))) hP) (o_DT (pre := (wM q cI mv)) (ws := [ol cL a 1 g] ++ (wO o cI cR cS x v (wV o cI cR V))) hD) (va_free hD hS hA _ (o_getT (wM q cI mv) ([ol cL a 1 g] ++ (wO o cI cR cS x v (wV o cI cR V)))))) rfl rfl hl.1 rfl (lv_room (Nat.le_of_ble_eq_true rfl)) dL_law_584 ⟨show cells + 0 ≤ 601024 by omega, show slots + 0 ≤ 7293034 by omega⟩) hP hD hS hA (fun _ => rfl) (fun r1 u H locs e1 hP8 hD8 hS => ?_)
      obtain ⟨er1, hu⟩ := e1
      have er1 : r1 = nI 0 := er1
      subst er1
      have hu : u 0 = (nI (x 0 0 + 1)).toInt64 := hu
      have hP := hP8
      have hD := hD8
      have hP : va_P D vwCl (z_W q o cI cR cS cL a u (t_add x y1) v mv V) H := hP
      have hD : va_D (z_A s) (z_W q o cI cR cS cL a u (t_add x y1) v mv V) := hD
      refine lv_istore (lv' := [(5, .int (nI 0)), (4, .int (nI i)), (0, .ref sb), (1, .ref (o 0)), (2, .ref (q 0)), (3, .ref a)]) hx hb dL_law_587 hl (by decide) rfl (fun ls hl => ?_)
      refine lv_aload_n hx hb dL_law_589 rfl (lv_at hl 4 rfl) ?_
      refine lv_aload_n hx hb dL_law_590 rfl (lv_at hl 2 rfl) ?_
      refine lv_iload hx hb dL_law_591 (lv_at hl 1 rfl) ?_
      refine o_const (k := 1) hx hb dL_law_593 (by decide) ?_
      refine o_iadd (k := i + 1) hx hb dL_law_594 rfl ?_
      refine z_ld (y := y1) hx hb hX hS (show i + 1 < L by omega) ey1 dL_law_595 ?_
      refine o_wi (va_runV (As := [.int (nI y1)]) (rest := []) ⟨hx, hb, hml, hown, hts⟩ (k_X5_append l D cI cR cS cL H.size q mv y1 (by first | assumption | omega) (by first | assumption | omega)) (cwV 1 hts gL_law_X5_append rfl rfl rfl (by decide +kernel) ⟨Nat.le_of_ble_eq_true rfl, Nat.le_of_ble_eq_true rfl⟩) (o_v (o_pB hK hN (hP.sub (ws' := (wM q cI mv)) [0, 1, 2, 3, 4] rfl) (hD.sub (ws' := (wM q cI mv)) [0, 1, 2, 3, 4] (by decide +kernel) rfl)) (va_recv hK hP (ci := 5) (q0 := 0) rfl rfl)) rfl rfl hl.1 rfl (lv_room (Nat.le_of_ble_eq_true rfl)) dL_law_596 ⟨show cells + 0 + 0 ≤ 601024 by omega, show slots + 0 + 0 ≤ 7293034 by omega⟩) hP hD hS hA [0, 1, 2, 3, 4] (by decide +kernel) rfl (fun _ => rfl) (fun r2 _ H locs e2 hP hD hS => ?_)
      have hP : va_P D vwCl (z_W q o cI cR cS cL a u (t_add x y1) v (m_app mv y1) V) H := hP
      have hD : va_D (z_A s) (z_W q o cI cR cS cL a u (t_add x y1) v (m_app mv y1) V) := hD
      have e2 : r2 = nI (if mc_app (mv 0 1) y1 = 0 then mv 0 1 + 1 else 0) := e2
      have er : (if mc_app (mv 0 1) y1 = 0 then mv 0 1 + 1 else 0) = (x 0 0 + 1) := by rw [ec, if_pos rfl, gx0]
      rw [er] at e2
      subst e2
      refine lv_istore (lv' := [(6, .int (nI (x 0 0 + 1))), (5, .int (nI 0)), (4, .int (nI i)), (0, .ref sb), (1, .ref (o 0)), (2, .ref (q 0)), (3, .ref a)]) hx hb dL_law_599 hl (by decide) rfl (fun ls hl => ?_)
      refine lv_aload_n hx hb dL_law_601 rfl (lv_at hl 5 rfl) ?_
      refine o_ri (va_runV (As := []) (rest := []) ⟨hx, hb, hml, hown, hts⟩ (k_X5_thrown l D cI cR cS cL q (m_app mv y1)) (cwV 0 hts gL_law_X5_thrown rfl rfl rfl (by decide +kernel) ⟨Nat.le_of_ble_eq_true rfl, Nat.le_of_ble_eq_true rfl⟩) (o_v (o_pR hK hN (hP.sub (ws' := (wM q cI (m_app mv y1))) [0, 1, 2, 3, 4] rfl)) (va_recv hK hP (ci := 5) (q0 := 0) rfl rfl)) rfl rfl hl.1 rfl (lv_room (Nat.le_of_ble_eq_true rfl)) dL_law_602 ⟨show cells + 0 + 0 ≤ 601024 by omega, show slots + 0 + 0 ≤ 7293034 by omega⟩) (fun r3 e3 => ?_)
      have e3 : r3 = nI 0 := e3.trans (congrArg nI (z_app2.trans ec))
      subst e3
      refine lv_iload hx hb dL_law_605 (lv_at hl 1 rfl) ?_
      refine o_icmp_eq (tgt := 612) hx hb dL_law_607 (by decide) (Nat.le_of_ble_eq_true rfl) (Nat.le_of_ble_eq_true rfl) (fun _ => ?_) (fun z => absurd rfl z)
      refine lv_iload hx hb dL_law_612 (lv_at hl 1 rfl) ?_
      refine o_if_ne (a := 0) (tgt := 629) hx hb dL_law_614 (by decide) (Nat.le_of_ble_eq_true rfl) (fun z => absurd rfl z) (fun _ => ?_)
      refine lv_aload_n hx hb dL_law_617 rfl (lv_at hl 6 rfl) ?_
      refine o_const (k := 0) hx hb dL_law_618 (by decide) ?_
      refine va_lald hx hb hK hP 5 3 rfl rfl (vp_in_nI (by decide) (by decide)) dL_law_619 ?_
      refine o_tl (congrArg u (nI_clamp (show 0 < 2 ^ 31 by decide))) ?_
      refine lv_iload hx hb dL_law_620 (lv_at hl 0 rfl) ?_
      refine lv_i2l (v := (nI (x 0 0 + 1)).toInt64) hx hb dL_law_622 rfl ?_
      refine W.lcmp hx hb dL_law_623 ?_
      refine o_ti (z_cmp hu) ?_
      refine o_if_eq (a := 0) (tgt := 629) hx hb dL_law_624 (by decide) (Nat.le_of_ble_eq_true rfl) (fun _ => ?_) (fun z => absurd rfl z)
      refine lv_goto (tgt := 1310) hx hb dL_law_629 (by decide) ?_
      refine W.widen (k := cells + 1) (n := slots + 6) (by omega) (by omega) ?_
      exact K _ _ _ _ _ _ _ _ ⟨hP, hD, hS, g_app G (by omega) hc1 hm1⟩ (z_drop hl)
  · skip
    have ec : mc_app (mv 0 1) y1 = 1 := by unfold mc_app; rw [if_neg hc1]
    refine lv_aload_n hx hb dL_law_576 rfl (lv_at hl 2 rfl) ?_
    refine lv_aload_n hx hb dL_law_577 rfl (lv_at hl 1 rfl) ?_
    refine lv_iload hx hb dL_law_578 (lv_at hl 0 rfl) ?_
    refine o_const (k := 1) hx hb dL_law_580 (by decide) ?_
    refine o_iadd (k := i + 1) hx hb dL_law_581 rfl ?_
    refine z_ld (y := y1) hx hb hX hS (show i + 1 < L by omega) ey1 dL_law_582 ?_
    refine lv_aload_n hx hb dL_law_583 rfl (lv_at hl 4 rfl) ?_
    refine o_xiT (wM q cI mv) (vx_runSX (As := [.ref (o 0), .int (nI y1), .ref a]) (rest := []) ⟨hx, hb, hml, hown, hts⟩ (l_append_1 l D cI cR cS cL hfl H.size o x v (wV o cI cR V) B y1 a g (by first | assumption | omega) (by first | assumption | omega)) (vx_cwSW 3 hts gL_law_L_append rfl rfl rfl (by decide +kernel) ⟨Nat.le_of_ble_eq_true rfl, Nat.le_of_ble_eq_true rfl⟩) (o_pF (W := [ol cL a 1 g] ++ (wO o cI cR cS x v (wV o cI cR V))) hK (hG.kept hS) (o_PT (pre := (wM q cI mv)) (ws := [ol cL a 1 g] ++ (wO o cI cR cS x v (wV o cI cR V))) hP) (o_DT (pre := (wM q cI mv)) (ws := [ol cL a 1 g] ++ (wO o cI cR cS x v (wV o cI cR V))) hD) (va_free hD hS hA _ (o_getT (wM q cI mv) ([ol cL a 1 g] ++ (wO o cI cR cS x v (wV o cI cR V)))))) rfl rfl hl.1 rfl (lv_room (Nat.le_of_ble_eq_true rfl)) dL_law_584 ⟨show cells + 1 ≤ 601024 by omega, show slots + 6 ≤ 7293034 by omega⟩) hP hD hS hA (fun _ => rfl) (fun r1 u H locs e1 hP8 hD8 hS => ?_)
    obtain ⟨er1, hu⟩ := e1
    have er1 : r1 = nI 1 := er1
    subst er1
    subst hu
    have hP := hP8
    have hD := hD8
    have hP : va_P D vwCl (z_W q o cI cR cS cL a u x v mv V) H := hP
    have hD : va_D (z_A s) (z_W q o cI cR cS cL a u x v mv V) := hD
    refine lv_istore (lv' := [(5, .int (nI 1)), (4, .int (nI i)), (0, .ref sb), (1, .ref (o 0)), (2, .ref (q 0)), (3, .ref a)]) hx hb dL_law_587 hl (by decide) rfl (fun ls hl => ?_)
    refine lv_aload_n hx hb dL_law_589 rfl (lv_at hl 4 rfl) ?_
    refine lv_aload_n hx hb dL_law_590 rfl (lv_at hl 2 rfl) ?_
    refine lv_iload hx hb dL_law_591 (lv_at hl 1 rfl) ?_
    refine o_const (k := 1) hx hb dL_law_593 (by decide) ?_
    refine o_iadd (k := i + 1) hx hb dL_law_594 rfl ?_
    refine z_ld (y := y1) hx hb hX hS (show i + 1 < L by omega) ey1 dL_law_595 ?_
    refine o_wi (va_runV (As := [.int (nI y1)]) (rest := []) ⟨hx, hb, hml, hown, hts⟩ (k_X5_append l D cI cR cS cL H.size q mv y1 (by first | assumption | omega) (by first | assumption | omega)) (cwV 1 hts gL_law_X5_append rfl rfl rfl (by decide +kernel) ⟨Nat.le_of_ble_eq_true rfl, Nat.le_of_ble_eq_true rfl⟩) (o_v (o_pB hK hN (hP.sub (ws' := (wM q cI mv)) [0, 1, 2, 3, 4] rfl) (hD.sub (ws' := (wM q cI mv)) [0, 1, 2, 3, 4] (by decide +kernel) rfl)) (va_recv hK hP (ci := 5) (q0 := 0) rfl rfl)) rfl rfl hl.1 rfl (lv_room (Nat.le_of_ble_eq_true rfl)) dL_law_596 ⟨show cells + 1 + 0 ≤ 601024 by omega, show slots + 6 + 0 ≤ 7293034 by omega⟩) hP hD hS hA [0, 1, 2, 3, 4] (by decide +kernel) rfl (fun _ => rfl) (fun r2 _ H locs e2 hP hD hS => ?_)
    have hP : va_P D vwCl (z_W q o cI cR cS cL a u x v (m_app mv y1) V) H := hP
    have hD : va_D (z_A s) (z_W q o cI cR cS cL a u x v (m_app mv y1) V) := hD
    refine lv_istore (lv' := [(6, .int r2), (5, .int (nI 1)), (4, .int (nI i)), (0, .ref sb), (1, .ref (o 0)), (2, .ref (q 0)), (3, .ref a)]) hx hb dL_law_599 hl (by decide) rfl (fun ls hl => ?_)
    refine lv_aload_n hx hb dL_law_601 rfl (lv_at hl 5 rfl) ?_
    refine o_ri (va_runV (As := []) (rest := []) ⟨hx, hb, hml, hown, hts⟩ (k_X5_thrown l D cI cR cS cL q (m_app mv y1)) (cwV 0 hts gL_law_X5_thrown rfl rfl rfl (by decide +kernel) ⟨Nat.le_of_ble_eq_true rfl, Nat.le_of_ble_eq_true rfl⟩) (o_v (o_pR hK hN (hP.sub (ws' := (wM q cI (m_app mv y1))) [0, 1, 2, 3, 4] rfl)) (va_recv hK hP (ci := 5) (q0 := 0) rfl rfl)) rfl rfl hl.1 rfl (lv_room (Nat.le_of_ble_eq_true rfl)) dL_law_602 ⟨show cells + 1 + 0 ≤ 601024 by omega, show slots + 6 + 0 ≤ 7293034 by omega⟩) (fun r3 e3 => ?_)
    have e3 : r3 = nI 1 := e3.trans (congrArg nI (z_app2.trans ec))
    subst e3
    refine lv_iload hx hb dL_law_605 (lv_at hl 1 rfl) ?_
    refine o_icmp_eq (tgt := 612) hx hb dL_law_607 (by decide) (Nat.le_of_ble_eq_true rfl) (Nat.le_of_ble_eq_true rfl) (fun _ => ?_) (fun z => absurd rfl z)
    refine lv_iload hx hb dL_law_612 (lv_at hl 1 rfl) ?_
    refine o_if_ne (a := 1) (tgt := 629) hx hb dL_law_614 (by decide) (Nat.le_of_ble_eq_true rfl) (fun _ => ?_) (fun z => absurd z (by decide))
    refine lv_goto (tgt := 1310) hx hb dL_law_629 (by decide) ?_
    refine W.widen (k := cells + 1) (n := slots + 6) (by omega) (by omega) ?_
    exact K _ _ _ _ _ _ _ _ ⟨hP, hD, hS, g_appf G (by omega) (by rw [ec]; decide)⟩ (z_drop hl)
