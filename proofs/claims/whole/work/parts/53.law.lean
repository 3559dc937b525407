set_option maxHeartbeats 4000000 in
set_option maxRecDepth 100000 in
theorem z_clear {p : Program} {l : Launch} {e : Env} {s : State} {m : MethodId} {args : Array Value} {below : List Frame} {meth : Method} {c : Code} {Q : State → Prop} {D : va_G} {cI cR cS cL : ClassId} {sb L : Nat} {xs : Nat → Int32} {q o : Nat → Nat} {a i B cells slots : Nat} {H : Heap} {locs : List Loc} {ls : Array Slot} {x v mv : Nat → Nat → Nat} {V : Nat → Nat → Nat → Nat} {g : Nat → Int64} (C : z_C p l s m args c D cI cR cS cL sb L xs) (h : z_S s D q o cI cR cS cL a g x v mv V B H locs) (hl : lv_has ls 9 (z_L i sb a o q)) (hi : i + 3 ≤ L) (hB : B < 2 ^ 27) (hc : cells + 1 ≤ 601024) (hsl : slots + 6 ≤ 7293034) (K : z_N p l e s m args below meth c Q D cI cR cS cL sb q o a i (B + 60) (cells + 1) (slots + 6)) : W p l e room_1 s m args below meth c H locs cells slots Q (F0 m 632 ls []) := by
  obtain ⟨hx, hb, hml, hown, hts, hK, hfl, hX, hG⟩ := C
  obtain ⟨hP, hD, hS, G⟩ := h
  obtain ⟨hR, hSI, hI, -, -⟩ := id G
  obtain ⟨⟨gx0, gx1, gx2⟩, ⟨gx3, gx4, gx5⟩, hx1, hm3, hVI⟩ := g_x G
  have hN := hG.1
  have hA : ∀ q : Nat, s.heap.size ≤ q → z_A s q := fun _ h => h
  have hB28 : B < 2 ^ 28 := by omega
  have hs6 : mv 0 0 ≤ 6 := by omega
  have h60 : mv 0 1 ≤ 60 := by omega
  refine lv_aload_n hx hb dL_law_632 rfl (lv_at hl 2 rfl) ?_
  have hP9 : va_P D vwCl (((wM q cI mv) ++ [ol cL a 1 g]) ++ (wO o cI cR cS x v (wV o cI cR V))) H := by rw [List.append_assoc]; exact hP
  have hD9 : va_D (z_A s) (((wM q cI mv) ++ [ol cL a 1 g]) ++ (wO o cI cR cS x v (wV o cI cR V))) := by rw [List.append_assoc]; exact hD
  refine o_wiT ((wM q cI mv) ++ [ol cL a 1 g]) (va_runV (As := []) (rest := []) ⟨hx, hb, hml, hown, hts⟩ (k_X4_clearBuffer l D cI cR cS cL H.size o x v (wV o cI cR V) B ) (cwV 0 hts gL_law_X4_clearBuffer rfl rfl rfl (by decide +kernel) ⟨Nat.le_of_ble_eq_true rfl, Nat.le_of_ble_eq_true rfl⟩) (o_v (o_pB hK hN (o_PT (pre := ((wM q cI mv) ++ [ol cL a 1 g])) (ws := (wO o cI cR cS x v (wV o cI cR V))) hP9) (o_DT (pre := ((wM q cI mv) ++ [ol cL a 1 g])) (ws := (wO o cI cR cS x v (wV o cI cR V))) hD9)) (va_recv hK hP (ci := 4) (q0 := 6) rfl rfl)) rfl rfl hl.1 rfl (lv_room (Nat.le_of_ble_eq_true rfl)) dL_law_633 ⟨show cells + 0 ≤ 601024 by omega, show slots + 0 ≤ 7293034 by omega⟩) hP9 hD9 hS hA (fun _ => rfl) (fun r1 _ H locs e1 hP hD hS => ?_)
  have e1 : r1 = nI (x 0 0) := e1
  subst e1
  rw [List.append_assoc] at hP hD
  have hP : va_P D vwCl (z_W q o cI cR cS cL a g (t_empty x) v mv V) H := hP
  have hD : va_D (z_A s) (z_W q o cI cR cS cL a g (t_empty x) v mv V) := hD
  refine lv_aload_n hx hb dL_law_636 rfl (lv_at hl 3 rfl) ?_
  refine o_wi (va_runV (As := []) (rest := [.int (nI (x 0 0))]) ⟨hx, hb, hml, hown, hts⟩ (k_X5_clearBuffer l D cI cR cS cL H.size q mv ) (cwV 0 hts gL_law_X5_clearBuffer rfl rfl rfl (by decide +kernel) ⟨Nat.le_of_ble_eq_true rfl, Nat.le_of_ble_eq_true rfl⟩) (o_v (o_pB hK hN (hP.sub (ws' := (wM q cI mv)) [0, 1, 2, 3, 4] rfl) (hD.sub (ws' := (wM q cI mv)) [0, 1, 2, 3, 4] (by decide +kernel) rfl)) (va_recv hK hP (ci := 5) (q0 := 0) rfl rfl)) rfl rfl hl.1 rfl (lv_room (Nat.le_of_ble_eq_true rfl)) dL_law_637 ⟨show cells + 0 ≤ 601024 by omega, show slots + 0 ≤ 7293034 by omega⟩) hP hD hS hA [0, 1, 2, 3, 4] (by decide +kernel) rfl (fun _ => rfl) (fun r2 _ H locs e2 hP hD hS => ?_)
  have hP : va_P D vwCl (z_W q o cI cR cS cL a g (t_empty x) v (va_up mv 0 (va_up (va_up (mv 0) 1 0) 2 0)) V) H := hP
  have hD : va_D (z_A s) (z_W q o cI cR cS cL a g (t_empty x) v (va_up mv 0 (va_up (va_up (mv 0) 1 0) 2 0)) V) := hD
  have e2 : r2 = nI (mv 0 1) := e2
  have er : (mv 0 1) = (x 0 0) := gx0.symm
  rw [er] at e2
  subst e2
  refine o_icmp_eq (tgt := 1310) hx hb dL_law_640 (by decide) (by omega) (by omega) (fun _ => ?_) (fun z => absurd rfl z)
  refine W.widen (k := cells + 1) (n := slots + 6) (by omega) (by omega) ?_
  exact K _ _ _ _ _ _ _ _ ⟨hP, hD, hS, g_clear G (by omega)⟩ hl
set_option maxHeartbeats 4000000 in
set_option maxRecDepth 100000 in
theorem z_err {p : Program} {l : Launch} {e : Env} {s : State} {m : MethodId} {args : Array Value} {below : List Frame} {meth : Method} {c : Code} {Q : State → Prop} {D : va_G} {cI cR cS cL : ClassId} {sb L : Nat} {xs : Nat → Int32} {q o : Nat → Nat} {a i B cells slots : Nat} {H : Heap} {locs : List Loc} {ls : Array Slot} {x v mv : Nat → Nat → Nat} {V : Nat → Nat → Nat → Nat} {g : Nat → Int64} (C : z_C p l s m args c D cI cR cS cL sb L xs) (h : z_S s D q o cI cR cS cL a g x v mv V B H locs) (hl : lv_has ls 9 (z_L i sb a o q)) (hi : i + 3 ≤ L) (hB : B < 2 ^ 27) (hc : cells + 1 ≤ 601024) (hsl : slots + 6 ≤ 7293034) (K : z_N p l e s m args below meth c Q D cI cR cS cL sb q o a i (B + 60) (cells + 1) (slots + 6)) : W p l e room_1 s m args below meth c H locs cells slots Q (F0 m 645 ls []) := by
  obtain ⟨hx, hb, hml, hown, hts, hK, hfl, hX, hG⟩ := C
  obtain ⟨hP, hD, hS, G⟩ := h
  obtain ⟨hR, hSI, hI, -, -⟩ := id G
  obtain ⟨⟨gx0, gx1, gx2⟩, ⟨gx3, gx4, gx5⟩, hx1, hm3, hVI⟩ := g_x G
  have hN := hG.1
  have hA : ∀ q : Nat, s.heap.size ≤ q → z_A s q := fun _ h => h
  have hB28 : B < 2 ^ 28 := by omega
  have hs6 : mv 0 0 ≤ 6 := by omega
  have h60 : mv 0 1 ≤ 60 := by omega
  obtain ⟨TX, hTX⟩ : ∃ TX, m_tx (mv 3) (mv 0 1) 61 0 0 (mv 4) = TX := ⟨_, rfl⟩
  obtain ⟨hr, G1⟩ := g_err G (show B ≤ B + 60 by omega) hTX
  have hlt : x 0 1 < 2 ^ 32 := by have h1 := G.2.2.2.1.1; have h2 := z_tle (mv 3) (mv 0 1); omega
  refine lv_aload_n hx hb dL_law_645 rfl (lv_at hl 2 rfl) ?_
  refine o_ri (va_runV (As := []) (rest := []) ⟨hx, hb, hml, hown, hts⟩ (k_X4_firstError l D cI cR cS cL o x v (wV o cI cR V) B ) (cwV 0 hts gL_law_X4_firstError rfl rfl rfl (by decide +kernel) ⟨Nat.le_of_ble_eq_true rfl, Nat.le_of_ble_eq_true rfl⟩) (o_v (o_pR hK hN (o_PT (pre := [ol cL a 1 g]) (ws := (wO o cI cR cS x v (wV o cI cR V))) (o_PT (pre := (wM q cI mv)) (ws := [ol cL a 1 g] ++ (wO o cI cR cS x v (wV o cI cR V))) hP))) (va_recv hK hP (ci := 4) (q0 := 6) rfl rfl)) rfl rfl hl.1 rfl (lv_room (Nat.le_of_ble_eq_true rfl)) dL_law_646 ⟨show cells + 0 ≤ 601024 by omega, show slots + 0 ≤ 7293034 by omega⟩) (fun r1 e1 => ?_)
  subst e1
  refine lv_aload_n hx hb dL_law_649 rfl (lv_at hl 3 rfl) ?_
  refine o_wi (va_runV (As := []) (rest := [.int (nI (x 0 1))]) ⟨hx, hb, hml, hown, hts⟩ (k_X5_firstError l D cI cR cS cL H.size q mv TX (by first | assumption | omega) (by first | assumption | omega) (by first | assumption | omega)) (cwV 0 hts gL_law_X5_firstError rfl rfl rfl (by decide +kernel) ⟨Nat.le_of_ble_eq_true rfl, Nat.le_of_ble_eq_true rfl⟩) (o_v (o_pB hK hN (hP.sub (ws' := (wM q cI mv)) [0, 1, 2, 3, 4] rfl) (hD.sub (ws' := (wM q cI mv)) [0, 1, 2, 3, 4] (by decide +kernel) rfl)) (va_recv hK hP (ci := 5) (q0 := 0) rfl rfl)) rfl rfl hl.1 rfl (lv_room (Nat.le_of_ble_eq_true rfl)) dL_law_650 ⟨show cells + 0 ≤ 601024 by omega, show slots + 0 ≤ 7293034 by omega⟩) hP hD hS hA [0, 1, 2, 3, 4] (by decide +kernel) rfl (fun _ => rfl) (fun r2 _ H locs e2 hP hD hS => ?_)
  have hP : va_P D vwCl (z_W q o cI cR cS cL a g x v (va_up (va_up mv 0 (va_up (va_up (va_up (va_up (mv 0) 2 0) 3 TX.1) 4 TX.2.1) 5 TX.2.2.1)) 4 TX.2.2.2.1) V) H := hP
  have hD : va_D (z_A s) (z_W q o cI cR cS cL a g x v (va_up (va_up mv 0 (va_up (va_up (va_up (va_up (mv 0) 2 0) 3 TX.1) 4 TX.2.1) 5 TX.2.2.1)) 4 TX.2.2.2.1) V) := hD
  have e2 : r2 = nI (if TX.2.2.2.2 = 0 ∧ TX.2.1 = 1 then TX.1 else mv 0 1) := e2
  have er : (if TX.2.2.2.2 = 0 ∧ TX.2.1 = 1 then TX.1 else mv 0 1) = (x 0 1) := hr.symm
  rw [er] at e2
  subst e2
  refine o_icmp_eq (tgt := 1310) hx hb dL_law_653 (by decide) (hlt) (hlt) (fun _ => ?_) (fun z => absurd rfl z)
  refine W.widen (k := cells + 1) (n := slots + 6) (by omega) (by omega) ?_
  exact K _ _ _ _ _ _ _ _ ⟨hP, hD, hS, G1⟩ hl
set_option maxHeartbeats 4000000 in
set_option maxRecDepth 100000 in
theorem z_play {p : Program} {l : Launch} {e : Env} {s : State} {m : MethodId} {args : Array Value} {below : List Frame} {meth : Method} {c : Code} {Q : State → Prop} {D : va_G} {cI cR cS cL : ClassId} {sb L : Nat} {xs : Nat → Int32} {q o : Nat → Nat} {a i B cells slots : Nat} {H : Heap} {locs : List Loc} {ls : Array Slot} {x v mv : Nat → Nat → Nat} {V : Nat → Nat → Nat → Nat} {g : Nat → Int64} (C : z_C p l s m args c D cI cR cS cL sb L xs) (h : z_S s D q o cI cR cS cL a g x v mv V B H locs) (hl : lv_has ls 9 (z_L i sb a o q)) (hi : i + 3 ≤ L) (hB : B < 2 ^ 27) (hc : cells + 1 ≤ 601024) (hsl : slots + 6 ≤ 7293034) (K : z_N p l e s m args below meth c Q D cI cR cS cL sb q o a i (B + 60) (cells + 1) (slots + 6)) : W p l e room_1 s m args below meth c H locs cells slots Q (F0 m 658 ls []) := by
  obtain ⟨hx, hb, hml, hown, hts, hK, hfl, hX, hG⟩ := C
  obtain ⟨hP, hD, hS, G⟩ := h
  obtain ⟨hR, hSI, hI, -, -⟩ := id G
  obtain ⟨⟨gx0, gx1, gx2⟩, ⟨gx3, gx4, gx5⟩, hx1, hm3, hVI⟩ := g_x G
  have hN := hG.1
  have hA : ∀ q : Nat, s.heap.size ≤ q → z_A s q := fun _ h => h
  have hB28 : B < 2 ^ 28 := by omega
  have hs6 : mv 0 0 ≤ 6 := by omega
  have h60 : mv 0 1 ≤ 60 := by omega
  obtain ⟨TX, hTX⟩ : ∃ TX, m_tx (mv 3) (mv 0 1) 61 0 0 (mv 4) = TX := ⟨_, rfl⟩
  have hpc := g_playc G hTX
  by_cases hm1 : TX.2.2.2.2 = 1
  · skip
    obtain ⟨hgd, hr, G1⟩ := g_play G hB hTX hm1
    obtain ⟨h00, h2⟩ := hpc.1.mp hm1
    have hc0 : c_sv (x 0) 0 = x 0 0 := c_sv_lo (by decide)
    refine lv_aload_n hx hb dL_law_658 rfl (lv_at hl 2 rfl) ?_
    refine lv_aload_n hx hb dL_law_659 rfl (lv_at hl 4 rfl) ?_
    refine o_xiT (wM q cI mv) (vx_runSX (As := [.ref (o 0), .ref a]) (rest := []) ⟨hx, hb, hml, hown, hts⟩ (l_play_0 l D cI cR cS cL H.size o x v V B a g (by first | assumption | omega) (by first | assumption | omega) (by first | assumption | omega) (by first | assumption | omega) (by first | assumption | omega) (by first | assumption | omega) (by first | assumption | omega) (by first | assumption | omega) (by first | assumption | omega) (by first | assumption | omega)) (vx_cwSW 2 hts gL_law_L_play rfl rfl rfl (by decide +kernel) ⟨Nat.le_of_ble_eq_true rfl, Nat.le_of_ble_eq_true rfl⟩) (o_pF (W := [ol cL a 1 g] ++ (wO o cI cR cS x v (wV o cI cR V))) hK (hG.kept hS) (o_PT (pre := (wM q cI mv)) (ws := [ol cL a 1 g] ++ (wO o cI cR cS x v (wV o cI cR V))) hP) (o_DT (pre := (wM q cI mv)) (ws := [ol cL a 1 g] ++ (wO o cI cR cS x v (wV o cI cR V))) hD) (va_free hD hS hA _ (o_getT (wM q cI mv) ([ol cL a 1 g] ++ (wO o cI cR cS x v (wV o cI cR V)))))) rfl rfl hl.1 rfl (lv_room (Nat.le_of_ble_eq_true rfl)) dL_law_660 ⟨show cells + 0 ≤ 601024 by omega, show slots + 0 ≤ 7293034 by omega⟩) hP hD hS hA (fun _ => rfl) (fun r1 u H locs e1 hP8 hD8 hS => ?_)
    obtain ⟨er1, hu⟩ := e1
    have er1 : r1 = nI 0 := er1
    subst er1
    have hu : u 0 = (nI (c_runs (va_up x 0 (c_sv (x 0))) v).2).toInt64 := hu
    have hP := hP8
    have hD := hD8
    have hP : va_P D vwCl (z_W q o cI cR cS cL a u (t_empty (va_up x 0 (c_sv (x 0)))) (c_runs (va_up x 0 (c_sv (x 0))) v).1 mv (c_put V ((x 0 3 + x 0 4) % 6) v)) H := hP
    have hD : va_D (z_A s) (z_W q o cI cR cS cL a u (t_empty (va_up x 0 (c_sv (x 0)))) (c_runs (va_up x 0 (c_sv (x 0))) v).1 mv (c_put V ((x 0 3 + x 0 4) % 6) v)) := hD
    refine lv_istore (lv' := [(5, .int (nI 0)), (4, .int (nI i)), (0, .ref sb), (1, .ref (o 0)), (2, .ref (q 0)), (3, .ref a)]) hx hb dL_law_663 hl (by decide) rfl (fun ls hl => ?_)
    refine lv_aload_n hx hb dL_law_665 rfl (lv_at hl 4 rfl) ?_
    refine o_wi (va_runV (As := []) (rest := []) ⟨hx, hb, hml, hown, hts⟩ (k_X5_play l D cI cR cS cL H.size q mv TX B (by first | assumption | omega) (by first | assumption | omega) (by first | assumption | omega) (by first | assumption | omega) (by first | assumption | omega) (by first | assumption | omega)) (cwV 0 hts gL_law_X5_play rfl rfl rfl (by decide +kernel) ⟨Nat.le_of_ble_eq_true rfl, Nat.le_of_ble_eq_true rfl⟩) (o_v (o_pB hK hN (hP.sub (ws' := (wM q cI mv)) [0, 1, 2, 3, 4] rfl) (hD.sub (ws' := (wM q cI mv)) [0, 1, 2, 3, 4] (by decide +kernel) rfl)) (va_recv hK hP (ci := 5) (q0 := 0) rfl rfl)) rfl rfl hl.1 rfl (lv_room (Nat.le_of_ble_eq_true rfl)) dL_law_666 ⟨show cells + 0 + 0 ≤ 601024 by omega, show slots + 0 + 0 ≤ 7293034 by omega⟩) hP hD hS hA [0, 1, 2, 3, 4] (by decide +kernel) rfl (fun _ => rfl) (fun r2 _ H locs e2 hP hD hS => ?_)
    have hP : va_P D vwCl (z_W q o cI cR cS cL a u (t_empty (va_up x 0 (c_sv (x 0)))) (c_runs (va_up x 0 (c_sv (x 0))) v).1 (m_played mv TX) (c_put V ((x 0 3 + x 0 4) % 6) v)) H := hP
    have hD : va_D (z_A s) (z_W q o cI cR cS cL a u (t_empty (va_up x 0 (c_sv (x 0)))) (c_runs (va_up x 0 (c_sv (x 0))) v).1 (m_played mv TX) (c_put V ((x 0 3 + x 0 4) % 6) v)) := hD
    have e2 : r2 = nI (if TX.2.2.2.2 = 1 then (m_run TX.2.2.2.1 TX.2.2.1 31 0 (mv 1)).2 else 0) := e2
    have er : (if TX.2.2.2.2 = 1 then (m_run TX.2.2.2.1 TX.2.2.1 31 0 (mv 1)).2 else 0) = (c_runs (va_up x 0 (c_sv (x 0))) v).2 := by rw [if_pos hm1]; exact hr.symm
    rw [er] at e2
    subst e2
    refine lv_istore (lv' := [(6, .int (nI (c_runs (va_up x 0 (c_sv (x 0))) v).2)), (5, .int (nI 0)), (4, .int (nI i)), (0, .ref sb), (1, .ref (o 0)), (2, .ref (q 0)), (3, .ref a)]) hx hb dL_law_669 hl (by decide) rfl (fun ls hl => ?_)
    refine lv_aload_n hx hb dL_law_671 rfl (lv_at hl 5 rfl) ?_
    refine o_ri (va_runV (As := []) (rest := []) ⟨hx, hb, hml, hown, hts⟩ (k_X5_thrown l D cI cR cS cL q (m_played mv TX)) (cwV 0 hts gL_law_X5_thrown rfl rfl rfl (by decide +kernel) ⟨Nat.le_of_ble_eq_true rfl, Nat.le_of_ble_eq_true rfl⟩) (o_v (o_pR hK hN (hP.sub (ws' := (wM q cI (m_played mv TX))) [0, 1, 2, 3, 4] rfl)) (va_recv hK hP (ci := 5) (q0 := 0) rfl rfl)) rfl rfl hl.1 rfl (lv_room (Nat.le_of_ble_eq_true rfl)) dL_law_672 ⟨show cells + 0 + 0 ≤ 601024 by omega, show slots + 0 + 0 ≤ 7293034 by omega⟩) (fun r3 e3 => ?_)
    have e3 : r3 = nI 0 := e3.trans (congrArg nI (z_pl2.trans (if_pos hm1)))
    subst e3
    refine lv_iload hx hb dL_law_675 (lv_at hl 1 rfl) ?_
    refine o_icmp_eq (tgt := 682) hx hb dL_law_677 (by decide) (Nat.le_of_ble_eq_true rfl) (Nat.le_of_ble_eq_true rfl) (fun _ => ?_) (fun z => absurd rfl z)
    refine lv_iload hx hb dL_law_682 (lv_at hl 1 rfl) ?_
    refine o_if_ne (a := 0) (tgt := 699) hx hb dL_law_684 (by decide) (Nat.le_of_ble_eq_true rfl) (fun z => absurd rfl z) (fun _ => ?_)
    refine lv_aload_n hx hb dL_law_687 rfl (lv_at hl 6 rfl) ?_
    refine o_const (k := 0) hx hb dL_law_688 (by decide) ?_
    refine va_lald hx hb hK hP 5 3 rfl rfl (vp_in_nI (by decide) (by decide)) dL_law_689 ?_
    refine o_tl (congrArg u (nI_clamp (show 0 < 2 ^ 31 by decide))) ?_
    refine lv_iload hx hb dL_law_690 (lv_at hl 0 rfl) ?_
    refine lv_i2l (v := (nI (c_runs (va_up x 0 (c_sv (x 0))) v).2).toInt64) hx hb dL_law_692 rfl ?_
    refine W.lcmp hx hb dL_law_693 ?_
    refine o_ti (z_cmp hu) ?_
    refine o_if_eq (a := 0) (tgt := 699) hx hb dL_law_694 (by decide) (Nat.le_of_ble_eq_true rfl) (fun _ => ?_) (fun z => absurd rfl z)
    refine lv_goto (tgt := 1310) hx hb dL_law_699 (by decide) ?_
    refine W.widen (k := cells + 1) (n := slots + 6) (by omega) (by omega) ?_
    exact K _ _ _ _ _ _ _ _ ⟨hP, hD, hS, G1⟩ (z_drop hl)
  · skip
    have hbad : ¬ (0 < x 0 0 ∧ x 0 2 = 0) := fun z => hm1 (hpc.1.mpr z)
    refine lv_aload_n hx hb dL_law_658 rfl (lv_at hl 2 rfl) ?_
    refine lv_aload_n hx hb dL_law_659 rfl (lv_at hl 4 rfl) ?_
    refine o_xiT (wM q cI mv) (vx_runSX (As := [.ref (o 0), .ref a]) (rest := []) ⟨hx, hb, hml, hown, hts⟩ (l_play_1 l D cI cR cS cL hfl H.size o x v (wV o cI cR V) B a g (by first | assumption | omega) (by first | assumption | omega) (by first | assumption | omega)) (vx_cwSW 2 hts gL_law_L_play rfl rfl rfl (by decide +kernel) ⟨Nat.le_of_ble_eq_true rfl, Nat.le_of_ble_eq_true rfl⟩) (o_pF (W := [ol cL a 1 g] ++ (wO o cI cR cS x v (wV o cI cR V))) hK (hG.kept hS) (o_PT (pre := (wM q cI mv)) (ws := [ol cL a 1 g] ++ (wO o cI cR cS x v (wV o cI cR V))) hP) (o_DT (pre := (wM q cI mv)) (ws := [ol cL a 1 g] ++ (wO o cI cR cS x v (wV o cI cR V))) hD) (va_free hD hS hA _ (o_getT (wM q cI mv) ([ol cL a 1 g] ++ (wO o cI cR cS x v (wV o cI cR V)))))) rfl rfl hl.1 rfl (lv_room (Nat.le_of_ble_eq_true rfl)) dL_law_660 ⟨show cells + 1 ≤ 601024 by omega, show slots + 6 ≤ 7293034 by omega⟩) hP hD hS hA (fun _ => rfl) (fun r1 u H locs e1 hP8 hD8 hS => ?_)
    obtain ⟨er1, hu⟩ := e1
    have er1 : r1 = nI 1 := er1
    subst er1
    subst hu
    have hP := hP8
    have hD := hD8
    have hP : va_P D vwCl (z_W q o cI cR cS cL a u x v mv V) H := hP
    have hD : va_D (z_A s) (z_W q o cI cR cS cL a u x v mv V) := hD
    refine lv_istore (lv' := [(5, .int (nI 1)), (4, .int (nI i)), (0, .ref sb), (1, .ref (o 0)), (2, .ref (q 0)), (3, .ref a)]) hx hb dL_law_663 hl (by decide) rfl (fun ls hl => ?_)
    refine lv_aload_n hx hb dL_law_665 rfl (lv_at hl 4 rfl) ?_
    refine o_wi (va_runV (As := []) (rest := []) ⟨hx, hb, hml, hown, hts⟩ (k_X5_play l D cI cR cS cL H.size q mv TX B (by first | assumption | omega) (by first | assumption | omega) (by first | assumption | omega) (by first | assumption | omega) (by first | assumption | omega) (by first | assumption | omega)) (cwV 0 hts gL_law_X5_play rfl rfl rfl (by decide +kernel) ⟨Nat.le_of_ble_eq_true rfl, Nat.le_of_ble_eq_true rfl⟩) (o_v (o_pB hK hN (hP.sub (ws' := (wM q cI mv)) [0, 1, 2, 3, 4] rfl) (hD.sub (ws' := (wM q cI mv)) [0, 1, 2, 3, 4] (by decide +kernel) rfl)) (va_recv hK hP (ci := 5) (q0 := 0) rfl rfl)) rfl rfl hl.1 rfl (lv_room (Nat.le_of_ble_eq_true rfl)) dL_law_666 ⟨show cells + 1 + 0 ≤ 601024 by omega, show slots + 6 + 0 ≤ 7293034 by omega⟩) hP hD hS hA [0, 1, 2, 3, 4] (by decide +kernel) rfl (fun _ => rfl) (fun r2 _ H locs e2 hP hD hS => ?_)
    have hP : va_P D vwCl (z_W q o cI cR cS cL a u x v (m_played mv TX) V) H := hP
    have hD : va_D (z_A s) (z_W q o cI cR cS cL a u x v (m_played mv TX) V) := hD
    refine lv_istore (lv' := [(6, .int r2), (5, .int (nI 1)), (4, .int (nI i)), (0, .ref sb), (1, .ref (o 0)), (2, .ref (q 0)), (3, .ref a)]) hx hb dL_law_669 hl (by decide) rfl (fun ls hl => ?_)
    refine lv_aload_n hx hb dL_law_671 rfl (lv_at hl 5 rfl) ?_
    refine o_ri (va_runV (As := []) (rest := []) ⟨hx, hb, hml, hown, hts⟩ (k_X5_thrown l D cI cR cS cL q (m_played mv TX)) (cwV 0 hts gL_law_X5_thrown rfl rfl rfl (by decide +kernel) ⟨Nat.le_of_ble_eq_true rfl, Nat.le_of_ble_eq_true rfl⟩) (o_v (o_pR hK hN (hP.sub (ws' := (wM q cI (m_played mv TX))) [0, 1, 2, 3, 4] rfl)) (va_recv hK hP (ci := 5) (q0 := 0) rfl rfl)) rfl rfl hl.1 rfl (lv_room (Nat.le_of_ble_eq_true rfl)) dL_law_672 ⟨show cells + 1 + 0 ≤ 601024 by omega, show slots + 6 + 0 ≤ 7293034 by omega⟩) (fun r3 e3 => ?_)
    have e3 : r3 = nI 1 := e3.trans (congrArg nI (z_pl2.trans (if_neg hm1)))
    subst e3
    refine lv_iload hx hb dL_law_675 (lv_at hl 1 rfl) ?_
    refine o_icmp_eq (tgt := 682) hx hb dL_law_677 (by decide) (Nat.le_of_ble_eq_true rfl) (Nat.le_of_ble_eq_true rfl) (fun _ => ?_) (fun z => absurd rfl z)
    refine lv_iload hx hb dL_law_682 (lv_at hl 1 rfl) ?_
    refine o_if_ne (a := 1) (tgt := 699) hx hb dL_law_684 (by decide) (Nat.le_of_ble_eq_true rfl) (fun _ => ?_) (fun z => absurd z (by decide))
    refine lv_goto (tgt := 1310) hx hb dL_law_699 (by decide) ?_
    refine W.widen (k := cells + 1) (n := slots + 6) (by omega) (by omega) ?_
    exact K _ _ _ _ _ _ _ _ ⟨hP, hD, hS, g_playf G (by omega) hm1⟩ (z_drop hl)
set_option maxHeartbeats 4000000 in
set_option maxRecDepth 100000 in
theorem z_undo {p : Program} {l : Launch} {e : Env} {s : State} {m : MethodId} {args : Array Value} {below : List Frame} {meth : Method} {c : Code} {Q : State → Prop} {D : va_G} {cI cR cS cL : ClassId} {sb L : Nat} {xs : Nat → Int32} {q o : Nat → Nat} {a i B cells slots : Nat} {H : Heap} {locs : List Loc} {ls : Array Slot} {x v mv : Nat → Nat → Nat} {V : Nat → Nat → Nat → Nat} {g : Nat → Int64} (C : z_C p l s m args c D cI cR cS cL sb L xs) (h : z_S s D q o cI cR cS cL a g x v mv V B H locs) (hl : lv_has ls 9 (z_L i sb a o q)) (hi : i + 3 ≤ L) (hB : B < 2 ^ 27) (hc : cells + 1 ≤ 601024) (hsl : slots + 6 ≤ 7293034) (K : z_N p l e s m args below meth c Q D cI cR cS cL sb q o a i (B + 60) (cells + 1) (slots + 6)) : W p l e room_1 s m args below meth c H locs cells slots Q (F0 m 702 ls []) := by
  obtain ⟨hx, hb, hml, hown, hts, hK, hfl, hX, hG⟩ := C
  obtain ⟨hP, hD, hS, G⟩ := h
  obtain ⟨hR, hSI, hI, -, -⟩ := id G
  obtain ⟨⟨gx0, gx1, gx2⟩, ⟨gx3, gx4, gx5⟩, hx1, hm3, hVI⟩ := g_x G
  have hN := hG.1
  have hA : ∀ q : Nat, s.heap.size ≤ q → z_A s q := fun _ h => h
  have hB28 : B < 2 ^ 28 := by omega
  have hs6 : mv 0 0 ≤ 6 := by omega
  have h60 : mv 0 1 ≤ 60 := by omega
  by_cases hm1 : mv 0 0 = 0
  · skip
    have hbad : x 0 4 = 0 := by omega
    refine lv_aload_n hx hb dL_law_702 rfl (lv_at hl 2 rfl) ?_
    refine lv_aload_n hx hb dL_law_703 rfl (lv_at hl 4 rfl) ?_
    refine o_xiT (wM q cI mv) (vx_runSX (As := [.ref (o 0), .ref a]) (rest := []) ⟨hx, hb, hml, hown, hts⟩ (l_undo_1 l D cI cR cS cL hfl H.size o x v (wV o cI cR V) B a g (by first | assumption | omega)) (vx_cwSW 2 hts gL_law_L_undo rfl rfl rfl (by decide +kernel) ⟨Nat.le_of_ble_eq_true rfl, Nat.le_of_ble_eq_true rfl⟩) (o_pF (W := [ol cL a 1 g] ++ (wO o cI cR cS x v (wV o cI cR V))) hK (hG.kept hS) (o_PT (pre := (wM q cI mv)) (ws := [ol cL a 1 g] ++ (wO o cI cR cS x v (wV o cI cR V))) hP) (o_DT (pre := (wM q cI mv)) (ws := [ol cL a 1 g] ++ (wO o cI cR cS x v (wV o cI cR V))) hD) (va_free hD hS hA _ (o_getT (wM q cI mv) ([ol cL a 1 g] ++ (wO o cI cR cS x v (wV o cI cR V)))))) rfl rfl hl.1 rfl (lv_room (Nat.le_of_ble_eq_true rfl)) dL_law_704 ⟨show cells + 1 ≤ 601024 by omega, show slots + 6 ≤ 7293034 by omega⟩) hP hD hS hA (fun _ => rfl) (fun r1 u H locs e1 hP8 hD8 hS => ?_)
    obtain ⟨er1, hu⟩ := e1
    have er1 : r1 = nI 1 := er1
    subst er1
    subst hu
    have hP := hP8
    have hD := hD8
    have hP : va_P D vwCl (z_W q o cI cR cS cL a u x v mv V) H := hP
    have hD : va_D (z_A s) (z_W q o cI cR cS cL a u x v mv V) := hD
    refine lv_istore (lv' := [(5, .int (nI 1)), (4, .int (nI i)), (0, .ref sb), (1, .ref (o 0)), (2, .ref (q 0)), (3, .ref a)]) hx hb dL_law_707 hl (by decide) rfl (fun ls hl => ?_)
    refine lv_aload_n hx hb dL_law_709 rfl (lv_at hl 4 rfl) ?_
    refine o_wi (va_runV (As := []) (rest := []) ⟨hx, hb, hml, hown, hts⟩ (k_X5_undo l D cI cR cS cL H.size q mv (by first | assumption | omega)) (cwV 0 hts gL_law_X5_undo rfl rfl rfl (by decide +kernel) ⟨Nat.le_of_ble_eq_true rfl, Nat.le_of_ble_eq_true rfl⟩) (o_v (o_pB hK hN (hP.sub (ws' := (wM q cI mv)) [0, 1, 2, 3, 4] rfl) (hD.sub (ws' := (wM q cI mv)) [0, 1, 2, 3, 4] (by decide +kernel) rfl)) (va_recv hK hP (ci := 5) (q0 := 0) rfl rfl)) rfl rfl hl.1 rfl (lv_room (Nat.le_of_ble_eq_true rfl)) dL_law_710 ⟨show cells + 1 + 0 ≤ 601024 by omega, show slots + 6 + 0 ≤ 7293034 by omega⟩) hP hD hS hA [0, 1, 2, 3, 4] (by decide +kernel) rfl (fun _ => rfl) (fun r2 _ H locs e2 hP hD hS => ?_)
    have hP : va_P D vwCl (z_W q o cI cR cS cL a u x v (m_undo mv) V) H := hP
    have hD : va_D (z_A s) (z_W q o cI cR cS cL a u x v (m_undo mv) V) := hD
    refine lv_istore (lv' := [(6, .int r2), (5, .int (nI 1)), (4, .int (nI i)), (0, .ref sb), (1, .ref (o 0)), (2, .ref (q 0)), (3, .ref a)]) hx hb dL_law_713 hl (by decide) rfl (fun ls hl => ?_)
    refine lv_aload_n hx hb dL_law_715 rfl (lv_at hl 5 rfl) ?_
    refine o_ri (va_runV (As := []) (rest := []) ⟨hx, hb, hml, hown, hts⟩ (k_X5_thrown l D cI cR cS cL q (m_undo mv)) (cwV 0 hts gL_law_X5_thrown rfl rfl rfl (by decide +kernel) ⟨Nat.le_of_ble_eq_true rfl, Nat.le_of_ble_eq_true rfl⟩) (o_v (o_pR hK hN (hP.sub (ws' := (wM q cI (m_undo mv))) [0, 1, 2, 3, 4] rfl)) (va_recv hK hP (ci := 5) (q0 := 0) rfl rfl)) rfl rfl hl.1 rfl (lv_room (Nat.le_of_ble_eq_true rfl)) dL_law_716 ⟨show cells + 1 + 0 ≤ 601024 by omega, show slots + 6 + 0 ≤ 7293034 by omega⟩) (fun r3 e3 => ?_)
    have e3 : r3 = nI 1 := e3.trans (congrArg nI (z_un2.trans (if_pos hm1)))
    subst e3
    refine lv_iload hx hb dL_law_719 (lv_at hl 1 rfl) ?_
    refine o_icmp_eq (tgt := 726) hx hb dL_law_721 (by decide) (Nat.le_of_ble_eq_true rfl) (Nat.le_of_ble_eq_true rfl) (fun _ => ?_) (fun z => absurd rfl z)
    refine lv_iload hx hb dL_law_726 (lv_at hl 1 rfl) ?_
    refine o_if_ne (a := 1) (tgt := 743) hx hb dL_law_728 (by decide) (Nat.le_of_ble_eq_true rfl) (fun _ => ?_) (fun z => absurd z (by decide))
    refine lv_goto (tgt := 1310) hx hb dL_law_743 (by decide) ?_
    refine W.widen (k := cells + 1) (n := slots + 6) (by omega) (by omega) ?_
    exact K _ _ _ _ _ _ _ _ ⟨hP, hD, hS, g_undof G (by omega) hm1⟩ (z_drop hl)
  · skip
    have h5 : 0 < x 0 4 := by omega
    refine lv_aload_n hx hb dL_law_702 rfl (lv_at hl 2 rfl) ?_
    refine lv_aload_n hx hb dL_law_703 rfl (lv_at hl 4 rfl) ?_
    refine o_xiT (wM q cI mv) (vx_runSX (As := [.ref (o 0), .ref a]) (rest := []) ⟨hx, hb, hml, hown, hts⟩ (l_undo_0 l D cI cR cS cL H.size o x v V B a g (by first | assumption | omega) (by first | assumption | omega) (by first | assumption | omega) (by first | assumption | omega) (by first | assumption | omega)) (vx_cwSW 2 hts gL_law_L_undo rfl rfl rfl (by decide +kernel) ⟨Nat.le_of_ble_eq_true rfl, Nat.le_of_ble_eq_true rfl⟩) (o_pF (W := [ol cL a 1 g] ++ (wO o cI cR cS x v (wV o cI cR V))) hK (hG.kept hS) (o_PT (pre := (wM q cI mv)) (ws := [ol cL a 1 g] ++ (wO o cI cR cS x v (wV o cI cR V))) hP) (o_DT (pre := (wM q cI mv)) (ws := [ol cL a 1 g] ++ (wO o cI cR cS x v (wV o cI cR V))) hD) (va_free hD hS hA _ (o_getT (wM q cI mv) ([ol cL a 1 g] ++ (wO o cI cR cS x v (wV o cI cR V)))))) rfl rfl hl.1 rfl (lv_room (Nat.le_of_ble_eq_true rfl)) dL_law_704 ⟨show cells + 0 ≤ 601024 by omega, show slots + 0 ≤ 7293034 by omega⟩) hP hD hS hA (fun _ => rfl) (fun r1 u H locs e1 hP8 hD8 hS => ?_)
    obtain ⟨er1, hu⟩ := e1
    have er1 : r1 = nI 0 := er1
    subst er1
    have hu : u 0 = (nI (x 0 4 - 1)).toInt64 := hu
    have hP := hP8
    have hD := hD8
    have hP : va_P D vwCl (z_W q o cI cR cS cL a u (va_up x 0 (va_up (x 0) 4 (x 0 4 - 1))) (V ((x 0 3 + (x 0 4 - 1)) % 6)) mv V) H := hP
    have hD : va_D (z_A s) (z_W q o cI cR cS cL a u (va_up x 0 (va_up (x 0) 4 (x 0 4 - 1))) (V ((x 0 3 + (x 0 4 - 1)) % 6)) mv V) := hD
    refine lv_istore (lv' := [(5, .int (nI 0)), (4, .int (nI i)), (0, .ref sb), (1, .ref (o 0)), (2, .ref (q 0)), (3, .ref a)]) hx hb dL_law_707 hl (by decide) rfl (fun ls hl => ?_)
    refine lv_aload_n hx hb dL_law_709 rfl (lv_at hl 4 rfl) ?_
    refine o_wi (va_runV (As := []) (rest := []) ⟨hx, hb, hml, hown, hts⟩ (k_X5_undo l D cI cR cS cL H.size q mv (by first | assumption | omega)) (cwV 0 hts gL_law_X5_undo rfl rfl rfl (by decide +kernel) ⟨Nat.le_of_ble_eq_true rfl, Nat.le_of_ble_eq_true rfl⟩) (o_v (o_pB hK hN (hP.sub (ws' := (wM q cI mv)) [0, 1, 2, 3, 4] rfl) (hD.sub (ws' := (wM q cI mv)) [0, 1, 2, 3, 4] (by decide +kernel) rfl)) (va_recv hK hP (ci := 5) (q0 := 0) rfl rfl)) rfl rfl hl.1 rfl (lv_room (Nat.le_of_ble_eq_true rfl)) dL_law_710 ⟨show cells + 0 + 0 ≤ 601024 by omega, show slots + 0 + 0 ≤ 7293034 by omega⟩) hP hD hS hA [0, 1, 2, 3, 4] (by decide +kernel) rfl (fun _ => rfl) (fun r2 _ H locs e2 hP hD hS => ?_)
    have hP : va_P D vwCl (z_W q o cI cR cS cL a u (va_up x 0 (va_up (x 0) 4 (x 0 4 - 1))) (V ((x 0 3 + (x 0 4 - 1)) % 6)) (m_undo mv) V) H := hP
    have hD : va_D (z_A s) (z_W q o cI cR cS cL a u (va_up x 0 (va_up (x 0) 4 (x 0 4 - 1))) (V ((x 0 3 + (x 0 4 - 1)) % 6)) (m_undo mv) V) := hD
    have e2 : r2 = nI (if mv 0 0 = 0 then 0 else mv 0 0 - 1) := e2
    have er : (if mv 0 0 = 0 then 0 else mv 0 0 - 1) = (x 0 4 - 1) := by rw [if_neg hm1, gx5]
    rw [er] at e2
    subst e2
    refine lv_istore (lv' := [(6, .int (nI (x 0 4 - 1))), (5, .int (nI 0)), (4, .int (nI i)), (0, .ref sb), (1, .ref (o 0)), (2, .ref (q 0)), (3, .ref a)]) hx hb dL_law_713 hl (by decide) rfl (fun ls hl => ?_)
    refine lv_aload_n hx hb dL_law_715 rfl (lv_at hl 5 rfl) ?_
    refine o_ri (va_runV (As := []) (rest := []) ⟨hx, hb, hml, hown, hts⟩ (k_X5_thrown l D cI cR cS cL q (m_undo mv)) (cwV 0 hts gL_law_X5_thrown rfl rfl rfl (by decide +kernel) ⟨Nat.le_of_ble_eq_true rfl, Nat.le_of_ble_eq_true rfl⟩) (o_v (o_pR hK hN (hP.sub (ws' := (wM q cI (m_undo mv))) [0, 1, 2, 3, 4] rfl)) (va_recv hK hP (ci := 5) (q0 := 0) rfl rfl)) rfl rfl hl.1 rfl (lv_room (Nat.le_of_ble_eq_true rfl)) dL_law_716 ⟨show cells + 0 + 0 ≤ 601024 by omega, show slots + 0 + 0 ≤ 7293034 by omega⟩) (fun r3 e3 => ?_)
    have e3 : r3 = nI 0 := e3.trans (congrArg nI (z_un2.trans (if_neg hm1)))
    subst e3
    refine lv_iload hx hb dL_law_719 (lv_at hl 1 rfl) ?_
    refine o_icmp_eq (tgt := 726) hx hb dL_law_721 (by decide) (Nat.le_of_ble_eq_true rfl) (Nat.le_of_ble_eq_true rfl) (fun _ => ?_) (fun z => absurd rfl z)
    refine lv_iload hx hb dL_law_726 (lv_at hl 1 rfl) ?_
    refine o_if_ne (a := 0) (tgt := 743) hx hb dL_law_728 (by decide) (Nat.le_of_ble_eq_true rfl) (fun z => absurd rfl z) (fun _ => ?_)
    refine lv_aload_n hx hb dL_law_731 rfl (lv_at hl 6 rfl) ?_
    refine o_const (k := 0) hx hb dL_law_732 (by decide) ?_
    refine va_lald hx hb hK hP 5 3 rfl rfl (vp_in_nI (by decide) (by decide)) dL_law_733 ?_
    refine o_tl (congrArg u (nI_clamp (show 0 < 2 ^ 31 by decide))) ?_
    refine lv_iload hx hb dL_law_734 (lv_at hl 0 rfl) ?_
    refine lv_i2l (v := (nI (x 0 4 - 1)).toInt64) hx hb dL_law_736 rfl ?_
    refine W.lcmp hx hb dL_law_737 ?_
    refine o_ti (z_cmp hu) ?_
    refine o_if_eq (a := 0) (tgt := 743) hx hb dL_law_738 (by decide) (Nat.le_of_ble_eq_true rfl) (fun _ => ?_) (fun z => absurd rfl z)
    refine lv_goto (tgt := 1310) hx hb dL_law_743 (by decide) ?_
    refine W.widen (k := cells + 1) (n := slots + 6) (by omega) (by omega) ?_
    exact K _ _ _ _ _ _ _ _ ⟨hP, hD, hS, g_undo G (by omega) hm1⟩ (z_drop hl)
set_option maxHeartbeats 4000000 in
set_option maxRecDepth 100000 in
theorem z_field {p : Program} {l : Launch} {e : Env} {s : State} {m : MethodId} {args : Array Value} {below : List Frame} {meth : Method} {c : Code} {Q : State → Prop} {D : va_G} {cI cR cS cL : ClassId} {sb L : Nat} {xs : Nat → Int32} {q o : Nat → Nat} {a i B cells slots : Nat} {H : Heap} {locs : List Loc} {ls : Array Slot} {x v mv : Nat → Nat → Nat} {V : Nat → Nat → Nat → Nat} {g : Nat → Int64} (C : z_C p l s m args c D cI cR cS cL sb L xs) (h : z_S s D q o cI cR cS cL a g x v mv V B H locs) (hl : lv_has ls 9 (z_L i sb a o q)) (hi : i + 3 ≤ L) (hB : B < 2 ^ 27) (hc : cells + 1 ≤ 601024) (hsl : slots + 6 ≤ 7293034) (K : z_N p l e s m args below meth c Q D cI cR cS cL sb q o a i (B + 60) (cells + 1) (slots + 6)) : W p l e room_1 s m args below meth c H locs cells slots Q (F0 m 746 ls []) := by
  obtain ⟨hx, hb, hml, hown, hts, hK, hfl, hX, hG⟩ := C
  obtain ⟨hP, hD, hS, G⟩ := h
  obtain ⟨hR, hSI, hI, -, -⟩ := id G
  obtain ⟨⟨gx0, gx1, gx2⟩, ⟨gx3, gx4, gx5⟩, hx1, hm3, hVI⟩ := g_x G
  have hN := hG.1
  have hA : ∀ q : Nat, s.heap.size ≤ q → z_A s q := fun _ h => h
  have hB28 : B < 2 ^ 28 := by omega
  have hs6 : mv 0 0 ≤ 6 := by omega
  have h60 : mv 0 1 ≤ 60 := by omega
  obtain ⟨y1, hy1, ey1⟩ := o_of (xs (i + 1))
  by_cases hc1 : y1 < 5
  · skip
    have ec : (if y1 < 5 then 0 else 1 : Nat) = 0 := by rw [if_pos hc1]
    refine lv_aload_n hx hb dL_law_746 rfl (lv_at hl 2 rfl) ?_
    refine lv_aload_n hx hb dL_law_747 rfl (lv_at hl 1 rfl) ?_
    refine lv_iload hx hb dL_law_748 (lv_at hl 0 rfl) ?_
    refine o_const (k := 1) hx hb dL_law_750 (by decide) ?_
    refine o_iadd (k := i + 1) hx hb dL_law_751 rfl ?_
    refine z_ld (y := y1) hx hb hX hS (show i + 1 < L by omega) ey1 dL_law_752 ?_
    refine lv_aload_n hx hb dL_law_753 rfl (lv_at hl 4 rfl) ?_
    refine o_xiT (wM q cI mv) (vx_runSX (As := [.ref (o 0), .int (nI y1), .ref a]) (rest := []) ⟨hx, hb, hml, hown, hts⟩ (l_field_0 l D cI cR cS cL H.size o x v (wV o cI cR V) B y1 a g (by first | assumption | omega)) (vx_cwSW 3 hts gL_law_L_field rfl rfl rfl (by decide +kernel) ⟨Nat.le_of_ble_eq_true rfl, Nat.le_of_ble_eq_true rfl⟩) (o_pF (W := [ol cL a 1 g] ++ (wO o cI cR cS x v (wV o cI cR V))) hK (hG.kept hS) (o_PT (pre := (wM q cI mv)) (ws := [ol cL a 1 g] ++ (wO o cI cR cS x v (wV o cI cR V))) hP) (o_DT (pre := (wM q cI mv)) (ws := [ol cL a 1 g] ++ (wO o cI cR cS x v (wV o cI cR V))) hD) (va_free hD hS hA _ (o_getT (wM q cI mv) ([ol cL a 1 g] ++ (wO o cI cR cS x v (wV o cI cR V)))))) rfl rfl hl.1 rfl (lv_room (Nat.le_of_ble_eq_true rfl)) dL_law_754 ⟨show cells + 0 ≤ 601024 by omega, show slots + 0 ≤ 7293034 by omega⟩) hP hD hS hA (fun _ => rfl) (fun r1 u H locs e1 hP8 hD8 hS => ?_)
    obtain ⟨er1, hu⟩ := e1
    have er1 : r1 = nI 0 := er1
    subst er1
    have hu : u 0 = (nI (v 1 y1)).toInt64 := hu
    have hP := hP8
    have hD := hD8
    have hP : va_P D vwCl (z_W q o cI cR cS cL a u x v mv V) H := hP
    have hD : va_D (z_A s) (z_W q o cI cR cS cL a u x v mv V) := hD
    refine lv_istore (lv' := [(5, .int (nI 0)), (4, .int (nI i)), (0, .ref sb), (1, .ref (o 0)), (2, .ref (q 0)), (3, .ref a)]) hx hb dL_law_757 hl (by decide) rfl (fun ls hl => ?_)
    refine lv_aload_n hx hb dL_law_759 rfl (lv_at hl 4 rfl) ?_
    refine lv_aload_n hx hb dL_law_760 rfl (lv_at hl 2 rfl) ?_
    refine lv_iload hx hb dL_law_761 (lv_at hl 1 rfl) ?_
    refine o_const (k := 1) hx hb dL_law_763 (by decide) ?_
    refine o_iadd (k := i + 1) hx hb dL_law_764 rfl ?_
    refine z_ld (y := y1) hx hb hX hS (show i + 1 < L by omega) ey1 dL_law_765 ?_
    refine o_wi (va_runV (As := [.int (nI y1)]) (rest := []) ⟨hx, hb, hml, hown, hts⟩ (k_X5_field l D cI cR cS cL H.size q mv B y1 (by first | assumption | omega) (by first | assumption | omega) (by first | assumption | omega)) (cwV 1 hts gL_law_X5_field rfl rfl rfl (by decide +kernel) ⟨Nat.le_of_ble_eq_true rfl, Nat.le_of_ble_eq_true rfl⟩) (o_v (o_pB hK hN (hP.sub (ws' := (wM q cI mv)) [0, 1, 2, 3, 4] rfl) (hD.sub (ws' := (wM q cI mv)) [0, 1, 2, 3, 4] (by decide +kernel) rfl)) (va_recv hK hP (ci := 5) (q0 := 0) rfl rfl)) rfl rfl hl.1 rfl (lv_room (Nat.le_of_ble_eq_true rfl)) dL_law_766 ⟨show cells + 0 + 0 ≤ 601024 by omega, show slots + 0 + 0 ≤ 7293034 by omega⟩) hP hD hS hA [0, 1, 2, 3, 4] (by decide +kernel) rfl (fun _ => rfl) (fun r2 _ H locs e2 hP hD hS => ?_)
    have hP : va_P D vwCl (z_W q o cI cR cS cL a u x v (va_up mv 0 (va_up (mv 0) 2 (if y1 < 5 then 0 else 1))) V) H := hP
    have hD : va_D (z_A s) (z_W q o cI cR cS cL a u x v (va_up mv 0 (va_up (mv 0) 2 (if y1 < 5 then 0 else 1))) V) := hD
    rw [ec] at hP hD
    have e2 : r2 = nI (if y1 < 5 then mv 1 (7 + y1) else 0) := e2
    have er : (if y1 < 5 then mv 1 (7 + y1) else 0) = (v 1 y1) := by rw [if_pos hc1]; exact (hR.2.1 y1 hc1).symm
    rw [er] at e2
    subst e2
    refine lv_istore (lv' := [(6, .int (nI (v 1 y1))), (5, .int (nI 0)), (4, .int (nI i)), (0, .ref sb), (1, .ref (o 0)), (2, .ref (q 0)), (3, .ref a)]) hx hb dL_law_769 hl (by decide) rfl (fun ls hl => ?_)
    refine lv_aload_n hx hb dL_law_771 rfl (lv_at hl 5 rfl) ?_
    refine o_ri (va_runV (As := []) (rest := []) ⟨hx, hb, hml, hown, hts⟩ (k_X5_thrown l D cI cR cS cL q (va_up mv 0 (va_up (mv 0) 2 0))) (cwV 0 hts gL_law_X5_thrown rfl rfl rfl (by decide +kernel) ⟨Nat.le_of_ble_eq_true rfl, Nat.le_of_ble_eq_true rfl⟩) (o_v (o_pR hK hN (hP.sub (ws' := (wM q cI (va_up mv 0 (va_up (mv 0) 2 0)))) [0, 1, 2, 3, 4] rfl)) (va_recv hK hP (ci := 5) (q0 := 0) rfl rfl)) rfl rfl hl.1 rfl (lv_room (Nat.le_of_ble_eq_true rfl)) dL_law_772 ⟨show cells + 0 + 0 ≤ 601024 by omega, show slots + 0 + 0 ≤ 7293034 by omega⟩) (fun r3 e3 => ?_)
    have e3 : r3 = nI 0 := e3.trans (congrArg nI (rfl : _ = 0))
    subst e3
    refine lv_iload hx hb dL_law_775 (lv_at hl 1 rfl) ?_
    refine o_icmp_eq (tgt := 782) hx hb dL_law_777 (by decide) (Nat.le_of_ble_eq_true rfl) (Nat.le_of_ble_eq_true rfl) (fun _ => ?_) (fun z => absurd rfl z)
    refine lv_iload hx hb dL_law_782 (lv_at hl 1 rfl) ?_
    refine o_if_ne (a := 0) (tgt := 799) hx hb dL_law_784 (by decide) (Nat.le_of_ble_eq_true rfl) (fun z => absurd rfl z) (fun _ => ?_)
    refine lv_aload_n hx hb dL_law_787 rfl (lv_at hl 6 rfl) ?_
    refine o_const (k := 0) hx hb dL_law_788 (by decide) ?_
    refine va_lald hx hb hK hP 5 3 rfl rfl (vp_in_nI (by decide) (by decide)) dL_law_789 ?_
    refine o_tl (congrArg u (nI_clamp (show 0 < 2 ^ 31 by decide))) ?_
    refine lv_iload hx hb dL_law_790 (lv_at hl 0 rfl) ?_
    refine lv_i2l (v := (nI (v 1 y1)).toInt64) hx hb dL_law_792 rfl ?_
    refine W.lcmp hx hb dL_law_793 ?_
    refine o_ti (z_cmp hu) ?_
    refine o_if_eq (a := 0) (tgt := 799) hx hb dL_law_794 (by decide) (Nat.le_of_ble_eq_true rfl) (fun _ => ?_) (fun z => absurd rfl z)
    refine lv_goto (tgt := 1310) hx hb dL_law_799 (by decide) ?_
    refine W.widen (k := cells + 1) (n := slots + 6) (by omega) (by omega) ?_
    exact K _ _ _ _ _ _ _ _ ⟨hP, hD, hS, g_thr G (by omega) 0⟩ (z_drop hl)
  · skip
    have ec : (if y1 < 5 then 0 else 1 : Nat) = 1 := by rw [if_neg hc1]
    refine lv_aload_n hx hb dL_law_746 rfl (lv_at hl 2 rfl) ?_
    refine lv_aload_n hx hb dL_law_747 rfl (lv_at hl 1 rfl) ?_
    refine lv_iload hx hb dL_law_748 (lv_at hl 0 rfl) ?_
    refine o_const (k := 1) hx hb dL_law_750 (by decide) ?_
    refine o_iadd (k := i + 1) hx hb dL_law_751 rfl ?_
    refine z_ld (y := y1) hx hb hX hS (show i + 1 < L by omega) ey1 dL_law_752 ?_
    refine lv_aload_n hx hb dL_law_753 rfl (lv_at hl 4 rfl) ?_
    refine o_xiT (wM q cI mv) (vx_runSX (As := [.ref (o 0), .int (nI y1), .ref a]) (rest := []) ⟨hx, hb, hml, hown, hts⟩ (l_field_1 l D cI cR cS cL hfl H.size o x v (wV o cI cR V) B y1 a g (by first | assumption | omega) (by first | assumption | omega)) (vx_cwSW 3 hts gL_law_L_field rfl rfl rfl (by decide +kernel) ⟨Nat.le_of_ble_eq_true rfl, Nat.le_of_ble_eq_true rfl⟩) (o_pF (W := [ol cL a 1 g] ++ (wO o cI cR cS x v (wV o cI cR V))) hK (hG.kept hS) (o_PT (pre := (wM q cI mv)) (ws := [ol cL a 1 g] ++ (wO o cI cR cS x v (wV o cI cR V))) hP) (o_DT (pre := (wM q cI mv)) (ws := [ol cL a 1 g] ++ (wO o cI cR cS x v (wV o cI cR V))) hD) (va_free hD hS hA _ (o_getT (wM q cI mv) ([ol cL a 1 g] ++ (wO o cI cR cS x v (wV o cI cR V)))))) rfl rfl hl.1 rfl (lv_room (Nat.le_of_ble_eq_true rfl)) dL_law_754 ⟨show cells + 1 ≤ 601024 by omega, show slots + 6 ≤ 7293034 by omega⟩) hP hD hS hA (fun _ => rfl) (fun r1 u H locs e1 hP8 hD8 hS => ?_)
    obtain ⟨er1, hu⟩ := e1
    have er1 : r1 = nI 1 := er1
    subst er1
    subst hu
    have hP := hP8
    have hD := hD8
    have hP : va_P D vwCl (z_W q o cI cR cS cL a u x v mv V) H := hP
    have hD : va_D (z_A s) (z_W q o cI cR cS cL a u x v mv V) := hD
    refine lv_istore (lv' := [(5, .int (nI 1)), (4, .int (nI i)), (0, .ref sb), (1, .ref (o 0)), (2, .ref (q 0)), (3, .ref a)]) hx hb dL_law_757 hl (by decide) rfl (fun ls hl => ?_)
    refine lv_aload_n hx hb dL_law_759 rfl (lv_at hl 4 rfl) ?_
    refine lv_aload_n hx hb dL_law_760 rfl (lv_at hl 2 rfl) ?_
    refine lv_iload hx hb dL_law_761 (lv_at hl 1 rfl) ?_
    refine o_const (k := 1) hx hb dL_law_763 (by decide) ?_
    refine o_iadd (k := i + 1) hx hb dL_law_764 rfl ?_
    refine z_ld (y := y1) hx hb hX hS (show i + 1 < L by omega) ey1 dL_law_765 ?_
    refine o_wi (va_runV (As := [.int (nI y1)]) (rest := []) ⟨hx, hb, hml, hown, hts⟩ (k_X5_field l D cI cR cS cL H.size q mv B y1 (by first | assumption | omega) (by first | assumption | omega) (by first | assumption | omega)) (cwV 1 hts gL_law_X5_field rfl rfl rfl (by decide +kernel) ⟨Nat.le_of_ble_eq_true rfl, Nat.le_of_ble_eq_true rfl⟩) (o_v (o_pB hK hN (hP.sub (ws' := (wM q cI mv)) [0, 1, 2, 3, 4] rfl) (hD.sub (ws' := (wM q cI mv)) [0, 1, 2, 3, 4] (by decide +kernel) rfl)) (va_recv hK hP (ci := 5) (q0 := 0) rfl rfl)) rfl rfl hl.1 rfl (lv_room (Nat.le_of_ble_eq_true rfl)) dL_law_766 ⟨show cells + 1 + 0 ≤ 601024 by omega, show slots + 6 + 0 ≤ 7293034 by omega⟩) hP hD hS hA [0, 1, 2, 3, 4] (by decide +kernel) rfl (fun _ => rfl) (fun r2 _ H locs e2 hP hD hS => ?_)
    have hP : va_P D vwCl (z_W q o cI cR cS cL a u x v (va_up mv 0 (va_up (mv 0) 2 (if y1 < 5 then 0 else 1))) V) H := hP
    have hD : va_D (z_A s) (z_W q o cI cR cS cL a u x v (va_up mv 0 (va_up (mv 0) 2 (if y1 < 5 then 0 else 1))) V) := hD
    rw [ec] at hP hD
    refine lv_istore (lv' := [(6, .int r2), (5, .int (nI 1)), (4, .int (nI i)), (0, .ref sb), (1, .ref (o 0)), (2, .ref (q 0)), (3, .ref a)]) hx hb dL_law_769 hl (by decide) rfl (fun ls hl => ?_)
    refine lv_aload_n hx hb dL_law_771 rfl (lv_at hl 5 rfl) ?_
    refine o_ri (va_runV (As := []) (rest := []) ⟨hx, hb, hml, hown, hts⟩ (k_X5_thrown l D cI cR cS cL q (va_up mv 0 (va_up (mv 0) 2 1))) (cwV 0 hts gL_law_X5_thrown rfl rfl rfl (by decide +kernel) ⟨Nat.le_of_ble_eq_true rfl, Nat.le_of_ble_eq_true rfl⟩) (o_v (o_pR hK hN (hP.sub (ws' := (wM q cI (va_up mv 0 (va_up (mv 0) 2 1)))) [0, 1, 2, 3, 4] rfl)) (va_recv hK hP (ci := 5) (q0 := 0) rfl rfl)) rfl rfl hl.1 rfl (lv_room (Nat.le_of_ble_eq_true rfl)) dL_law_772 ⟨show cells + 1 + 0 ≤ 601024 by omega, show slots + 6 + 0 ≤ 7293034 by omega⟩) (fun r3 e3 => ?_)
    have e3 : r3 = nI 1 := e3.trans (congrArg nI (rfl : _ = 1))
    subst e3
    refine lv_iload hx hb dL_law_775 (lv_at hl 1 rfl) ?_
    refine o_icmp_eq (tgt := 782) hx hb dL_law_777 (by decide) (Nat.le_of_ble_eq_true rfl) (Nat.le_of_ble_eq_true rfl) (fun _ => ?_) (fun z => absurd rfl z)
    refine lv_iload hx hb dL_law_782 (lv_at hl 1 rfl) ?_
    refine o_if_ne (a := 1) (tgt := 799) hx hb dL_law_784 (by decide) (Nat.le_of_ble_eq_true rfl) (fun _ => ?_) (fun z => absurd z (by decide))
    refine lv_goto (tgt := 1310) hx hb dL_law_799 (by decide) ?_
    refine W.widen (k := cells + 1) (n := slots + 6) (by omega) (by omega) ?_
    exact K _ _ _ _ _ _ _ _ ⟨hP, hD, hS, g_thr G (by omega) 1⟩ (z_drop hl)
set_option maxHeartbeats 4000000 in
set_option maxRecDepth 100000 in
theorem z_notice {p : Program} {l : Launch} {e : Env} {s : State} {m : MethodId} {args : Array Value} {below : List Frame} {meth : Method} {c : Code} {Q : State → Prop} {D : va_G} {cI cR cS cL : ClassId} {sb L : Nat} {xs : Nat → Int32} {q o : Nat → Nat} {a i B cells slots : Nat} {H : Heap} {locs : List Loc} {ls : Array Slot} {x v mv : Nat → Nat → Nat} {V : Nat → Nat → Nat → Nat} {g : Nat → Int64} (C : z_C p l s m args c D cI cR cS cL sb L xs) (h : z_S s D q o cI cR cS cL a g x v mv V B H locs) (hl : lv_has ls 9 (z_L i sb a o q)) (hi : i + 3 ≤ L) (hB : B < 2 ^ 27) (hc : cells + 1 ≤ 601024) (hsl : slots + 6 ≤ 7293034) (K : z_N p l e s m args below meth c Q D cI cR cS cL sb q o a i (B + 60) (cells + 1) (slots + 6)) : W p l e room_1 s m args below meth c H locs cells slots Q (F0 m 802 ls []) := by
  obtain ⟨hx, hb, hml, hown, hts, hK, hfl, hX, hG⟩ := C
  obtain ⟨hP, hD, hS, G⟩ := h
  obtain ⟨hR, hSI, hI, -, -⟩ := id G
  obtain ⟨⟨gx0, gx1, gx2⟩, ⟨gx3, gx4, gx5⟩, hx1, hm3, hVI⟩ := g_x G
  have hN := hG.1
  have hA : ∀ q : Nat, s.heap.size ≤ q → z_A s q := fun _ h => h
  have hB28 : B < 2 ^ 28 := by omega
  have hs6 : mv 0 0 ≤ 6 := by omega
  have h60 : mv 0 1 ≤ 60 := by omega
  obtain ⟨y1, hy1, ey1⟩ := o_of (xs (i + 1))
  obtain ⟨y2, hy2, ey2⟩ := o_of (xs (i + 2))
  by_cases hc1 : y2 < 5
  · skip
    by_cases hc2 : y1 < 2147483648
    · skip
      have ec : (if y2 < 5 then if y1 < 2147483648 then 0 else 2 else 1 : Nat) = 0 := by rw [if_pos hc1, if_pos hc2]
      refine lv_aload_n hx hb dL_law_802 rfl (lv_at hl 2 rfl) ?_
      refine lv_aload_n hx hb dL_law_803 rfl (lv_at hl 1 rfl) ?_
      refine lv_iload hx hb dL_law_804 (lv_at hl 0 rfl) ?_
      refine o_const (k := 1) hx hb dL_law_806 (by decide) ?_
      refine o_iadd (k := i + 1) hx hb dL_law_807 rfl ?_
      refine z_ld (y := y1) hx hb hX hS (show i + 1 < L by omega) ey1 dL_law_808 ?_
      refine lv_aload_n hx hb dL_law_809 rfl (lv_at hl 1 rfl) ?_
      refine lv_iload hx hb dL_law_810 (lv_at hl 0 rfl) ?_
      refine o_const (k := 2) hx hb dL_law_812 (by decide) ?_
      refine o_iadd (k := i + 2) hx hb dL_law_813 rfl ?_
      refine z_ld (y := y2) hx hb hX hS (show i + 2 < L by omega) ey2 dL_law_814 ?_
      refine lv_aload_n hx hb dL_law_815 rfl (lv_at hl 4 rfl) ?_
      refine o_xiT (wM q cI mv) (vx_runSX (As := [.ref (o 0), .int (nI y1), .int (nI y2), .ref a]) (rest := []) ⟨hx, hb, hml, hown, hts⟩ (l_notice_0 l D cI cR cS cL H.size o x v (wV o cI cR V) B y1 y2 a g (by first | assumption | omega) (by first | assumption | omega) (by first | assumption | omega) (by first | assumption | omega)) (vx_cwSW 4 hts gL_law_L_notice rfl rfl rfl (by decide +kernel) ⟨Nat.le_of_ble_eq_true rfl, Nat.le_of_ble_eq_true rfl⟩) (o_pF (W := [ol cL a 1 g] ++ (wO o cI cR cS x v (wV o cI cR V))) hK (hG.kept hS) (o_PT (pre := (wM q cI mv)) (ws := [ol cL a 1 g] ++ (wO o cI cR cS x v (wV o cI cR V))) hP) (o_DT (pre := (wM q cI mv)) (ws := [ol cL a 1 g] ++ (wO o cI cR cS x v (wV o cI cR V))) hD) (va_free hD hS hA _ (o_getT (wM q cI mv) ([ol cL a 1 g] ++ (wO o cI cR cS x v (wV o cI cR V)))))) rfl rfl hl.1 rfl (lv_room (Nat.le_of_ble_eq_true rfl)) dL_law_816 ⟨show cells + 0 ≤ 601024 by omega, show slots + 0 ≤ 7293034 by omega⟩) hP hD hS hA (fun _ => rfl) (fun r1 u H locs e1 hP8 hD8 hS => ?_)
      obtain ⟨er1, hu⟩ := e1
      have er1 : r1 = nI 0 := er1
      subst er1
      have hu : u 0 = (nI (b_kv v y1 y2)).toInt64 := hu
      have hP := hP8
      have hD := hD8
      have hP : va_P D vwCl (z_W q o cI cR cS cL a u x v mv V) H := hP
      have hD : va_D (z_A s) (z_W q o cI cR cS cL a u x v mv V) := hD
      refine lv_istore (lv' := [(5, .int (nI 0)), (4, .int (nI i)), (0, .ref sb), (1, .ref (o 0)), (2, .ref (q 0)), (3, .ref a)]) hx hb dL_law_819 hl (by decide) rfl (fun ls hl => ?_)
      refine lv_aload_n hx hb dL_law_821 rfl (lv_at hl 4 rfl) ?_
      refine lv_aload_n hx hb dL_law_822 rfl (lv_at hl 2 rfl) ?_
      refine lv_iload hx hb dL_law_823 (lv_at hl 1 rfl) ?_
      refine o_const (k := 1) hx hb dL_law_825 (by decide) ?_
      refine o_iadd (k := i + 1) hx hb dL_law_826 rfl ?_
      refine z_ld (y := y1) hx hb hX hS (show i + 1 < L by omega) ey1 dL_law_827 ?_
      refine lv_aload_n hx hb dL_law_828 rfl (lv_at hl 2 rfl) ?_
      refine lv_iload hx hb dL_law_829 (lv_at hl 1 rfl) ?_
      refine o_const (k := 2) hx hb dL_law_831 (by decide) ?_
      refine o_iadd (k := i + 2) hx hb dL_law_832 rfl ?_
      refine z_ld (y := y2) hx hb hX hS (show i + 2 < L by omega) ey2 dL_law_833 ?_
      refine o_wi (va_runV (As := [.int (nI y1), .int (nI y2)]) (rest := []) ⟨hx, hb, hml, hown, hts⟩ (k_X5_notice l D cI cR cS cL H.size q mv B y1 y2 (by first | assumption | omega) (by first | assumption | omega) (by first | assumption | omega) (by first | assumption | omega)) (cwV 2 hts gL_law_X5_notice rfl rfl rfl (by decide +kernel) ⟨Nat.le_of_ble_eq_true rfl, Nat.le_of_ble_eq_true rfl⟩) (o_v (o_pB hK hN (hP.sub (ws' := (wM q cI mv)) [0, 1, 2, 3, 4] rfl) (hD.sub (ws' := (wM q cI mv)) [0, 1, 2, 3, 4] (by decide +kernel) rfl)) (va_recv hK hP (ci := 5) (q0 := 0) rfl rfl)) rfl rfl hl.1 rfl (lv_room (Nat.le_of_ble_eq_true rfl)) dL_law_834 ⟨show cells + 0 + 0 ≤ 601024 by omega, show slots + 0 + 0 ≤ 7293034 by omega⟩) hP hD hS hA [0, 1, 2, 3, 4] (by decide +kernel) rfl (fun _ => rfl) (fun r2 _ H locs e2 hP hD hS => ?_)
      have hP : va_P D vwCl (z_W q o cI cR cS cL a u x v (va_up mv 0 (va_up (mv 0) 2 (if y2 < 5 then if y1 < 2147483648 then 0 else 2 else 1))) V) H := hP
      have hD : va_D (z_A s) (z_W q o cI cR cS cL a u x v (va_up mv 0 (va_up (mv 0) 2 (if y2 < 5 then if y1 < 2147483648 then 0 else 2 else 1))) V) := hD
      rw [ec] at hP hD
      have e2 : r2 = nI (if y2 < 5 then if y1 < 2147483648 then if y1 ≤ mv 1 0 / 2 ∧ mv 1 0 / 2 - y1 < 16 then mv 1 (83 + 5 * (y1 % 16) + y2) else 4294967295 else 0 else 0) := e2
      have er : (if y2 < 5 then if y1 < 2147483648 then if y1 ≤ mv 1 0 / 2 ∧ mv 1 0 / 2 - y1 < 16 then mv 1 (83 + 5 * (y1 % 16) + y2) else 4294967295 else 0 else 0) = (b_kv v y1 y2) := by rw [if_pos hc1, if_pos hc2]; exact (p_kv hR hI hc1).symm
      rw [er] at e2
      subst e2
      refine lv_istore (lv' := [(6, .int (nI (b_kv v y1 y2))), (5, .int (nI 0)), (4, .int (nI i)), (0, .ref sb), (1, .ref (o 0)), (2, .ref (q 0)), (3, .ref a)]) hx hb dL_law_837 hl (by decide) rfl (fun ls hl => ?_)
      refine lv_aload_n hx hb dL_law_839 rfl (lv_at hl 5 rfl) ?_
      refine o_ri (va_runV (As := []) (rest := []) ⟨hx, hb, hml, hown, hts⟩ (k_X5_thrown l D cI cR cS cL q (va_up mv 0 (va_up (mv 0) 2 0))) (cwV 0 hts gL_law_X5_thrown rfl rfl rfl (by decide +kernel) ⟨Nat.le_of_ble_eq_true rfl, Nat.le_of_ble_eq_true rfl⟩) (o_v (o_pR hK hN (hP.sub (ws' := (wM q cI (va_up mv 0 (va_up (mv 0) 2 0)))) [0, 1, 2, 3, 4] rfl)) (va_recv hK hP (ci := 5) (q0 := 0) rfl rfl)) rfl rfl hl.1 rfl (lv_room (Nat.le_of_ble_eq_true rfl)) dL_law_840 ⟨show cells + 0 + 0 ≤ 601024 by omega, show slots + 0 + 0 ≤ 7293034 by omega⟩) (fun r3 e3 => ?_)
      have e3 : r3 = nI 0 := e3.trans (congrArg nI (rfl : _ = 0))
      subst e3
      refine lv_iload hx hb dL_law_843 (lv_at hl 1 rfl) ?_
      refine o_icmp_eq (tgt := 850) hx hb dL_law_845 (by decide) (Nat.le_of_ble_eq_true rfl) (Nat.le_of_ble_eq_true rfl) (fun _ => ?_) (fun z => absurd rfl z)
      refine lv_iload hx hb dL_law_850 (lv_at hl 1 rfl) ?_
      refine o_if_ne (a := 0) (tgt := 867) hx hb dL_law_852 (by decide) (Nat.le_of_ble_eq_true rfl) (fun z => absurd rfl z) (fun _ => ?_)
      refine lv_aload_n hx hb dL_law_855 rfl (lv_at hl 6 rfl) ?_
      refine o_const (k := 0) hx hb dL_law_856 (by decide) ?_
      refine va_lald hx hb hK hP 5 3 rfl rfl (vp_in_nI (by decide) (by decide)) dL_law_857 ?_
      refine o_tl (congrArg u (nI_clamp (show 0 < 2 ^ 31 by decide))) ?_
      refine lv_iload hx hb dL_law_858 (lv_at hl 0 rfl) ?_
      refine lv_i2l (v := (nI (b_kv v y1 y2)).toInt64) hx hb dL_law_860 rfl ?_
      refine W.lcmp hx hb dL_law_861 ?_
      refine o_ti (z_cmp hu) ?_
      refine o_if_eq (a := 0) (tgt := 867) hx hb dL_law_862 (by decide) (Nat.le_of_ble_eq_true rfl) (fun _ => ?_) (fun z => absurd rfl z)
      refine lv_goto (tgt := 1310) hx hb dL_law_867 (by decide) ?_
      refine W.widen (k := cells + 1) (n := slots + 6) (by omega) (by omega) ?_
      exact K _ _ _ _ _ _ _ _ ⟨hP, hD, hS, g_thr G (by omega) 0⟩ (z_drop hl)
    · skip
      have ec : (if y2 < 5 then if y1 < 2147483648 then 0 else 2 else 1 : Nat) = 2 := by rw [if_pos hc1, if_neg hc2]
      refine lv_aload_n hx hb dL_law_802 rfl (lv_at hl 2 rfl) ?_
      refine lv_aload_n hx hb dL_law_803 rfl (lv_at hl 1 rfl) ?_
      refine lv_iload hx hb dL_law_804 (lv_at hl 0 rfl) ?_
      refine o_const (k := 1) hx hb dL_law_806 (by decide) ?_
      refine o_iadd (k := i + 1) hx hb dL_law_807 rfl ?_
      refine z_ld (y := y1) hx hb hX hS (show i + 1 < L by omega) ey1 dL_law_808 ?_
      refine lv_aload_n hx hb dL_law_809 rfl (lv_at hl 1 rfl) ?_
      refine lv_iload hx hb dL_law_810 (lv_at hl 0 rfl) ?_
      refine o_const (k := 2) hx hb dL_law_812 (by decide) ?_
      refine o_iadd (k := i + 2) hx hb dL_law_813 rfl ?_
      refine z_ld (y := y2) hx hb hX hS (show i + 2 < L by omega) ey2 dL_law_814 ?_
      refine lv_aload_n hx hb dL_law_815 rfl (lv_at hl 4 rfl) ?_
      refine o_xiT (wM q cI mv) (vx_runSX (As := [.ref (o 0), .int (nI y1), .int (nI y2), .ref a]) (rest := []) ⟨hx, hb, hml, hown, hts⟩ (l_notice_2 l D cI cR cS cL hfl H.size o x v (wV o cI cR V) B y1 y2 a g (by first | assumption | omega) (by first | assumption | omega) (by first | assumption | omega)) (vx_cwSW 4 hts gL_law_L_notice rfl rfl rfl (by decide +kernel) ⟨Nat.le_of_ble_eq_true rfl, Nat.le_of_ble_eq_true rfl⟩) (o_pF (W := [ol cL a 1 g] ++ (wO o cI cR cS x v (wV o cI cR V))) hK (hG.kept hS) (o_PT (pre := (wM q cI mv)) (ws := [ol cL a 1 g] ++ (wO o cI cR cS x v (wV o cI cR V))) hP) (o_DT (pre := (wM q cI mv)) (ws := [ol cL a 1 g] ++ (wO o cI cR cS x v (wV o cI cR V))) hD) (va_free hD hS hA _ (o_getT (wM q cI mv) ([ol cL a 1 g] ++ (wO o cI cR cS x v (wV o cI cR V)))))) rfl rfl hl.1 rfl (lv_room (Nat.le_of_ble_eq_true rfl)) dL_law_816 ⟨show cells + 1 ≤ 601024 by omega, show slots + 6 ≤ 7293034 by omega⟩) hP hD hS hA (fun _ => rfl) (fun r1 u H locs e1 hP8 hD8 hS => ?_)
      obtain ⟨er1, hu⟩ := e1
      have er1 : r1 = nI 2 := er1
      subst er1
      subst hu
      have hP := hP8
      have hD := hD8
      have hP : va_P D vwCl (z_W q o cI cR cS cL a u x v mv V) H := hP
      have hD : va_D (z_A s) (z_W q o cI cR cS cL a u x v mv V) := hD
      refine lv_istore (lv' := [(5, .int (nI 2)), (4, .int (nI i)), (0, .ref sb), (1, .ref (o 0)), (2, .ref (q 0)), (3, .ref a)]) hx hb dL_law_819 hl (by decide) rfl (fun ls hl => ?_)
      refine lv_aload_n hx hb dL_law_821 rfl (lv_at hl 4 rfl) ?_
      refine lv_aload_n hx hb dL_law_822 rfl (lv_at hl 2 rfl) ?_
      refine lv_iload hx hb dL_law_823 (lv_at hl 1 rfl) ?_
      refine o_const (k := 1) hx hb dL_law_825 (by decide) ?_
      refine o_iadd (k := i + 1) hx hb dL_law_826 rfl ?_
      refine z_ld (y := y1) hx hb hX hS (show i + 1 < L by omega) ey1 dL_law_827 ?_
      refine lv_aload_n hx hb dL_law_828 rfl (lv_at hl 2 rfl) ?_
      refine lv_iload hx hb dL_law_829 (lv_at hl 1 rfl) ?_
      refine o_const (k := 2) hx hb dL_law_831 (by decide) ?_
      refine o_iadd (k := i + 2) hx hb dL_law_832 rfl ?_
      refine z_ld (y := y2) hx hb hX hS (show i + 2 < L by omega) ey2 dL_law_833 ?_
      refine o_wi (va_runV (As := [.int (nI y1), .int (nI y2)]) (rest := []) ⟨hx, hb, hml, hown, hts⟩ (k_X5_notice l D cI cR cS cL H.size q mv B y1 y2 (by first | assumption | omega) (by first | assumption | omega) (by first | assumption | omega) (by first | assumption | omega)) (cwV 2 hts gL_law_X5_notice rfl rfl rfl (by decide +kernel) ⟨Nat.le_of_ble_eq_true rfl, Nat.le_of_ble_eq_true rfl⟩) (o_v (o_pB hK hN (hP.sub (ws' := (wM q cI mv)) [0, 1, 2, 3, 4] rfl) (hD.sub (ws' := (wM q cI mv)) [0, 1, 2, 3, 4] (by decide +kernel) rfl)) (va_recv hK hP (ci := 5) (q0 := 0) rfl rfl)) rfl rfl hl.1 rfl (lv_room (Nat.le_of_ble_eq_true rfl)) dL_law_834 ⟨show cells + 1 + 0 ≤ 601024 by omega, show slots + 6 + 0 ≤ 7293034 by omega⟩) hP hD hS hA [0, 1, 2, 3, 4] (by decide +kernel) rfl (fun _ => rfl) (fun r2 _ H locs e2 hP hD hS => ?_)
      have hP : va_P D vwCl (z_W q o cI cR cS cL a u x v (va_up mv 0 (va_up (mv 0) 2 (if y2 < 5 then if y1 < 2147483648 then 0 else 2 else 1))) V) H := hP
      have hD : va_D (z_A s) (z_W q o cI cR cS cL a u x v (va_up mv 0 (va_up (mv 0) 2 (if y2 < 5 then if y1 < 2147483648 then 0 else 2 else 1))) V) := hD
      rw [ec] at hP hD
      refine lv_istore (lv' := [(6, .int r2), (5, .int (nI 2)), (4, .int (nI i)), (0, .ref sb), (1, .ref (o 0)), (2, .ref (q 0)), (3, .ref a)]) hx hb dL_law_837 hl (by decide) rfl (fun ls hl => ?_)
      refine lv_aload_n hx hb dL_law_839 rfl (lv_at hl 5 rfl) ?_
      refine o_ri (va_runV (As := []) (rest := []) ⟨hx, hb, hml, hown, hts⟩ (k_X5_thrown l D cI cR cS cL q (va_up mv 0 (va_up (mv 0) 2 2))) (cwV 0 hts gL_law_X5_thrown rfl rfl rfl (by decide +kernel) ⟨Nat.le_of_ble_eq_true rfl, Nat.le_of_ble_eq_true rfl⟩) (o_v (o_pR hK hN (hP.sub (ws' := (wM q cI (va_up mv 0 (va_up (mv 0) 2 2)))) [0, 1, 2, 3, 4] rfl)) (va_recv hK hP (ci := 5) (q0 := 0) rfl rfl)) rfl rfl hl.1 rfl (lv_room (Nat.le_of_ble_eq_true rfl)) dL_law_840 ⟨show cells + 1 + 0 ≤ 601024 by omega, show slots + 6 + 0 ≤ 7293034 by omega⟩) (fun r3 e3 => ?_)
      have e3 : r3 = nI 2 := e3.trans (congrArg nI (rfl : _ = 2))
      subst e3
      refine lv_iload hx hb dL_law_843 (lv_at hl 1 rfl) ?_
      refine o_icmp_eq (tgt := 850) hx hb dL_law_845 (by decide) (Nat.le_of_ble_eq_true rfl) (Nat.le_of_ble_eq_true rfl) (fun _ => ?_) (fun z => absurd rfl z)
      refine lv_iload hx hb dL_law_850 (lv_at hl 1 rfl) ?_
      refine o_if_ne (a := 2) (tgt := 867) hx hb dL_law_852 (by decide) (Nat.le_of_ble_eq_true rfl) (fun _ => ?_) (fun z => absurd z (by decide))
      refine lv_goto (tgt := 1310) hx hb dL_law_867 (by decide) ?_
      refine W.widen (k := cells + 1) (n := slots + 6) (by omega) (by omega) ?_
      exact K _ _ _ _ _ _ _ _ ⟨hP, hD, hS, g_thr G (by omega) 2⟩ (z_drop hl)
  · skip
    have ec : (if y2 < 5 then if y1 < 2147483648 then 0 else 2 else 1 : Nat) = 1 := by rw [if_neg hc1]
    refine lv_aload_n hx hb dL_law_802 rfl (lv_at hl 2 rfl) ?_
    refine lv_aload_n hx hb dL_law_803 rfl (lv_at hl 1 rfl) ?_
    refine lv_iload hx hb dL_law_804 (lv_at hl 0 rfl) ?_
    refine o_const (k := 1) hx hb dL_law_806 (by decide) ?_
    refine o_iadd (k := i + 1) hx hb dL_law_807 rfl ?_
    refine z_ld (y := y1) hx hb hX hS (show i + 1 < L by omega) ey1 dL_law_808 ?_
    refine lv_aload_n hx hb dL_law_809 rfl (lv_at hl 1 rfl) ?_
    refine lv_iload hx hb dL_law_810 (lv_at hl 0 rfl) ?_
    refine o_const (k := 2) hx hb dL_law_812 (by decide) ?_
    refine o_iadd (k := i + 2) hx hb dL_law_813 rfl ?_
    refine z_ld (y := y2) hx hb hX hS (show i + 2 < L by omega) ey2 dL_law_814 ?_
    refine lv_aload_n hx hb dL_law_815 rfl (lv_at hl 4 rfl) ?_
    refine o_xiT (wM q cI mv) (vx_runSX (As := [.ref (o 0), .int (nI y1), .int (nI y2), .ref a]) (rest := []) ⟨hx, hb, hml, hown, hts⟩ (l_notice_1 l D cI cR cS cL hfl H.size o x v (wV o cI cR V) B y1 y2 a g (by first | assumption | omega) (by first | assumption | omega)) (vx_cwSW 4 hts gL_law_L_notice rfl rfl rfl (by decide +kernel) ⟨Nat.le_of_ble_eq_true rfl, Nat.le_of_ble_eq_true rfl⟩) (o_pF (W := [ol cL a 1 g] ++ (wO o cI cR cS x v (wV o cI cR V))) hK (hG.kept hS) (o_PT (pre := (wM q cI mv)) (ws := [ol cL a 1 g] ++ (wO o cI cR cS x v (wV o cI cR V))) hP) (o_DT (pre := (wM q cI mv)) (ws := [ol cL a 1 g] ++ (wO o cI cR cS x v (wV o cI cR V))) hD) (va_free hD hS hA _ (o_getT (wM q cI mv) ([ol cL a 1 g] ++ (wO o cI cR cS x v (wV o cI cR V)))))) rfl rfl hl.1 rfl (lv_room (Nat.le_of_ble_eq_true rfl)) dL_law_816 ⟨show cells + 1 ≤ 601024 by omega, show slots + 6 ≤ 7293034 by omega⟩) hP hD hS hA (fun _ => rfl) (fun r1 u H locs e1 hP8 hD8 hS => ?_)
    obtain ⟨er1, hu⟩ := e1
    have er1 : r1 = nI 1 := er1
    subst er1
    subst hu
    have hP := hP8
    have hD := hD8
    have hP : va_P D vwCl (z_W q o cI cR cS cL a u x v mv V) H := hP
    have hD : va_D (z_A s) (z_W q o cI cR cS cL a u x v mv V) := hD
    refine lv_istore (lv' := [(5, .int (nI 1)), (4, .int (nI i)), (0, .ref sb), (1, .ref (o 0)), (2, .ref (q 0)), (3, .ref a)]) hx hb dL_law_819 hl (by decide) rfl (fun ls hl => ?_)
    refine lv_aload_n hx hb dL_law_821 rfl (lv_at hl 4 rfl) ?_
    refine lv_aload_n hx hb dL_law_822 rfl (lv_at hl 2 rfl) ?_
    refine lv_iload hx hb dL_law_823 (lv_at hl 1 rfl) ?_
    refine o_const (k := 1) hx hb dL_law_825 (by decide) ?_
    refine o_iadd (k := i + 1) hx hb dL_law_826 rfl ?_
    refine z_ld (y := y1) hx hb hX hS (show i + 1 < L by omega) ey1 dL_law_827 ?_
    refine lv_aload_n hx hb dL_law_828 rfl (lv_at hl 2 rfl) ?_
    refine lv_iload hx hb dL_law_829 (lv_at hl 1 rfl) ?_
    refine o_const (k := 2) hx hb dL_law_831 (by decide) ?_
    refine o_iadd (k := i + 2) hx hb dL_law_832 rfl ?_
    refine z_ld (y := y2) hx hb hX hS (show i + 2 < L by omega) ey2 dL_law_833 ?_
    refine o_wi (va_runV (As := [.int (nI y1), .int (nI y2)]) (rest := []) ⟨hx, hb, hml, hown, hts⟩ (k_X5_notice l D cI cR cS cL H.size q mv B y1 y2 (by first | assumption | omega) (by first | assumption | omega) (by first | assumption | omega) (by first | assumption | omega)) (cwV 2 hts gL_law_X5_notice rfl rfl rfl (by decide +kernel) ⟨Nat.le_of_ble_eq_true rfl, Nat.le_of_ble_eq_true rfl⟩) (o_v (o_pB hK hN (hP.sub (ws' := (wM q cI mv)) [0, 1, 2, 3, 4] rfl) (hD.sub (ws' := (wM q cI mv)) [0, 1, 2, 3, 4] (by decide +kernel) rfl)) (va_recv hK hP (ci := 5) (q0 := 0) rfl rfl)) rfl rfl hl.1 rfl (lv_room (Nat.le_of_ble_eq_true rfl)) dL_law_834 ⟨show cells + 1 + 0 ≤ 601024 by omega, show slots + 6 + 0 ≤ 7293034 by omega⟩) hP hD hS hA [0, 1, 2, 3, 4] (by decide +kernel) rfl (fun _ => rfl) (fun r2 _ H locs e2 hP hD hS => ?_)
    have hP : va_P D vwCl (z_W q o cI cR cS cL a u x v (va_up mv 0 (va_up (mv 0) 2 (if y2 < 5 then if y1 < 2147483648 then 0 else 2 else 1))) V) H := hP
    have hD : va_D (z_A s) (z_W q o cI cR cS cL a u x v (va_up mv 0 (va_up (mv 0) 2 (if y2 < 5 then if y1 < 2147483648 then 0 else 2 else 1))) V) := hD
    rw [ec] at hP hD
    refine lv_istore (lv' := [(6, .int r2), (5, .int (nI 1)), (4, .int (nI i)), (0, .ref sb), (1, .ref (o 0)), (2, .ref (q 0)), (3, .ref a)]) hx hb dL_law_837 hl (by decide) rfl (fun ls hl => ?_)
    refine lv_aload_n hx hb dL_law_839 rfl (lv_at hl 5 rfl) ?_
    refine o_ri (va_runV (As := []) (rest := []) ⟨hx, hb, hml, hown, hts⟩ (k_X5_thrown l D cI cR cS cL q (va_up mv 0 (va_up (mv 0) 2 1))) (cwV 0 hts gL_law_X5_thrown rfl rfl rfl (by decide +kernel) ⟨Nat.le_of_ble_eq_true rfl, Nat.le_of_ble_eq_true rfl⟩) (o_v (o_pR hK hN (hP.sub (ws' := (wM q cI (va_up mv 0 (va_up (mv 0) 2 1)))) [0, 1, 2, 3, 4] rfl)) (va_recv hK hP (ci := 5) (q0 := 0) rfl rfl)) rfl rfl hl.1 rfl (lv_room (Nat.le_of_ble_eq_true rfl)) dL_law_840 ⟨show cells + 1 + 0 ≤ 601024 by omega, show slots + 6 + 0 ≤ 7293034 by omega⟩) (fun r3 e3 => ?_)
    have e3 : r3 = nI 1 := e3.trans (congrArg nI (rfl : _ = 1))
    subst e3
    refine lv_iload hx hb dL_law_843 (lv_at hl 1 rfl) ?_
    refine o_icmp_eq (tgt := 850) hx hb dL_law_845 (by decide) (Nat.le_of_ble_eq_true rfl) (Nat.le_of_ble_eq_true rfl) (fun _ => ?_) (fun z => absurd rfl z)
    refine lv_iload hx hb dL_law_850 (lv_at hl 1 rfl) ?_
    refine o_if_ne (a := 1) (tgt := 867) hx hb dL_law_852 (by decide) (Nat.le_of_ble_eq_true rfl) (fun _ => ?_) (fun z => absurd z (by decide))
    refine lv_goto (tgt := 1310) hx hb dL_law_867 (by decide) ?_
    refine W.widen (k := cells + 1) (n := slots + 6) (by omega) (by omega) ?_
    exact K _ _ _ _ _ _ _ _ ⟨hP, hD, hS, g_thr G (by omega) 1⟩ (z_drop hl)
